theorem dX5_copyFrom_2 : decode cX5_copyFrom 2 = .ok (.putfield 17, 3) := by decide +kernel
theorem dX5_copyFrom_5 : decode cX5_copyFrom 5 = .ok (.iconst 0, 1) := by decide +kernel
theorem dX5_copyFrom_6 : decode cX5_copyFrom 6 = .ok (.istore_n 2, 1) := by decide +kernel
theorem dX5_copyFrom_7 : decode cX5_copyFrom 7 = .ok (.iload_n 2, 1) := by decide +kernel
theorem dX5_copyFrom_8 : decode cX5_copyFrom 8 = .ok (.aload_n 1, 1) := by decide +kernel
theorem dX5_copyFrom_9 : decode cX5_copyFrom 9 = .ok (.getfield 17, 3) := by decide +kernel
theorem dX5_copyFrom_12 : decode cX5_copyFrom 12 = .ok (.if_icmp .ge 37, 3) := by decide +kernel
theorem dX5_copyFrom_15 : decode cX5_copyFrom 15 = .ok (.iload_n 2, 1) := by decide +kernel
theorem dX5_copyFrom_16 : decode cX5_copyFrom 16 = .ok (.aload_n 1, 1) := by decide +kernel
theorem dX5_copyFrom_17 : decode cX5_copyFrom 17 = .ok (.getfield 11, 3) := by decide +kernel
theorem dX5_copyFrom_20 : decode cX5_copyFrom 20 = .ok (.arraylength, 1) := by decide +kernel
theorem dX5_copyFrom_21 : decode cX5_copyFrom 21 = .ok (.if_icmp .ge 28, 3) := by decide +kernel
theorem dX5_copyFrom_24 : decode cX5_copyFrom 24 = .ok (.aload_n 1, 1) := by decide +kernel
theorem dX5_copyFrom_25 : decode cX5_copyFrom 25 = .ok (.getfield 11, 3) := by decide +kernel
theorem dX5_copyFrom_28 : decode cX5_copyFrom 28 = .ok (.iload_n 2, 1) := by decide +kernel
theorem dX5_copyFrom_29 : decode cX5_copyFrom 29 = .ok (.aaload, 1) := by decide +kernel
theorem dX5_copyFrom_30 : decode cX5_copyFrom 30 = .ok (.ifnull 13, 3) := by decide +kernel
theorem dX5_copyFrom_33 : decode cX5_copyFrom 33 = .ok (.aload_n 0, 1) := by decide +kernel
theorem dX5_copyFrom_34 : decode cX5_copyFrom 34 = .ok (.aload_n 1, 1) := by decide +kernel
theorem dX5_copyFrom_35 : decode cX5_copyFrom 35 = .ok (.getfield 11, 3) := by decide +kernel
theorem dX5_copyFrom_38 : decode cX5_copyFrom 38 = .ok (.iload_n 2, 1) := by decide +kernel
theorem dX5_copyFrom_39 : decode cX5_copyFrom 39 = .ok (.aaload, 1) := by decide +kernel
theorem dX5_copyFrom_40 : decode cX5_copyFrom 40 = .ok (.invokevirtual 26, 3) := by decide +kernel
theorem dX5_copyFrom_43 : decode cX5_copyFrom 43 = .ok (.iinc 2 1, 3) := by decide +kernel
theorem dX5_copyFrom_46 : decode cX5_copyFrom 46 = .ok (.goto (-39), 3) := by decide +kernel
theorem dX5_copyFrom_49 : decode cX5_copyFrom 49 = .ok (.return_, 1) := by decide +kernel
theorem dX6_init_0 : decode cX6_init 0 = .ok (.aload_n 0, 1) := by decide +kernel
theorem dX6_init_1 : decode cX6_init 1 = .ok (.invokespecial 3, 3) := by decide +kernel
theorem dX6_init_4 : decode cX6_init 4 = .ok (.aload_n 0, 1) := by decide +kernel
theorem dX6_init_5 : decode cX6_init 5 = .ok (.new 9, 3) := by decide +kernel
theorem dX6_init_8 : decode cX6_init 8 = .ok (.dup, 1) := by decide +kernel
theorem dX6_init_9 : decode cX6_init 9 = .ok (.bipush 125, 2) := by decide +kernel
theorem dX6_init_11 : decode cX6_init 11 = .ok (.newarray .int, 2) := by decide +kernel
theorem dX6_init_13 : decode cX6_init 13 = .ok (.iconst 5, 1) := by decide +kernel
theorem dX6_init_14 : decode cX6_init 14 = .ok (.invokespecial 13, 3) := by decide +kernel
theorem dX6_init_17 : decode cX6_init 17 = .ok (.putfield 16, 3) := by decide +kernel
theorem dX6_init_20 : decode cX6_init 20 = .ok (.return_, 1) := by decide +kernel
theorem dX6_read_0 : decode cX6_read 0 = .ok (.aload_n 0, 1) := by decide +kernel
theorem dX6_read_1 : decode cX6_read 1 = .ok (.getfield 16, 3) := by decide +kernel
theorem dX6_read_4 : decode cX6_read 4 = .ok (.invokevirtual 20, 3) := by decide +kernel
theorem dX6_read_7 : decode cX6_read 7 = .ok (.aload_n 0, 1) := by decide +kernel
theorem dX6_read_8 : decode cX6_read 8 = .ok (.iconst 0, 1) := by decide +kernel
theorem dX6_read_9 : decode cX6_read 9 = .ok (.putfield 23, 3) := by decide +kernel
theorem dX6_read_12 : decode cX6_read 12 = .ok (.aload_n 0, 1) := by decide +kernel
theorem dX6_read_13 : decode cX6_read 13 = .ok (.iconst 0, 1) := by decide +kernel
theorem dX6_read_14 : decode cX6_read 14 = .ok (.putfield 27, 3) := by decide +kernel
theorem dX6_read_17 : decode cX6_read 17 = .ok (.aload_n 0, 1) := by decide +kernel
theorem dX6_read_18 : decode cX6_read 18 = .ok (.iconst 0, 1) := by decide +kernel
theorem dX6_read_19 : decode cX6_read 19 = .ok (.putfield 30, 3) := by decide +kernel
theorem dX6_read_22 : decode cX6_read 22 = .ok (.aload_n 0, 1) := by decide +kernel
theorem dX6_read_23 : decode cX6_read 23 = .ok (.aload_n 1, 1) := by decide +kernel
theorem dX6_read_24 : decode cX6_read 24 = .ok (.aload_n 2, 1) := by decide +kernel
theorem dX6_read_25 : decode cX6_read 25 = .ok (.iconst 0, 1) := by decide +kernel
theorem dX6_read_26 : decode cX6_read 26 = .ok (.invokevirtual 33, 3) := by decide +kernel
theorem dX6_read_29 : decode cX6_read 29 = .ok (.aload_n 1, 1) := by decide +kernel
theorem dX6_read_30 : decode cX6_read 30 = .ok (.invokevirtual 37, 3) := by decide +kernel
theorem dX6_read_33 : decode cX6_read 33 = .ok (.iconst (-1), 1) := by decide +kernel
theorem dX6_read_34 : decode cX6_read 34 = .ok (.if_icmp .eq 12, 3) := by decide +kernel
theorem dX6_read_37 : decode cX6_read 37 = .ok (.aload_n 1, 1) := by decide +kernel
theorem dX6_read_38 : decode cX6_read 38 = .ok (.iconst 1, 1) := by decide +kernel
theorem dX6_read_39 : decode cX6_read 39 = .ok (.aload_n 1, 1) := by decide +kernel
theorem dX6_read_40 : decode cX6_read 40 = .ok (.getfield 43, 3) := by decide +kernel
theorem dX6_read_43 : decode cX6_read 43 = .ok (.invokevirtual 46, 3) := by decide +kernel
theorem dX6_read_46 : decode cX6_read 46 = .ok (.return_, 1) := by decide +kernel
theorem dX6_readSteps_0 : decode cX6_readSteps 0 = .ok (.iconst 0, 1) := by decide +kernel
theorem dX6_readSteps_1 : decode cX6_readSteps 1 = .ok (.istore 4, 2) := by decide +kernel
theorem dX6_readSteps_3 : decode cX6_readSteps 3 = .ok (.iload 4, 2) := by decide +kernel
theorem dX6_readSteps_5 : decode cX6_readSteps 5 = .ok (.sipush 150, 3) := by decide +kernel
theorem dX6_readSteps_8 : decode cX6_readSteps 8 = .ok (.if_icmp .gt 50, 3) := by decide +kernel
theorem dX6_readSteps_11 : decode cX6_readSteps 11 = .ok (.aload_n 1, 1) := by decide +kernel
theorem dX6_readSteps_12 : decode cX6_readSteps 12 = .ok (.invokevirtual 37, 3) := by decide +kernel
theorem dX6_readSteps_15 : decode cX6_readSteps 15 = .ok (.iconst (-1), 1) := by decide +kernel
theorem dX6_readSteps_16 : decode cX6_readSteps 16 = .ok (.if_icmp .eq 42, 3) := by decide +kernel
theorem dX6_readSteps_19 : decode cX6_readSteps 19 = .ok (.aload_n 1, 1) := by decide +kernel
theorem dX6_readSteps_20 : decode cX6_readSteps 20 = .ok (.invokevirtual 37, 3) := by decide +kernel
theorem dX6_readSteps_23 : decode cX6_readSteps 23 = .ok (.bipush 93, 2) := by decide +kernel
theorem dX6_readSteps_25 : decode cX6_readSteps 25 = .ok (.if_icmp .eq 33, 3) := by decide +kernel
theorem dX6_readSteps_28 : decode cX6_readSteps 28 = .ok (.aload_n 1, 1) := by decide +kernel
theorem dX6_readSteps_29 : decode cX6_readSteps 29 = .ok (.invokevirtual 50, 3) := by decide +kernel
theorem dX6_readSteps_32 : decode cX6_readSteps 32 = .ok (.aload_n 1, 1) := by decide +kernel
theorem dX6_readSteps_33 : decode cX6_readSteps 33 = .ok (.invokevirtual 53, 3) := by decide +kernel
theorem dX6_readSteps_36 : decode cX6_readSteps 36 = .ok (.ifCond .eq 10, 3) := by decide +kernel
theorem dX6_readSteps_39 : decode cX6_readSteps 39 = .ok (.aload_n 0, 1) := by decide +kernel
theorem dX6_readSteps_40 : decode cX6_readSteps 40 = .ok (.aload_n 1, 1) := by decide +kernel
theorem dX6_readSteps_41 : decode cX6_readSteps 41 = .ok (.aload_n 2, 1) := by decide +kernel
theorem dX6_readSteps_42 : decode cX6_readSteps 42 = .ok (.iload_n 3, 1) := by decide +kernel
theorem dX6_readSteps_43 : decode cX6_readSteps 43 = .ok (.invokevirtual 57, 3) := by decide +kernel
theorem dX6_readSteps_46 : decode cX6_readSteps 46 = .ok (.aload_n 1, 1) := by decide +kernel
theorem dX6_readSteps_47 : decode cX6_readSteps 47 = .ok (.bipush 59, 2) := by decide +kernel
theorem dX6_readSteps_49 : decode cX6_readSteps 49 = .ok (.invokevirtual 60, 3) := by decide +kernel
theorem dX6_readSteps_52 : decode cX6_readSteps 52 = .ok (.iinc 4 1, 3) := by decide +kernel
theorem dX6_readSteps_55 : decode cX6_readSteps 55 = .ok (.goto (-52), 3) := by decide +kernel
theorem dX6_readSteps_58 : decode cX6_readSteps 58 = .ok (.return_, 1) := by decide +kernel
theorem dX6_readStep_0 : decode cX6_readStep 0 = .ok (.aload_n 0, 1) := by decide +kernel
theorem dX6_readStep_1 : decode cX6_readStep 1 = .ok (.getfield 16, 3) := by decide +kernel
theorem dX6_readStep_4 : decode cX6_readStep 4 = .ok (.invokevirtual 64, 3) := by decide +kernel
theorem dX6_readStep_7 : decode cX6_readStep 7 = .ok (.istore 4, 2) := by decide +kernel
theorem dX6_readStep_9 : decode cX6_readStep 9 = .ok (.aload_n 1, 1) := by decide +kernel
theorem dX6_readStep_10 : decode cX6_readStep 10 = .ok (.ldc 67, 2) := by decide +kernel
theorem dX6_readStep_12 : decode cX6_readStep 12 = .ok (.invokevirtual 69, 3) := by decide +kernel
theorem dX6_readStep_15 : decode cX6_readStep 15 = .ok (.ifCond .eq 14, 3) := by decide +kernel
theorem dX6_readStep_18 : decode cX6_readStep 18 = .ok (.aload_n 0, 1) := by decide +kernel
theorem dX6_readStep_19 : decode cX6_readStep 19 = .ok (.aload_n 1, 1) := by decide +kernel
theorem dX6_readStep_20 : decode cX6_readStep 20 = .ok (.aload_n 2, 1) := by decide +kernel
theorem dX6_readStep_21 : decode cX6_readStep 21 = .ok (.iload 4, 2) := by decide +kernel
theorem dX6_readStep_23 : decode cX6_readStep 23 = .ok (.invokevirtual 73, 3) := by decide +kernel
theorem dX6_readStep_26 : decode cX6_readStep 26 = .ok (.goto 231, 3) := by decide +kernel
theorem dX6_readStep_29 : decode cX6_readStep 29 = .ok (.aload_n 1, 1) := by decide +kernel
theorem dX6_readStep_30 : decode cX6_readStep 30 = .ok (.ldc 76, 2) := by decide +kernel
theorem dX6_readStep_32 : decode cX6_readStep 32 = .ok (.invokevirtual 69, 3) := by decide +kernel
theorem dX6_readStep_35 : decode cX6_readStep 35 = .ok (.ifCond .eq 41, 3) := by decide +kernel
theorem dX6_readStep_38 : decode cX6_readStep 38 = .ok (.aload_n 0, 1) := by decide +kernel
theorem dX6_readStep_39 : decode cX6_readStep 39 = .ok (.getfield 16, 3) := by decide +kernel
theorem dX6_readStep_42 : decode cX6_readStep 42 = .ok (.iload 4, 2) := by decide +kernel
theorem dX6_readStep_44 : decode cX6_readStep 44 = .ok (.iconst 0, 1) := by decide +kernel
theorem dX6_readStep_45 : decode cX6_readStep 45 = .ok (.iconst 1, 1) := by decide +kernel
theorem dX6_readStep_46 : decode cX6_readStep 46 = .ok (.invokevirtual 78, 3) := by decide +kernel
theorem dX6_readStep_49 : decode cX6_readStep 49 = .ok (.aload_n 0, 1) := by decide +kernel
theorem dX6_readStep_50 : decode cX6_readStep 50 = .ok (.getfield 16, 3) := by decide +kernel
theorem dX6_readStep_53 : decode cX6_readStep 53 = .ok (.iload 4, 2) := by decide +kernel
theorem dX6_readStep_55 : decode cX6_readStep 55 = .ok (.iconst 1, 1) := by decide +kernel
theorem dX6_readStep_56 : decode cX6_readStep 56 = .ok (.aload_n 1, 1) := by decide +kernel
theorem dX6_readStep_57 : decode cX6_readStep 57 = .ok (.iconst 0, 1) := by decide +kernel
theorem dX6_readStep_58 : decode cX6_readStep 58 = .ok (.aload_n 2, 1) := by decide +kernel
theorem dX6_readStep_59 : decode cX6_readStep 59 = .ok (.getfield 82, 3) := by decide +kernel
theorem dX6_readStep_62 : decode cX6_readStep 62 = .ok (.getfield 87, 3) := by decide +kernel
theorem dX6_readStep_65 : decode cX6_readStep 65 = .ok (.iconst 1, 1) := by decide +kernel
theorem dX6_readStep_66 : decode cX6_readStep 66 = .ok (.isub, 1) := by decide +kernel
theorem dX6_readStep_67 : decode cX6_readStep 67 = .ok (.invokevirtual 90, 3) := by decide +kernel
theorem dX6_readStep_70 : decode cX6_readStep 70 = .ok (.invokevirtual 78, 3) := by decide +kernel
theorem dX6_readStep_73 : decode cX6_readStep 73 = .ok (.goto 184, 3) := by decide +kernel
theorem dX6_readStep_76 : decode cX6_readStep 76 = .ok (.aload_n 1, 1) := by decide +kernel
theorem dX6_readStep_77 : decode cX6_readStep 77 = .ok (.ldc 94, 2) := by decide +kernel
theorem dX6_readStep_79 : decode cX6_readStep 79 = .ok (.invokevirtual 69, 3) := by decide +kernel
theorem dX6_readStep_82 : decode cX6_readStep 82 = .ok (.ifCond .eq 58, 3) := by decide +kernel
theorem dX6_readStep_85 : decode cX6_readStep 85 = .ok (.aload_n 0, 1) := by decide +kernel
theorem dX6_readStep_86 : decode cX6_readStep 86 = .ok (.getfield 16, 3) := by decide +kernel
theorem dX6_readStep_89 : decode cX6_readStep 89 = .ok (.iload 4, 2) := by decide +kernel
theorem dX6_readStep_91 : decode cX6_readStep 91 = .ok (.iconst 0, 1) := by decide +kernel
theorem dX6_readStep_92 : decode cX6_readStep 92 = .ok (.iconst 2, 1) := by decide +kernel
theorem dX6_readStep_93 : decode cX6_readStep 93 = .ok (.invokevirtual 78, 3) := by decide +kernel
theorem dX6_readStep_96 : decode cX6_readStep 96 = .ok (.aload_n 0, 1) := by decide +kernel
theorem dX6_readStep_97 : decode cX6_readStep 97 = .ok (.getfield 16, 3) := by decide +kernel
theorem dX6_readStep_100 : decode cX6_readStep 100 = .ok (.iload 4, 2) := by decide +kernel
theorem dX6_readStep_102 : decode cX6_readStep 102 = .ok (.iconst 1, 1) := by decide +kernel
theorem dX6_readStep_103 : decode cX6_readStep 103 = .ok (.aload_n 1, 1) := by decide +kernel
theorem dX6_readStep_104 : decode cX6_readStep 104 = .ok (.iconst 0, 1) := by decide +kernel
theorem dX6_readStep_105 : decode cX6_readStep 105 = .ok (.aload_n 2, 1) := by decide +kernel
theorem dX6_readStep_106 : decode cX6_readStep 106 = .ok (.getfield 96, 3) := by decide +kernel
theorem dX6_readStep_109 : decode cX6_readStep 109 = .ok (.getfield 87, 3) := by decide +kernel
theorem dX6_readStep_112 : decode cX6_readStep 112 = .ok (.iconst 1, 1) := by decide +kernel
theorem dX6_readStep_113 : decode cX6_readStep 113 = .ok (.isub, 1) := by decide +kernel
theorem dX6_readStep_114 : decode cX6_readStep 114 = .ok (.invokevirtual 90, 3) := by decide +kernel
theorem dX6_readStep_117 : decode cX6_readStep 117 = .ok (.invokevirtual 78, 3) := by decide +kernel
theorem dX6_readStep_120 : decode cX6_readStep 120 = .ok (.aload_n 0, 1) := by decide +kernel
theorem dX6_readStep_121 : decode cX6_readStep 121 = .ok (.getfield 16, 3) := by decide +kernel
theorem dX6_readStep_124 : decode cX6_readStep 124 = .ok (.iload 4, 2) := by decide +kernel
theorem dX6_readStep_126 : decode cX6_readStep 126 = .ok (.iconst 2, 1) := by decide +kernel
theorem dX6_readStep_127 : decode cX6_readStep 127 = .ok (.aload_n 1, 1) := by decide +kernel
theorem dX6_readStep_128 : decode cX6_readStep 128 = .ok (.iconst 1, 1) := by decide +kernel
theorem dX6_readStep_129 : decode cX6_readStep 129 = .ok (.bipush 99, 2) := by decide +kernel
theorem dX6_readStep_131 : decode cX6_readStep 131 = .ok (.invokevirtual 90, 3) := by decide +kernel
theorem dX6_readStep_134 : decode cX6_readStep 134 = .ok (.invokevirtual 78, 3) := by decide +kernel
theorem dX6_readStep_137 : decode cX6_readStep 137 = .ok (.goto 120, 3) := by decide +kernel
theorem dX6_readStep_140 : decode cX6_readStep 140 = .ok (.aload_n 1, 1) := by decide +kernel
theorem dX6_readStep_141 : decode cX6_readStep 141 = .ok (.ldc 99, 2) := by decide +kernel
theorem dX6_readStep_143 : decode cX6_readStep 143 = .ok (.invokevirtual 69, 3) := by decide +kernel
theorem dX6_readStep_146 : decode cX6_readStep 146 = .ok (.ifCond .eq 58, 3) := by decide +kernel
theorem dX6_readStep_149 : decode cX6_readStep 149 = .ok (.aload_n 0, 1) := by decide +kernel
theorem dX6_readStep_150 : decode cX6_readStep 150 = .ok (.getfield 16, 3) := by decide +kernel
theorem dX6_readStep_153 : decode cX6_readStep 153 = .ok (.iload 4, 2) := by decide +kernel
theorem dX6_readStep_155 : decode cX6_readStep 155 = .ok (.iconst 0, 1) := by decide +kernel
theorem dX6_readStep_156 : decode cX6_readStep 156 = .ok (.iconst 3, 1) := by decide +kernel
theorem dX6_readStep_157 : decode cX6_readStep 157 = .ok (.invokevirtual 78, 3) := by decide +kernel
theorem dX6_readStep_160 : decode cX6_readStep 160 = .ok (.aload_n 0, 1) := by decide +kernel
theorem dX6_readStep_161 : decode cX6_readStep 161 = .ok (.getfield 16, 3) := by decide +kernel
theorem dX6_readStep_164 : decode cX6_readStep 164 = .ok (.iload 4, 2) := by decide +kernel
theorem dX6_readStep_166 : decode cX6_readStep 166 = .ok (.iconst 1, 1) := by decide +kernel
theorem dX6_readStep_167 : decode cX6_readStep 167 = .ok (.aload_n 1, 1) := by decide +kernel
theorem dX6_readStep_168 : decode cX6_readStep 168 = .ok (.iconst 0, 1) := by decide +kernel
theorem dX6_readStep_169 : decode cX6_readStep 169 = .ok (.aload_n 2, 1) := by decide +kernel
theorem dX6_readStep_170 : decode cX6_readStep 170 = .ok (.getfield 101, 3) := by decide +kernel
theorem dX6_readStep_173 : decode cX6_readStep 173 = .ok (.getfield 87, 3) := by decide +kernel
theorem dX6_readStep_176 : decode cX6_readStep 176 = .ok (.iconst 1, 1) := by decide +kernel
theorem dX6_readStep_177 : decode cX6_readStep 177 = .ok (.isub, 1) := by decide +kernel
theorem dX6_readStep_178 : decode cX6_readStep 178 = .ok (.invokevirtual 90, 3) := by decide +kernel
theorem dX6_readStep_181 : decode cX6_readStep 181 = .ok (.invokevirtual 78, 3) := by decide +kernel
theorem dX6_readStep_184 : decode cX6_readStep 184 = .ok (.aload_n 0, 1) := by decide +kernel
theorem dX6_readStep_185 : decode cX6_readStep 185 = .ok (.getfield 16, 3) := by decide +kernel
theorem dX6_readStep_188 : decode cX6_readStep 188 = .ok (.iload 4, 2) := by decide +kernel
theorem dX6_readStep_190 : decode cX6_readStep 190 = .ok (.iconst 2, 1) := by decide +kernel
theorem dX6_readStep_191 : decode cX6_readStep 191 = .ok (.aload_n 1, 1) := by decide +kernel
theorem dX6_readStep_192 : decode cX6_readStep 192 = .ok (.iconst 1, 1) := by decide +kernel
theorem dX6_readStep_193 : decode cX6_readStep 193 = .ok (.bipush 9, 2) := by decide +kernel
theorem dX6_readStep_195 : decode cX6_readStep 195 = .ok (.invokevirtual 90, 3) := by decide +kernel
theorem dX6_readStep_198 : decode cX6_readStep 198 = .ok (.invokevirtual 78, 3) := by decide +kernel
theorem dX6_readStep_201 : decode cX6_readStep 201 = .ok (.goto 56, 3) := by decide +kernel
theorem dX6_readStep_204 : decode cX6_readStep 204 = .ok (.aload_n 1, 1) := by decide +kernel
theorem dX6_readStep_205 : decode cX6_readStep 205 = .ok (.ldc 104, 2) := by decide +kernel
theorem dX6_readStep_207 : decode cX6_readStep 207 = .ok (.invokevirtual 69, 3) := by decide +kernel
theorem dX6_readStep_210 : decode cX6_readStep 210 = .ok (.ifCond .eq 17, 3) := by decide +kernel
theorem dX6_readStep_213 : decode cX6_readStep 213 = .ok (.aload_n 0, 1) := by decide +kernel
theorem dX6_readStep_214 : decode cX6_readStep 214 = .ok (.getfield 16, 3) := by decide +kernel
theorem dX6_readStep_217 : decode cX6_readStep 217 = .ok (.iload 4, 2) := by decide +kernel
theorem dX6_readStep_219 : decode cX6_readStep 219 = .ok (.iconst 0, 1) := by decide +kernel
theorem dX6_readStep_220 : decode cX6_readStep 220 = .ok (.iconst 4, 1) := by decide +kernel
theorem dX6_readStep_221 : decode cX6_readStep 221 = .ok (.invokevirtual 78, 3) := by decide +kernel
theorem dX6_readStep_224 : decode cX6_readStep 224 = .ok (.goto 33, 3) := by decide +kernel
theorem dX6_readStep_227 : decode cX6_readStep 227 = .ok (.aload_n 1, 1) := by decide +kernel
theorem dX6_readStep_228 : decode cX6_readStep 228 = .ok (.ldc 106, 2) := by decide +kernel
theorem dX6_readStep_230 : decode cX6_readStep 230 = .ok (.invokevirtual 69, 3) := by decide +kernel
theorem dX6_readStep_233 : decode cX6_readStep 233 = .ok (.ifCond .eq 15, 3) := by decide +kernel
theorem dX6_readStep_236 : decode cX6_readStep 236 = .ok (.aload_n 0, 1) := by decide +kernel
theorem dX6_readStep_237 : decode cX6_readStep 237 = .ok (.aload_n 1, 1) := by decide +kernel
theorem dX6_readStep_238 : decode cX6_readStep 238 = .ok (.aload_n 2, 1) := by decide +kernel
theorem dX6_readStep_239 : decode cX6_readStep 239 = .ok (.iload 4, 2) := by decide +kernel
theorem dX6_readStep_241 : decode cX6_readStep 241 = .ok (.iload_n 3, 1) := by decide +kernel
theorem dX6_readStep_242 : decode cX6_readStep 242 = .ok (.invokevirtual 108, 3) := by decide +kernel
theorem dX6_readStep_245 : decode cX6_readStep 245 = .ok (.goto 12, 3) := by decide +kernel
theorem dX6_readStep_248 : decode cX6_readStep 248 = .ok (.aload_n 1, 1) := by decide +kernel
theorem dX6_readStep_249 : decode cX6_readStep 249 = .ok (.iconst 1, 1) := by decide +kernel
theorem dX6_readStep_250 : decode cX6_readStep 250 = .ok (.aload_n 1, 1) := by decide +kernel
theorem dX6_readStep_251 : decode cX6_readStep 251 = .ok (.getfield 112, 3) := by decide +kernel
theorem dX6_readStep_254 : decode cX6_readStep 254 = .ok (.invokevirtual 46, 3) := by decide +kernel
theorem dX6_readStep_257 : decode cX6_readStep 257 = .ok (.return_, 1) := by decide +kernel
theorem dX6_readCarry_0 : decode cX6_readCarry 0 = .ok (.aload_n 1, 1) := by decide +kernel
theorem dX6_readCarry_1 : decode cX6_readCarry 1 = .ok (.iconst 0, 1) := by decide +kernel
theorem dX6_readCarry_2 : decode cX6_readCarry 2 = .ok (.aload_n 2, 1) := by decide +kernel
theorem dX6_readCarry_3 : decode cX6_readCarry 3 = .ok (.getfield 96, 3) := by decide +kernel
theorem dX6_readCarry_6 : decode cX6_readCarry 6 = .ok (.getfield 87, 3) := by decide +kernel
theorem dX6_readCarry_9 : decode cX6_readCarry 9 = .ok (.iconst 1, 1) := by decide +kernel
theorem dX6_readCarry_10 : decode cX6_readCarry 10 = .ok (.isub, 1) := by decide +kernel
theorem dX6_readCarry_11 : decode cX6_readCarry 11 = .ok (.invokevirtual 90, 3) := by decide +kernel
theorem dX6_readCarry_14 : decode cX6_readCarry 14 = .ok (.istore 4, 2) := by decide +kernel
theorem dX6_readCarry_16 : decode cX6_readCarry 16 = .ok (.aload_n 1, 1) := by decide +kernel
theorem dX6_readCarry_17 : decode cX6_readCarry 17 = .ok (.invokevirtual 37, 3) := by decide +kernel
theorem dX6_readCarry_20 : decode cX6_readCarry 20 = .ok (.pop, 1) := by decide +kernel
theorem dX6_readCarry_21 : decode cX6_readCarry 21 = .ok (.aload_n 1, 1) := by decide +kernel
theorem dX6_readCarry_22 : decode cX6_readCarry 22 = .ok (.getfield 43, 3) := by decide +kernel
theorem dX6_readCarry_25 : decode cX6_readCarry 25 = .ok (.istore 5, 2) := by decide +kernel
theorem dX6_readCarry_27 : decode cX6_readCarry 27 = .ok (.aload_n 1, 1) := by decide +kernel
theorem dX6_readCarry_28 : decode cX6_readCarry 28 = .ok (.iconst 0, 1) := by decide +kernel
theorem dX6_readCarry_29 : decode cX6_readCarry 29 = .ok (.aload_n 2, 1) := by decide +kernel
theorem dX6_readCarry_30 : decode cX6_readCarry 30 = .ok (.getfield 96, 3) := by decide +kernel
theorem dX6_readCarry_33 : decode cX6_readCarry 33 = .ok (.getfield 87, 3) := by decide +kernel
theorem dX6_readCarry_36 : decode cX6_readCarry 36 = .ok (.iconst 1, 1) := by decide +kernel
theorem dX6_readCarry_37 : decode cX6_readCarry 37 = .ok (.isub, 1) := by decide +kernel
theorem dX6_readCarry_38 : decode cX6_readCarry 38 = .ok (.invokevirtual 90, 3) := by decide +kernel
theorem dX6_readCarry_41 : decode cX6_readCarry 41 = .ok (.istore 6, 2) := by decide +kernel
theorem dX6_readCarry_43 : decode cX6_readCarry 43 = .ok (.aload_n 1, 1) := by decide +kernel
theorem dX6_readCarry_44 : decode cX6_readCarry 44 = .ok (.invokevirtual 53, 3) := by decide +kernel
theorem dX6_readCarry_47 : decode cX6_readCarry 47 = .ok (.ifCond .eq 17, 3) := by decide +kernel
theorem dX6_readCarry_50 : decode cX6_readCarry 50 = .ok (.iload 6, 2) := by decide +kernel
theorem dX6_readCarry_52 : decode cX6_readCarry 52 = .ok (.iload 4, 2) := by decide +kernel
theorem dX6_readCarry_54 : decode cX6_readCarry 54 = .ok (.if_icmp .ne 10, 3) := by decide +kernel
theorem dX6_readCarry_57 : decode cX6_readCarry 57 = .ok (.aload_n 1, 1) := by decide +kernel
theorem dX6_readCarry_58 : decode cX6_readCarry 58 = .ok (.iconst 2, 1) := by decide +kernel
theorem dX6_readCarry_59 : decode cX6_readCarry 59 = .ok (.iload 5, 2) := by decide +kernel
theorem dX6_readCarry_61 : decode cX6_readCarry 61 = .ok (.invokevirtual 46, 3) := by decide +kernel
theorem dX6_readCarry_64 : decode cX6_readCarry 64 = .ok (.aload_n 0, 1) := by decide +kernel
theorem dX6_readCarry_65 : decode cX6_readCarry 65 = .ok (.getfield 16, 3) := by decide +kernel
theorem dX6_readCarry_68 : decode cX6_readCarry 68 = .ok (.iload_n 3, 1) := by decide +kernel
theorem dX6_readCarry_69 : decode cX6_readCarry 69 = .ok (.iconst 0, 1) := by decide +kernel
theorem dX6_readCarry_70 : decode cX6_readCarry 70 = .ok (.iconst 0, 1) := by decide +kernel
theorem dX6_readCarry_71 : decode cX6_readCarry 71 = .ok (.invokevirtual 78, 3) := by decide +kernel
theorem dX6_readCarry_74 : decode cX6_readCarry 74 = .ok (.aload_n 0, 1) := by decide +kernel
theorem dX6_readCarry_75 : decode cX6_readCarry 75 = .ok (.getfield 16, 3) := by decide +kernel
theorem dX6_readCarry_78 : decode cX6_readCarry 78 = .ok (.iload_n 3, 1) := by decide +kernel
theorem dX6_readCarry_79 : decode cX6_readCarry 79 = .ok (.iconst 1, 1) := by decide +kernel
theorem dX6_readCarry_80 : decode cX6_readCarry 80 = .ok (.iload 4, 2) := by decide +kernel
theorem dX6_readCarry_82 : decode cX6_readCarry 82 = .ok (.invokevirtual 78, 3) := by decide +kernel
theorem dX6_readCarry_85 : decode cX6_readCarry 85 = .ok (.aload_n 0, 1) := by decide +kernel
theorem dX6_readCarry_86 : decode cX6_readCarry 86 = .ok (.getfield 16, 3) := by decide +kernel
theorem dX6_readCarry_89 : decode cX6_readCarry 89 = .ok (.iload_n 3, 1) := by decide +kernel
theorem dX6_readCarry_90 : decode cX6_readCarry 90 = .ok (.iconst 2, 1) := by decide +kernel
theorem dX6_readCarry_91 : decode cX6_readCarry 91 = .ok (.iload 6, 2) := by decide +kernel
theorem dX6_readCarry_93 : decode cX6_readCarry 93 = .ok (.invokevirtual 78, 3) := by decide +kernel
theorem dX6_readCarry_96 : decode cX6_readCarry 96 = .ok (.aload_n 0, 1) := by decide +kernel
theorem dX6_readCarry_97 : decode cX6_readCarry 97 = .ok (.getfield 16, 3) := by decide +kernel
theorem dX6_readCarry_100 : decode cX6_readCarry 100 = .ok (.iload_n 3, 1) := by decide +kernel
theorem dX6_readCarry_101 : decode cX6_readCarry 101 = .ok (.iconst 3, 1) := by decide +kernel
theorem dX6_readCarry_102 : decode cX6_readCarry 102 = .ok (.aload_n 1, 1) := by decide +kernel
theorem dX6_readCarry_103 : decode cX6_readCarry 103 = .ok (.iconst 1, 1) := by decide +kernel
theorem dX6_readCarry_104 : decode cX6_readCarry 104 = .ok (.bipush 99, 2) := by decide +kernel
theorem dX6_readCarry_106 : decode cX6_readCarry 106 = .ok (.invokevirtual 90, 3) := by decide +kernel
theorem dX6_readCarry_109 : decode cX6_readCarry 109 = .ok (.invokevirtual 78, 3) := by decide +kernel
theorem dX6_readCarry_112 : decode cX6_readCarry 112 = .ok (.aload_n 0, 1) := by decide +kernel
theorem dX6_readCarry_113 : decode cX6_readCarry 113 = .ok (.getfield 16, 3) := by decide +kernel
theorem dX6_readCarry_116 : decode cX6_readCarry 116 = .ok (.iload_n 3, 1) := by decide +kernel
theorem dX6_readCarry_117 : decode cX6_readCarry 117 = .ok (.iconst 4, 1) := by decide +kernel
theorem dX6_readCarry_118 : decode cX6_readCarry 118 = .ok (.aload_n 1, 1) := by decide +kernel
theorem dX6_readCarry_119 : decode cX6_readCarry 119 = .ok (.iconst 0, 1) := by decide +kernel
theorem dX6_readCarry_120 : decode cX6_readCarry 120 = .ok (.iconst 1, 1) := by decide +kernel
theorem dX6_readCarry_121 : decode cX6_readCarry 121 = .ok (.invokevirtual 90, 3) := by decide +kernel
theorem dX6_readCarry_124 : decode cX6_readCarry 124 = .ok (.iconst 1, 1) := by decide +kernel
theorem dX6_readCarry_125 : decode cX6_readCarry 125 = .ok (.if_icmp .ne 7, 3) := by decide +kernel
theorem dX6_readCarry_128 : decode cX6_readCarry 128 = .ok (.iconst 0, 1) := by decide +kernel
theorem dX6_readCarry_129 : decode cX6_readCarry 129 = .ok (.goto 4, 3) := by decide +kernel
theorem dX6_readCarry_132 : decode cX6_readCarry 132 = .ok (.iconst 1, 1) := by decide +kernel
theorem dX6_readCarry_133 : decode cX6_readCarry 133 = .ok (.invokevirtual 78, 3) := by decide +kernel
theorem dX6_readCarry_136 : decode cX6_readCarry 136 = .ok (.return_, 1) := by decide +kernel
theorem dX6_readAgain_0 : decode cX6_readAgain 0 = .ok (.iload 4, 2) := by decide +kernel
theorem dX6_readAgain_2 : decode cX6_readAgain 2 = .ok (.bipush 6, 2) := by decide +kernel
theorem dX6_readAgain_4 : decode cX6_readAgain 4 = .ok (.if_icmp .lt 13, 3) := by decide +kernel
theorem dX6_readAgain_7 : decode cX6_readAgain 7 = .ok (.aload_n 1, 1) := by decide +kernel
theorem dX6_readAgain_8 : decode cX6_readAgain 8 = .ok (.iconst 3, 1) := by decide +kernel
theorem dX6_readAgain_9 : decode cX6_readAgain 9 = .ok (.aload_n 1, 1) := by decide +kernel
theorem dX6_readAgain_10 : decode cX6_readAgain 10 = .ok (.getfield 112, 3) := by decide +kernel
theorem dX6_readAgain_13 : decode cX6_readAgain 13 = .ok (.invokevirtual 46, 3) := by decide +kernel
theorem dX6_readAgain_16 : decode cX6_readAgain 16 = .ok (.return_, 1) := by decide +kernel
theorem dX6_readAgain_17 : decode cX6_readAgain 17 = .ok (.aload_n 0, 1) := by decide +kernel
theorem dX6_readAgain_18 : decode cX6_readAgain 18 = .ok (.getfield 16, 3) := by decide +kernel
theorem dX6_readAgain_21 : decode cX6_readAgain 21 = .ok (.iload_n 3, 1) := by decide +kernel
theorem dX6_readAgain_22 : decode cX6_readAgain 22 = .ok (.iconst 0, 1) := by decide +kernel
theorem dX6_readAgain_23 : decode cX6_readAgain 23 = .ok (.iconst 5, 1) := by decide +kernel
theorem dX6_readAgain_24 : decode cX6_readAgain 24 = .ok (.invokevirtual 78, 3) := by decide +kernel
theorem dX6_readAgain_27 : decode cX6_readAgain 27 = .ok (.aload_n 0, 1) := by decide +kernel
theorem dX6_readAgain_28 : decode cX6_readAgain 28 = .ok (.getfield 16, 3) := by decide +kernel
theorem dX6_readAgain_31 : decode cX6_readAgain 31 = .ok (.iload_n 3, 1) := by decide +kernel
theorem dX6_readAgain_32 : decode cX6_readAgain 32 = .ok (.iconst 1, 1) := by decide +kernel
theorem dX6_readAgain_33 : decode cX6_readAgain 33 = .ok (.aload_n 1, 1) := by decide +kernel
theorem dX6_readAgain_34 : decode cX6_readAgain 34 = .ok (.iconst 0, 1) := by decide +kernel
theorem dX6_readAgain_35 : decode cX6_readAgain 35 = .ok (.bipush 20, 2) := by decide +kernel
theorem dX6_readAgain_37 : decode cX6_readAgain 37 = .ok (.invokevirtual 90, 3) := by decide +kernel
theorem dX6_readAgain_40 : decode cX6_readAgain 40 = .ok (.invokevirtual 78, 3) := by decide +kernel
theorem dX6_readAgain_43 : decode cX6_readAgain 43 = .ok (.aload_n 1, 1) := by decide +kernel
theorem dX6_readAgain_44 : decode cX6_readAgain 44 = .ok (.bipush 91, 2) := by decide +kernel
theorem dX6_readAgain_46 : decode cX6_readAgain 46 = .ok (.invokevirtual 60, 3) := by decide +kernel
theorem dX6_readAgain_49 : decode cX6_readAgain 49 = .ok (.aload_n 0, 1) := by decide +kernel
theorem dX6_readAgain_50 : decode cX6_readAgain 50 = .ok (.aload_n 1, 1) := by decide +kernel
theorem dX6_readAgain_51 : decode cX6_readAgain 51 = .ok (.aload_n 2, 1) := by decide +kernel
theorem dX6_readAgain_52 : decode cX6_readAgain 52 = .ok (.iload 4, 2) := by decide +kernel
theorem dX6_readAgain_54 : decode cX6_readAgain 54 = .ok (.iconst 1, 1) := by decide +kernel
theorem dX6_readAgain_55 : decode cX6_readAgain 55 = .ok (.iadd, 1) := by decide +kernel
theorem dX6_readAgain_56 : decode cX6_readAgain 56 = .ok (.invokevirtual 33, 3) := by decide +kernel
theorem dX6_readAgain_59 : decode cX6_readAgain 59 = .ok (.aload_n 1, 1) := by decide +kernel
theorem dX6_readAgain_60 : decode cX6_readAgain 60 = .ok (.bipush 93, 2) := by decide +kernel
theorem dX6_readAgain_62 : decode cX6_readAgain 62 = .ok (.invokevirtual 60, 3) := by decide +kernel
theorem dX6_readAgain_65 : decode cX6_readAgain 65 = .ok (.aload_n 0, 1) := by decide +kernel
theorem dX6_readAgain_66 : decode cX6_readAgain 66 = .ok (.getfield 16, 3) := by decide +kernel
theorem dX6_readAgain_69 : decode cX6_readAgain 69 = .ok (.iload_n 3, 1) := by decide +kernel
theorem dX6_readAgain_70 : decode cX6_readAgain 70 = .ok (.iconst 2, 1) := by decide +kernel
theorem dX6_readAgain_71 : decode cX6_readAgain 71 = .ok (.aload_n 0, 1) := by decide +kernel
theorem dX6_readAgain_72 : decode cX6_readAgain 72 = .ok (.getfield 16, 3) := by decide +kernel
theorem dX6_readAgain_75 : decode cX6_readAgain 75 = .ok (.getfield 87, 3) := by decide +kernel
theorem dX6_readAgain_78 : decode cX6_readAgain 78 = .ok (.invokevirtual 78, 3) := by decide +kernel
theorem dX6_readAgain_81 : decode cX6_readAgain 81 = .ok (.return_, 1) := by decide +kernel
theorem dX6_runSteps_0 : decode cX6_runSteps 0 = .ok (.iload_n 2, 1) := by decide +kernel
theorem dX6_runSteps_1 : decode cX6_runSteps 1 = .ok (.istore 5, 2) := by decide +kernel
theorem dX6_runSteps_3 : decode cX6_runSteps 3 = .ok (.iload 5, 2) := by decide +kernel
theorem dX6_runSteps_5 : decode cX6_runSteps 5 = .ok (.iload_n 3, 1) := by decide +kernel
theorem dX6_runSteps_6 : decode cX6_runSteps 6 = .ok (.if_icmp .ge 126, 3) := by decide +kernel
theorem dX6_runSteps_9 : decode cX6_runSteps 9 = .ok (.aload_n 0, 1) := by decide +kernel
theorem dX6_runSteps_10 : decode cX6_runSteps 10 = .ok (.getfield 23, 3) := by decide +kernel
theorem dX6_runSteps_13 : decode cX6_runSteps 13 = .ok (.sipush 200, 3) := by decide +kernel
theorem dX6_runSteps_16 : decode cX6_runSteps 16 = .ok (.if_icmp .ge 116, 3) := by decide +kernel
theorem dX6_runSteps_19 : decode cX6_runSteps 19 = .ok (.aload_n 0, 1) := by decide +kernel
theorem dX6_runSteps_20 : decode cX6_runSteps 20 = .ok (.dup, 1) := by decide +kernel
theorem dX6_runSteps_21 : decode cX6_runSteps 21 = .ok (.getfield 23, 3) := by decide +kernel
theorem dX6_runSteps_24 : decode cX6_runSteps 24 = .ok (.iconst 1, 1) := by decide +kernel
theorem dX6_runSteps_25 : decode cX6_runSteps 25 = .ok (.iadd, 1) := by decide +kernel
theorem dX6_runSteps_26 : decode cX6_runSteps 26 = .ok (.putfield 23, 3) := by decide +kernel
theorem dX6_runSteps_29 : decode cX6_runSteps 29 = .ok (.aload_n 0, 1) := by decide +kernel
theorem dX6_runSteps_30 : decode cX6_runSteps 30 = .ok (.getfield 16, 3) := by decide +kernel
theorem dX6_runSteps_33 : decode cX6_runSteps 33 = .ok (.iload 5, 2) := by decide +kernel
theorem dX6_runSteps_35 : decode cX6_runSteps 35 = .ok (.iconst 0, 1) := by decide +kernel
theorem dX6_runSteps_36 : decode cX6_runSteps 36 = .ok (.invokevirtual 115, 3) := by decide +kernel
theorem dX6_runSteps_39 : decode cX6_runSteps 39 = .ok (.iconst 5, 1) := by decide +kernel
theorem dX6_runSteps_40 : decode cX6_runSteps 40 = .ok (.if_icmp .ne 75, 3) := by decide +kernel
theorem dX6_runSteps_43 : decode cX6_runSteps 43 = .ok (.aload_n 0, 1) := by decide +kernel
theorem dX6_runSteps_44 : decode cX6_runSteps 44 = .ok (.getfield 16, 3) := by decide +kernel
theorem dX6_runSteps_47 : decode cX6_runSteps 47 = .ok (.iload 5, 2) := by decide +kernel
theorem dX6_runSteps_49 : decode cX6_runSteps 49 = .ok (.iconst 2, 1) := by decide +kernel
theorem dX6_runSteps_50 : decode cX6_runSteps 50 = .ok (.invokevirtual 115, 3) := by decide +kernel
theorem dX6_runSteps_53 : decode cX6_runSteps 53 = .ok (.iload 5, 2) := by decide +kernel
theorem dX6_runSteps_55 : decode cX6_runSteps 55 = .ok (.iconst 1, 1) := by decide +kernel
theorem dX6_runSteps_56 : decode cX6_runSteps 56 = .ok (.iadd, 1) := by decide +kernel
theorem dX6_runSteps_57 : decode cX6_runSteps 57 = .ok (.invokestatic 117, 3) := by decide +kernel
theorem dX6_runSteps_60 : decode cX6_runSteps 60 = .ok (.istore 6, 2) := by decide +kernel
theorem dX6_runSteps_62 : decode cX6_runSteps 62 = .ok (.iconst 0, 1) := by decide +kernel
theorem dX6_runSteps_63 : decode cX6_runSteps 63 = .ok (.istore 7, 2) := by decide +kernel
theorem dX6_runSteps_65 : decode cX6_runSteps 65 = .ok (.iload 7, 2) := by decide +kernel
theorem dX6_runSteps_67 : decode cX6_runSteps 67 = .ok (.aload_n 0, 1) := by decide +kernel
theorem dX6_runSteps_68 : decode cX6_runSteps 68 = .ok (.getfield 16, 3) := by decide +kernel
theorem dX6_runSteps_71 : decode cX6_runSteps 71 = .ok (.iload 5, 2) := by decide +kernel
theorem dX6_runSteps_73 : decode cX6_runSteps 73 = .ok (.iconst 1, 1) := by decide +kernel
theorem dX6_runSteps_74 : decode cX6_runSteps 74 = .ok (.invokevirtual 115, 3) := by decide +kernel
theorem dX6_runSteps_77 : decode cX6_runSteps 77 = .ok (.if_icmp .ge 31, 3) := by decide +kernel
theorem dX6_runSteps_80 : decode cX6_runSteps 80 = .ok (.iload 4, 2) := by decide +kernel
theorem dX6_runSteps_82 : decode cX6_runSteps 82 = .ok (.bipush 6, 2) := by decide +kernel
theorem dX6_runSteps_84 : decode cX6_runSteps 84 = .ok (.if_icmp .ge 24, 3) := by decide +kernel
theorem dX6_runSteps_87 : decode cX6_runSteps 87 = .ok (.aload_n 0, 1) := by decide +kernel
theorem dX6_runSteps_88 : decode cX6_runSteps 88 = .ok (.aload_n 1, 1) := by decide +kernel
theorem dX6_runSteps_89 : decode cX6_runSteps 89 = .ok (.iload 5, 2) := by decide +kernel
theorem dX6_runSteps_91 : decode cX6_runSteps 91 = .ok (.iconst 1, 1) := by decide +kernel
theorem dX6_runSteps_92 : decode cX6_runSteps 92 = .ok (.iadd, 1) := by decide +kernel
theorem dX6_runSteps_93 : decode cX6_runSteps 93 = .ok (.iload 6, 2) := by decide +kernel
theorem dX6_runSteps_95 : decode cX6_runSteps 95 = .ok (.iload 4, 2) := by decide +kernel
theorem dX6_runSteps_97 : decode cX6_runSteps 97 = .ok (.iconst 1, 1) := by decide +kernel
theorem dX6_runSteps_98 : decode cX6_runSteps 98 = .ok (.iadd, 1) := by decide +kernel
theorem dX6_runSteps_99 : decode cX6_runSteps 99 = .ok (.invokevirtual 122, 3) := by decide +kernel
theorem dX6_runSteps_102 : decode cX6_runSteps 102 = .ok (.iinc 7 1, 3) := by decide +kernel
theorem dX6_runSteps_105 : decode cX6_runSteps 105 = .ok (.goto (-40), 3) := by decide +kernel
theorem dX6_runSteps_108 : decode cX6_runSteps 108 = .ok (.iload 6, 2) := by decide +kernel
theorem dX6_runSteps_110 : decode cX6_runSteps 110 = .ok (.istore 5, 2) := by decide +kernel
theorem dX6_runSteps_112 : decode cX6_runSteps 112 = .ok (.goto (-109), 3) := by decide +kernel
theorem dX6_runSteps_115 : decode cX6_runSteps 115 = .ok (.aload_n 0, 1) := by decide +kernel
theorem dX6_runSteps_116 : decode cX6_runSteps 116 = .ok (.aload_n 0, 1) := by decide +kernel
theorem dX6_runSteps_117 : decode cX6_runSteps 117 = .ok (.aload_n 1, 1) := by decide +kernel
theorem dX6_runSteps_118 : decode cX6_runSteps 118 = .ok (.iload 5, 2) := by decide +kernel
theorem dX6_runSteps_120 : decode cX6_runSteps 120 = .ok (.invokevirtual 126, 3) := by decide +kernel
theorem dX6_runSteps_123 : decode cX6_runSteps 123 = .ok (.invokevirtual 130, 3) := by decide +kernel
theorem dX6_runSteps_126 : decode cX6_runSteps 126 = .ok (.iinc 5 1, 3) := by decide +kernel
theorem dX6_runSteps_129 : decode cX6_runSteps 129 = .ok (.goto (-126), 3) := by decide +kernel
theorem dX6_runSteps_132 : decode cX6_runSteps 132 = .ok (.return_, 1) := by decide +kernel
theorem dX6_keepAnswer_0 : decode cX6_keepAnswer 0 = .ok (.iload_n 1, 1) := by decide +kernel
theorem dX6_keepAnswer_1 : decode cX6_keepAnswer 1 = .ok (.ifCond .eq 16, 3) := by decide +kernel
theorem dX6_keepAnswer_4 : decode cX6_keepAnswer 4 = .ok (.aload_n 0, 1) := by decide +kernel
theorem dX6_keepAnswer_5 : decode cX6_keepAnswer 5 = .ok (.dup, 1) := by decide +kernel
theorem dX6_keepAnswer_6 : decode cX6_keepAnswer 6 = .ok (.getfield 27, 3) := by decide +kernel
theorem dX6_keepAnswer_9 : decode cX6_keepAnswer 9 = .ok (.iconst 1, 1) := by decide +kernel
theorem dX6_keepAnswer_10 : decode cX6_keepAnswer 10 = .ok (.iadd, 1) := by decide +kernel
theorem dX6_keepAnswer_11 : decode cX6_keepAnswer 11 = .ok (.putfield 27, 3) := by decide +kernel
theorem dX6_keepAnswer_14 : decode cX6_keepAnswer 14 = .ok (.goto 13, 3) := by decide +kernel
theorem dX6_keepAnswer_17 : decode cX6_keepAnswer 17 = .ok (.aload_n 0, 1) := by decide +kernel
theorem dX6_keepAnswer_18 : decode cX6_keepAnswer 18 = .ok (.dup, 1) := by decide +kernel
theorem dX6_keepAnswer_19 : decode cX6_keepAnswer 19 = .ok (.getfield 30, 3) := by decide +kernel
theorem dX6_keepAnswer_22 : decode cX6_keepAnswer 22 = .ok (.iconst 1, 1) := by decide +kernel
theorem dX6_keepAnswer_23 : decode cX6_keepAnswer 23 = .ok (.iadd, 1) := by decide +kernel
theorem dX6_keepAnswer_24 : decode cX6_keepAnswer 24 = .ok (.putfield 30, 3) := by decide +kernel
theorem dX6_keepAnswer_27 : decode cX6_keepAnswer 27 = .ok (.return_, 1) := by decide +kernel
theorem dX6_doStep_0 : decode cX6_doStep 0 = .ok (.aload_n 0, 1) := by decide +kernel
theorem dX6_doStep_1 : decode cX6_doStep 1 = .ok (.getfield 16, 3) := by decide +kernel
theorem dX6_doStep_4 : decode cX6_doStep 4 = .ok (.iload_n 2, 1) := by decide +kernel
theorem dX6_doStep_5 : decode cX6_doStep 5 = .ok (.iconst 1, 1) := by decide +kernel
theorem dX6_doStep_6 : decode cX6_doStep 6 = .ok (.invokevirtual 115, 3) := by decide +kernel
theorem dX6_doStep_9 : decode cX6_doStep 9 = .ok (.istore_n 3, 1) := by decide +kernel
theorem dX6_doStep_10 : decode cX6_doStep 10 = .ok (.aload_n 0, 1) := by decide +kernel
theorem dX6_doStep_11 : decode cX6_doStep 11 = .ok (.getfield 16, 3) := by decide +kernel
theorem dX6_doStep_14 : decode cX6_doStep 14 = .ok (.iload_n 2, 1) := by decide +kernel
theorem dX6_doStep_15 : decode cX6_doStep 15 = .ok (.iconst 2, 1) := by decide +kernel
theorem dX6_doStep_16 : decode cX6_doStep 16 = .ok (.invokevirtual 115, 3) := by decide +kernel
theorem dX6_doStep_19 : decode cX6_doStep 19 = .ok (.istore 4, 2) := by decide +kernel
theorem dX6_doStep_21 : decode cX6_doStep 21 = .ok (.aload_n 0, 1) := by decide +kernel
theorem dX6_doStep_22 : decode cX6_doStep 22 = .ok (.getfield 16, 3) := by decide +kernel
theorem dX6_doStep_25 : decode cX6_doStep 25 = .ok (.iload_n 2, 1) := by decide +kernel
theorem dX6_doStep_26 : decode cX6_doStep 26 = .ok (.iconst 0, 1) := by decide +kernel
theorem dX6_doStep_27 : decode cX6_doStep 27 = .ok (.invokevirtual 115, 3) := by decide +kernel
theorem dX6_doStep_30 : decode cX6_doStep 30 = .ok (.tableswitch 78 0 3 #[30, 56, 62, 70], 30) := by decide +kernel
theorem dX6_doStep_60 : decode cX6_doStep 60 = .ok (.aload_n 1, 1) := by decide +kernel
theorem dX6_doStep_61 : decode cX6_doStep 61 = .ok (.iload_n 3, 1) := by decide +kernel
theorem dX6_doStep_62 : decode cX6_doStep 62 = .ok (.iload 4, 2) := by decide +kernel
theorem dX6_doStep_64 : decode cX6_doStep 64 = .ok (.aload_n 0, 1) := by decide +kernel
theorem dX6_doStep_65 : decode cX6_doStep 65 = .ok (.getfield 16, 3) := by decide +kernel
theorem dX6_doStep_68 : decode cX6_doStep 68 = .ok (.iload_n 2, 1) := by decide +kernel
theorem dX6_doStep_69 : decode cX6_doStep 69 = .ok (.iconst 3, 1) := by decide +kernel
theorem dX6_doStep_70 : decode cX6_doStep 70 = .ok (.invokevirtual 115, 3) := by decide +kernel
theorem dX6_doStep_73 : decode cX6_doStep 73 = .ok (.aload_n 0, 1) := by decide +kernel
theorem dX6_doStep_74 : decode cX6_doStep 74 = .ok (.getfield 16, 3) := by decide +kernel
theorem dX6_doStep_77 : decode cX6_doStep 77 = .ok (.iload_n 2, 1) := by decide +kernel
theorem dX6_doStep_78 : decode cX6_doStep 78 = .ok (.iconst 4, 1) := by decide +kernel
theorem dX6_doStep_79 : decode cX6_doStep 79 = .ok (.invokevirtual 115, 3) := by decide +kernel
theorem dX6_doStep_82 : decode cX6_doStep 82 = .ok (.invokevirtual 134, 3) := by decide +kernel
theorem dX6_doStep_85 : decode cX6_doStep 85 = .ok (.ireturn, 1) := by decide +kernel
theorem dX6_doStep_86 : decode cX6_doStep 86 = .ok (.aload_n 1, 1) := by decide +kernel
theorem dX6_doStep_87 : decode cX6_doStep 87 = .ok (.iload_n 3, 1) := by decide +kernel
theorem dX6_doStep_88 : decode cX6_doStep 88 = .ok (.invokevirtual 140, 3) := by decide +kernel
theorem dX6_doStep_91 : decode cX6_doStep 91 = .ok (.ireturn, 1) := by decide +kernel
theorem dX6_doStep_92 : decode cX6_doStep 92 = .ok (.aload_n 1, 1) := by decide +kernel
theorem dX6_doStep_93 : decode cX6_doStep 93 = .ok (.iload_n 3, 1) := by decide +kernel
theorem dX6_doStep_94 : decode cX6_doStep 94 = .ok (.iload 4, 2) := by decide +kernel
theorem dX6_doStep_96 : decode cX6_doStep 96 = .ok (.invokevirtual 144, 3) := by decide +kernel
theorem dX6_doStep_99 : decode cX6_doStep 99 = .ok (.ireturn, 1) := by decide +kernel
theorem dX6_doStep_100 : decode cX6_doStep 100 = .ok (.aload_n 1, 1) := by decide +kernel
theorem dX6_doStep_101 : decode cX6_doStep 101 = .ok (.iload_n 3, 1) := by decide +kernel
theorem dX6_doStep_102 : decode cX6_doStep 102 = .ok (.iload 4, 2) := by decide +kernel
theorem dX6_doStep_104 : decode cX6_doStep 104 = .ok (.invokevirtual 148, 3) := by decide +kernel
theorem dX6_doStep_107 : decode cX6_doStep 107 = .ok (.ireturn, 1) := by decide +kernel
theorem dX6_doStep_108 : decode cX6_doStep 108 = .ok (.aload_n 1, 1) := by decide +kernel
theorem dX6_doStep_109 : decode cX6_doStep 109 = .ok (.invokevirtual 151, 3) := by decide +kernel
theorem dX6_doStep_112 : decode cX6_doStep 112 = .ok (.iconst 1, 1) := by decide +kernel
theorem dX6_doStep_113 : decode cX6_doStep 113 = .ok (.ireturn, 1) := by decide +kernel
theorem dX7_init_0 : decode cX7_init 0 = .ok (.aload_n 0, 1) := by decide +kernel
theorem dX7_init_1 : decode cX7_init 1 = .ok (.invokespecial 3, 3) := by decide +kernel
theorem dX7_init_4 : decode cX7_init 4 = .ok (.aload_n 0, 1) := by decide +kernel
theorem dX7_init_5 : decode cX7_init 5 = .ok (.new 9, 3) := by decide +kernel
theorem dX7_init_8 : decode cX7_init 8 = .ok (.dup, 1) := by decide +kernel
theorem dX7_init_9 : decode cX7_init 9 = .ok (.invokespecial 11, 3) := by decide +kernel
theorem dX7_init_12 : decode cX7_init 12 = .ok (.putfield 12, 3) := by decide +kernel
theorem dX7_init_15 : decode cX7_init 15 = .ok (.aload_n 0, 1) := by decide +kernel
theorem dX7_init_16 : decode cX7_init 16 = .ok (.new 18, 3) := by decide +kernel
theorem dX7_init_19 : decode cX7_init 19 = .ok (.dup, 1) := by decide +kernel
theorem dX7_init_20 : decode cX7_init 20 = .ok (.invokespecial 20, 3) := by decide +kernel
theorem dX7_init_23 : decode cX7_init 23 = .ok (.putfield 21, 3) := by decide +kernel
theorem dX7_init_26 : decode cX7_init 26 = .ok (.aload_n 0, 1) := by decide +kernel
theorem dX7_init_27 : decode cX7_init 27 = .ok (.new 25, 3) := by decide +kernel
theorem dX7_init_30 : decode cX7_init 30 = .ok (.dup, 1) := by decide +kernel
theorem dX7_init_31 : decode cX7_init 31 = .ok (.invokespecial 27, 3) := by decide +kernel
theorem dX7_init_34 : decode cX7_init 34 = .ok (.putfield 28, 3) := by decide +kernel
theorem dX7_init_37 : decode cX7_init 37 = .ok (.aload_n 0, 1) := by decide +kernel
theorem dX7_init_38 : decode cX7_init 38 = .ok (.new 25, 3) := by decide +kernel
theorem dX7_init_41 : decode cX7_init 41 = .ok (.dup, 1) := by decide +kernel
theorem dX7_init_42 : decode cX7_init 42 = .ok (.invokespecial 27, 3) := by decide +kernel
theorem dX7_init_45 : decode cX7_init 45 = .ok (.putfield 32, 3) := by decide +kernel
theorem dX7_init_48 : decode cX7_init 48 = .ok (.return_, 1) := by decide +kernel
theorem dX7_begin_0 : decode cX7_begin 0 = .ok (.aload_n 0, 1) := by decide +kernel
theorem dX7_begin_1 : decode cX7_begin 1 = .ok (.getfield 12, 3) := by decide +kernel
theorem dX7_begin_4 : decode cX7_begin 4 = .ok (.aload_n 1, 1) := by decide +kernel
theorem dX7_begin_5 : decode cX7_begin 5 = .ok (.invokevirtual 35, 3) := by decide +kernel
theorem dX7_begin_8 : decode cX7_begin 8 = .ok (.aload_n 0, 1) := by decide +kernel
theorem dX7_begin_9 : decode cX7_begin 9 = .ok (.getfield 21, 3) := by decide +kernel
theorem dX7_begin_12 : decode cX7_begin 12 = .ok (.aload_n 0, 1) := by decide +kernel
theorem dX7_begin_13 : decode cX7_begin 13 = .ok (.getfield 12, 3) := by decide +kernel
theorem dX7_begin_16 : decode cX7_begin 16 = .ok (.invokevirtual 39, 3) := by decide +kernel
theorem dX7_begin_19 : decode cX7_begin 19 = .ok (.aload_n 0, 1) := by decide +kernel
theorem dX7_begin_20 : decode cX7_begin 20 = .ok (.getfield 28, 3) := by decide +kernel
theorem dX7_begin_23 : decode cX7_begin 23 = .ok (.iconst 0, 1) := by decide +kernel
theorem dX7_begin_24 : decode cX7_begin 24 = .ok (.putfield 42, 3) := by decide +kernel
theorem dX7_begin_27 : decode cX7_begin 27 = .ok (.aload_n 0, 1) := by decide +kernel
theorem dX7_begin_28 : decode cX7_begin 28 = .ok (.getfield 32, 3) := by decide +kernel
theorem dX7_begin_31 : decode cX7_begin 31 = .ok (.iconst 0, 1) := by decide +kernel
theorem dX7_begin_32 : decode cX7_begin 32 = .ok (.putfield 42, 3) := by decide +kernel
theorem dX7_begin_35 : decode cX7_begin 35 = .ok (.return_, 1) := by decide +kernel
theorem dX7_arriving_0 : decode cX7_arriving 0 = .ok (.aload_n 0, 1) := by decide +kernel
theorem dX7_arriving_1 : decode cX7_arriving 1 = .ok (.getfield 12, 3) := by decide +kernel
theorem dX7_arriving_4 : decode cX7_arriving 4 = .ok (.iload_n 1, 1) := by decide +kernel
theorem dX7_arriving_5 : decode cX7_arriving 5 = .ok (.iload_n 2, 1) := by decide +kernel
theorem dX7_arriving_6 : decode cX7_arriving 6 = .ok (.invokevirtual 46, 3) := by decide +kernel
theorem dX7_arriving_9 : decode cX7_arriving 9 = .ok (.istore 5, 2) := by decide +kernel
theorem dX7_arriving_11 : decode cX7_arriving 11 = .ok (.aload_n 0, 1) := by decide +kernel
theorem dX7_arriving_12 : decode cX7_arriving 12 = .ok (.getfield 28, 3) := by decide +kernel
theorem dX7_arriving_15 : decode cX7_arriving 15 = .ok (.invokevirtual 50, 3) := by decide +kernel
theorem dX7_arriving_18 : decode cX7_arriving 18 = .ok (.ifCond .eq 27, 3) := by decide +kernel
theorem dX7_arriving_21 : decode cX7_arriving 21 = .ok (.aload_n 0, 1) := by decide +kernel
theorem dX7_arriving_22 : decode cX7_arriving 22 = .ok (.getfield 28, 3) := by decide +kernel
theorem dX7_arriving_25 : decode cX7_arriving 25 = .ok (.iload_n 3, 1) := by decide +kernel
theorem dX7_arriving_26 : decode cX7_arriving 26 = .ok (.iload 5, 2) := by decide +kernel
theorem dX7_arriving_28 : decode cX7_arriving 28 = .ok (.iload 4, 2) := by decide +kernel
theorem dX7_arriving_30 : decode cX7_arriving 30 = .ok (.iconst 0, 1) := by decide +kernel
theorem dX7_arriving_31 : decode cX7_arriving 31 = .ok (.iconst 0, 1) := by decide +kernel
theorem dX7_arriving_32 : decode cX7_arriving 32 = .ok (.aload_n 0, 1) := by decide +kernel
theorem dX7_arriving_33 : decode cX7_arriving 33 = .ok (.getfield 21, 3) := by decide +kernel
theorem dX7_arriving_36 : decode cX7_arriving 36 = .ok (.getfield 54, 3) := by decide +kernel
theorem dX7_arriving_39 : decode cX7_arriving 39 = .ok (.invokevirtual 57, 3) := by decide +kernel
theorem dX7_arriving_42 : decode cX7_arriving 42 = .ok (.goto 12, 3) := by decide +kernel
theorem dX7_arriving_45 : decode cX7_arriving 45 = .ok (.iload_n 3, 1) := by decide +kernel
theorem dX7_arriving_46 : decode cX7_arriving 46 = .ok (.iload_n 3, 1) := by decide +kernel
theorem dX7_arriving_47 : decode cX7_arriving 47 = .ok (.iload 5, 2) := by decide +kernel
theorem dX7_arriving_49 : decode cX7_arriving 49 = .ok (.imul, 1) := by decide +kernel
theorem dX7_arriving_50 : decode cX7_arriving 50 = .ok (.bipush 40, 2) := by decide +kernel
theorem dX7_arriving_52 : decode cX7_arriving 52 = .ok (.idiv, 1) := by decide +kernel
theorem dX7_arriving_53 : decode cX7_arriving 53 = .ok (.isub, 1) := by decide +kernel
theorem dX7_arriving_54 : decode cX7_arriving 54 = .ok (.istore 6, 2) := by decide +kernel
theorem dX7_arriving_56 : decode cX7_arriving 56 = .ok (.iconst 0, 1) := by decide +kernel
theorem dX7_arriving_57 : decode cX7_arriving 57 = .ok (.iload 6, 2) := by decide +kernel
theorem dX7_arriving_59 : decode cX7_arriving 59 = .ok (.iload_n 3, 1) := by decide +kernel
theorem dX7_arriving_60 : decode cX7_arriving 60 = .ok (.invokestatic 61, 3) := by decide +kernel
theorem dX7_arriving_63 : decode cX7_arriving 63 = .ok (.invokestatic 66, 3) := by decide +kernel
theorem dX7_arriving_66 : decode cX7_arriving 66 = .ok (.ireturn, 1) := by decide +kernel
theorem dX7_comingOut_0 : decode cX7_comingOut 0 = .ok (.iload_n 1, 1) := by decide +kernel
theorem dX7_comingOut_1 : decode cX7_comingOut 1 = .ok (.ifCond .ne 5, 3) := by decide +kernel
theorem dX7_comingOut_4 : decode cX7_comingOut 4 = .ok (.iconst 0, 1) := by decide +kernel
theorem dX7_comingOut_5 : decode cX7_comingOut 5 = .ok (.ireturn, 1) := by decide +kernel
theorem dX7_comingOut_6 : decode cX7_comingOut 6 = .ok (.aload_n 0, 1) := by decide +kernel
theorem dX7_comingOut_7 : decode cX7_comingOut 7 = .ok (.getfield 32, 3) := by decide +kernel
theorem dX7_comingOut_10 : decode cX7_comingOut 10 = .ok (.invokevirtual 50, 3) := by decide +kernel
theorem dX7_comingOut_13 : decode cX7_comingOut 13 = .ok (.ifCond .eq 19, 3) := by decide +kernel
theorem dX7_comingOut_16 : decode cX7_comingOut 16 = .ok (.aload_n 0, 1) := by decide +kernel
theorem dX7_comingOut_17 : decode cX7_comingOut 17 = .ok (.getfield 32, 3) := by decide +kernel
theorem dX7_comingOut_20 : decode cX7_comingOut 20 = .ok (.iconst 0, 1) := by decide +kernel
theorem dX7_comingOut_21 : decode cX7_comingOut 21 = .ok (.iconst 0, 1) := by decide +kernel
theorem dX7_comingOut_22 : decode cX7_comingOut 22 = .ok (.iconst 1, 1) := by decide +kernel
theorem dX7_comingOut_23 : decode cX7_comingOut 23 = .ok (.iload_n 1, 1) := by decide +kernel
theorem dX7_comingOut_24 : decode cX7_comingOut 24 = .ok (.iload_n 2, 1) := by decide +kernel
theorem dX7_comingOut_25 : decode cX7_comingOut 25 = .ok (.iload_n 3, 1) := by decide +kernel
theorem dX7_comingOut_26 : decode cX7_comingOut 26 = .ok (.invokevirtual 57, 3) := by decide +kernel
theorem dX7_comingOut_29 : decode cX7_comingOut 29 = .ok (.goto 6, 3) := by decide +kernel
theorem dX7_comingOut_32 : decode cX7_comingOut 32 = .ok (.iload_n 1, 1) := by decide +kernel
theorem dX7_comingOut_33 : decode cX7_comingOut 33 = .ok (.iconst 3, 1) := by decide +kernel
theorem dX7_comingOut_34 : decode cX7_comingOut 34 = .ok (.imul, 1) := by decide +kernel
theorem dX7_comingOut_35 : decode cX7_comingOut 35 = .ok (.istore 4, 2) := by decide +kernel
theorem dX7_comingOut_37 : decode cX7_comingOut 37 = .ok (.iconst 0, 1) := by decide +kernel
theorem dX7_comingOut_38 : decode cX7_comingOut 38 = .ok (.iload 4, 2) := by decide +kernel
theorem dX7_comingOut_40 : decode cX7_comingOut 40 = .ok (.iload_n 2, 1) := by decide +kernel
theorem dX7_comingOut_41 : decode cX7_comingOut 41 = .ok (.invokestatic 61, 3) := by decide +kernel
theorem dX7_comingOut_44 : decode cX7_comingOut 44 = .ok (.invokestatic 66, 3) := by decide +kernel
theorem dX7_comingOut_47 : decode cX7_comingOut 47 = .ok (.ireturn, 1) := by decide +kernel
theorem dX7_isMineOpen_0 : decode cX7_isMineOpen 0 = .ok (.iload_n 2, 1) := by decide +kernel
theorem dX7_isMineOpen_1 : decode cX7_isMineOpen 1 = .ok (.bipush 12, 2) := by decide +kernel
theorem dX7_isMineOpen_3 : decode cX7_isMineOpen 3 = .ok (.irem, 1) := by decide +kernel
theorem dX7_isMineOpen_4 : decode cX7_isMineOpen 4 = .ok (.aload_n 0, 1) := by decide +kernel
theorem dX7_isMineOpen_5 : decode cX7_isMineOpen 5 = .ok (.getfield 12, 3) := by decide +kernel
theorem dX7_isMineOpen_8 : decode cX7_isMineOpen 8 = .ok (.getfield 69, 3) := by decide +kernel
theorem dX7_isMineOpen_11 : decode cX7_isMineOpen 11 = .ok (.iload_n 1, 1) := by decide +kernel
theorem dX7_isMineOpen_12 : decode cX7_isMineOpen 12 = .ok (.iconst 2, 1) := by decide +kernel
theorem dX7_isMineOpen_13 : decode cX7_isMineOpen 13 = .ok (.invokevirtual 73, 3) := by decide +kernel
theorem dX7_isMineOpen_16 : decode cX7_isMineOpen 16 = .ok (.if_icmp .lt 7, 3) := by decide +kernel
theorem dX7_isMineOpen_19 : decode cX7_isMineOpen 19 = .ok (.iconst 1, 1) := by decide +kernel
theorem dX7_isMineOpen_20 : decode cX7_isMineOpen 20 = .ok (.goto 4, 3) := by decide +kernel
theorem dX7_isMineOpen_23 : decode cX7_isMineOpen 23 = .ok (.iconst 0, 1) := by decide +kernel
theorem dX7_isMineOpen_24 : decode cX7_isMineOpen 24 = .ok (.ireturn, 1) := by decide +kernel
theorem dX7_isOpenAt_0 : decode cX7_isOpenAt 0 = .ok (.aload_n 0, 1) := by decide +kernel
theorem dX7_isOpenAt_1 : decode cX7_isOpenAt 1 = .ok (.getfield 21, 3) := by decide +kernel
theorem dX7_isOpenAt_4 : decode cX7_isOpenAt 4 = .ok (.getfield 78, 3) := by decide +kernel
theorem dX7_isOpenAt_7 : decode cX7_isOpenAt 7 = .ok (.iload_n 1, 1) := by decide +kernel
theorem dX7_isOpenAt_8 : decode cX7_isOpenAt 8 = .ok (.iconst 0, 1) := by decide +kernel
theorem dX7_isOpenAt_9 : decode cX7_isOpenAt 9 = .ok (.invokevirtual 73, 3) := by decide +kernel
theorem dX7_isOpenAt_12 : decode cX7_isOpenAt 12 = .ok (.iconst 1, 1) := by decide +kernel
theorem dX7_isOpenAt_13 : decode cX7_isOpenAt 13 = .ok (.if_icmp .ne 23, 3) := by decide +kernel
theorem dX7_isOpenAt_16 : decode cX7_isOpenAt 16 = .ok (.aload_n 0, 1) := by decide +kernel
theorem dX7_isOpenAt_17 : decode cX7_isOpenAt 17 = .ok (.getfield 12, 3) := by decide +kernel
theorem dX7_isOpenAt_20 : decode cX7_isOpenAt 20 = .ok (.getfield 81, 3) := by decide +kernel
theorem dX7_isOpenAt_23 : decode cX7_isOpenAt 23 = .ok (.iload_n 1, 1) := by decide +kernel
theorem dX7_isOpenAt_24 : decode cX7_isOpenAt 24 = .ok (.iconst 0, 1) := by decide +kernel
theorem dX7_isOpenAt_25 : decode cX7_isOpenAt 25 = .ok (.invokevirtual 73, 3) := by decide +kernel
theorem dX7_isOpenAt_28 : decode cX7_isOpenAt 28 = .ok (.iload_n 2, 1) := by decide +kernel
theorem dX7_isOpenAt_29 : decode cX7_isOpenAt 29 = .ok (.if_icmp .ne 7, 3) := by decide +kernel
theorem dX7_isOpenAt_32 : decode cX7_isOpenAt 32 = .ok (.iconst 1, 1) := by decide +kernel
theorem dX7_isOpenAt_33 : decode cX7_isOpenAt 33 = .ok (.goto 4, 3) := by decide +kernel
theorem dX7_isOpenAt_36 : decode cX7_isOpenAt 36 = .ok (.iconst 0, 1) := by decide +kernel
theorem dX7_isOpenAt_37 : decode cX7_isOpenAt 37 = .ok (.ireturn, 1) := by decide +kernel
theorem dX7_hoursAt_0 : decode cX7_hoursAt 0 = .ok (.aload_n 0, 1) := by decide +kernel
theorem dX7_hoursAt_1 : decode cX7_hoursAt 1 = .ok (.getfield 21, 3) := by decide +kernel
theorem dX7_hoursAt_4 : decode cX7_hoursAt 4 = .ok (.getfield 82, 3) := by decide +kernel
theorem dX7_hoursAt_7 : decode cX7_hoursAt 7 = .ok (.iload_n 1, 1) := by decide +kernel
theorem dX7_hoursAt_8 : decode cX7_hoursAt 8 = .ok (.iconst 0, 1) := by decide +kernel
theorem dX7_hoursAt_9 : decode cX7_hoursAt 9 = .ok (.invokevirtual 73, 3) := by decide +kernel
theorem dX7_hoursAt_12 : decode cX7_hoursAt 12 = .ok (.aload_n 0, 1) := by decide +kernel
theorem dX7_hoursAt_13 : decode cX7_hoursAt 13 = .ok (.getfield 21, 3) := by decide +kernel
theorem dX7_hoursAt_16 : decode cX7_hoursAt 16 = .ok (.getfield 82, 3) := by decide +kernel
theorem dX7_hoursAt_19 : decode cX7_hoursAt 19 = .ok (.iload_n 1, 1) := by decide +kernel
theorem dX7_hoursAt_20 : decode cX7_hoursAt 20 = .ok (.iconst 1, 1) := by decide +kernel
theorem dX7_hoursAt_21 : decode cX7_hoursAt 21 = .ok (.invokevirtual 73, 3) := by decide +kernel
theorem dX7_hoursAt_24 : decode cX7_hoursAt 24 = .ok (.iadd, 1) := by decide +kernel
theorem dX7_hoursAt_25 : decode cX7_hoursAt 25 = .ok (.ireturn, 1) := by decide +kernel
theorem dX7_hoursWanted_0 : decode cX7_hoursWanted 0 = .ok (.iconst 0, 1) := by decide +kernel
theorem dX7_hoursWanted_1 : decode cX7_hoursWanted 1 = .ok (.istore_n 3, 1) := by decide +kernel
theorem dX7_hoursWanted_2 : decode cX7_hoursWanted 2 = .ok (.iconst 0, 1) := by decide +kernel
theorem dX7_hoursWanted_3 : decode cX7_hoursWanted 3 = .ok (.istore 4, 2) := by decide +kernel
theorem dX7_hoursWanted_5 : decode cX7_hoursWanted 5 = .ok (.iload 4, 2) := by decide +kernel
theorem dX7_hoursWanted_7 : decode cX7_hoursWanted 7 = .ok (.aload_n 0, 1) := by decide +kernel
theorem dX7_hoursWanted_8 : decode cX7_hoursWanted 8 = .ok (.getfield 12, 3) := by decide +kernel
theorem dX7_hoursWanted_11 : decode cX7_hoursWanted 11 = .ok (.getfield 81, 3) := by decide +kernel
theorem dX7_hoursWanted_14 : decode cX7_hoursWanted 14 = .ok (.getfield 85, 3) := by decide +kernel
theorem dX7_hoursWanted_17 : decode cX7_hoursWanted 17 = .ok (.if_icmp .ge 52, 3) := by decide +kernel
theorem dX7_hoursWanted_20 : decode cX7_hoursWanted 20 = .ok (.aload_n 0, 1) := by decide +kernel
theorem dX7_hoursWanted_21 : decode cX7_hoursWanted 21 = .ok (.iload 4, 2) := by decide +kernel
theorem dX7_hoursWanted_23 : decode cX7_hoursWanted 23 = .ok (.iload_n 1, 1) := by decide +kernel
theorem dX7_hoursWanted_24 : decode cX7_hoursWanted 24 = .ok (.invokevirtual 88, 3) := by decide +kernel
theorem dX7_hoursWanted_27 : decode cX7_hoursWanted 27 = .ok (.ifCond .eq 36, 3) := by decide +kernel
theorem dX7_hoursWanted_30 : decode cX7_hoursWanted 30 = .ok (.aload_n 0, 1) := by decide +kernel
theorem dX7_hoursWanted_31 : decode cX7_hoursWanted 31 = .ok (.getfield 12, 3) := by decide +kernel
theorem dX7_hoursWanted_34 : decode cX7_hoursWanted 34 = .ok (.getfield 81, 3) := by decide +kernel
theorem dX7_hoursWanted_37 : decode cX7_hoursWanted 37 = .ok (.iload 4, 2) := by decide +kernel
theorem dX7_hoursWanted_39 : decode cX7_hoursWanted 39 = .ok (.iconst 3, 1) := by decide +kernel
theorem dX7_hoursWanted_40 : decode cX7_hoursWanted 40 = .ok (.invokevirtual 73, 3) := by decide +kernel
theorem dX7_hoursWanted_43 : decode cX7_hoursWanted 43 = .ok (.iload_n 2, 1) := by decide +kernel
theorem dX7_hoursWanted_44 : decode cX7_hoursWanted 44 = .ok (.if_icmp .lt 19, 3) := by decide +kernel
theorem dX7_hoursWanted_47 : decode cX7_hoursWanted 47 = .ok (.iload_n 3, 1) := by decide +kernel
theorem dX7_hoursWanted_48 : decode cX7_hoursWanted 48 = .ok (.aload_n 0, 1) := by decide +kernel
theorem dX7_hoursWanted_49 : decode cX7_hoursWanted 49 = .ok (.getfield 12, 3) := by decide +kernel
theorem dX7_hoursWanted_52 : decode cX7_hoursWanted 52 = .ok (.getfield 81, 3) := by decide +kernel
theorem dX7_hoursWanted_55 : decode cX7_hoursWanted 55 = .ok (.iload 4, 2) := by decide +kernel
theorem dX7_hoursWanted_57 : decode cX7_hoursWanted 57 = .ok (.iconst 1, 1) := by decide +kernel
theorem dX7_hoursWanted_58 : decode cX7_hoursWanted 58 = .ok (.invokevirtual 73, 3) := by decide +kernel
theorem dX7_hoursWanted_61 : decode cX7_hoursWanted 61 = .ok (.iadd, 1) := by decide +kernel
theorem dX7_hoursWanted_62 : decode cX7_hoursWanted 62 = .ok (.istore_n 3, 1) := by decide +kernel
theorem dX7_hoursWanted_63 : decode cX7_hoursWanted 63 = .ok (.iinc 4 1, 3) := by decide +kernel
theorem dX7_hoursWanted_66 : decode cX7_hoursWanted 66 = .ok (.goto (-61), 3) := by decide +kernel
theorem dX7_hoursWanted_69 : decode cX7_hoursWanted 69 = .ok (.iload_n 3, 1) := by decide +kernel
theorem dX7_hoursWanted_70 : decode cX7_hoursWanted 70 = .ok (.ireturn, 1) := by decide +kernel
theorem dX7_isSaleable_0 : decode cX7_isSaleable 0 = .ok (.aload_n 0, 1) := by decide +kernel
theorem dX7_isSaleable_1 : decode cX7_isSaleable 1 = .ok (.getfield 12, 3) := by decide +kernel
theorem dX7_isSaleable_4 : decode cX7_isSaleable 4 = .ok (.getfield 81, 3) := by decide +kernel
theorem dX7_isSaleable_7 : decode cX7_isSaleable 7 = .ok (.iload_n 1, 1) := by decide +kernel
theorem dX7_isSaleable_8 : decode cX7_isSaleable 8 = .ok (.iconst 0, 1) := by decide +kernel
theorem dX7_isSaleable_9 : decode cX7_isSaleable 9 = .ok (.invokevirtual 73, 3) := by decide +kernel
theorem dX7_isSaleable_12 : decode cX7_isSaleable 12 = .ok (.istore_n 2, 1) := by decide +kernel
theorem dX7_isSaleable_13 : decode cX7_isSaleable 13 = .ok (.aload_n 0, 1) := by decide +kernel
theorem dX7_isSaleable_14 : decode cX7_isSaleable 14 = .ok (.getfield 12, 3) := by decide +kernel
theorem dX7_isSaleable_17 : decode cX7_isSaleable 17 = .ok (.getfield 81, 3) := by decide +kernel
theorem dX7_isSaleable_20 : decode cX7_isSaleable 20 = .ok (.iload_n 1, 1) := by decide +kernel
theorem dX7_isSaleable_21 : decode cX7_isSaleable 21 = .ok (.iconst 2, 1) := by decide +kernel
theorem dX7_isSaleable_22 : decode cX7_isSaleable 22 = .ok (.invokevirtual 73, 3) := by decide +kernel
theorem dX7_isSaleable_25 : decode cX7_isSaleable 25 = .ok (.iconst 1, 1) := by decide +kernel
theorem dX7_isSaleable_26 : decode cX7_isSaleable 26 = .ok (.if_icmp .ne 18, 3) := by decide +kernel
theorem dX7_isSaleable_29 : decode cX7_isSaleable 29 = .ok (.aload_n 0, 1) := by decide +kernel
theorem dX7_isSaleable_30 : decode cX7_isSaleable 30 = .ok (.getfield 21, 3) := by decide +kernel
theorem dX7_isSaleable_33 : decode cX7_isSaleable 33 = .ok (.getfield 82, 3) := by decide +kernel
theorem dX7_isSaleable_36 : decode cX7_isSaleable 36 = .ok (.iload_n 2, 1) := by decide +kernel
theorem dX7_isSaleable_37 : decode cX7_isSaleable 37 = .ok (.iconst 0, 1) := by decide +kernel
theorem dX7_isSaleable_38 : decode cX7_isSaleable 38 = .ok (.invokevirtual 73, 3) := by decide +kernel
theorem dX7_isSaleable_41 : decode cX7_isSaleable 41 = .ok (.goto 8, 3) := by decide +kernel
theorem dX7_isSaleable_44 : decode cX7_isSaleable 44 = .ok (.aload_n 0, 1) := by decide +kernel
theorem dX7_isSaleable_45 : decode cX7_isSaleable 45 = .ok (.iload_n 2, 1) := by decide +kernel
theorem dX7_isSaleable_46 : decode cX7_isSaleable 46 = .ok (.invokevirtual 92, 3) := by decide +kernel
theorem dX7_isSaleable_49 : decode cX7_isSaleable 49 = .ok (.istore_n 3, 1) := by decide +kernel
theorem dX7_isSaleable_50 : decode cX7_isSaleable 50 = .ok (.aload_n 0, 1) := by decide +kernel
theorem dX7_isSaleable_51 : decode cX7_isSaleable 51 = .ok (.getfield 21, 3) := by decide +kernel
theorem dX7_isSaleable_54 : decode cX7_isSaleable 54 = .ok (.getfield 78, 3) := by decide +kernel
theorem dX7_isSaleable_57 : decode cX7_isSaleable 57 = .ok (.iload_n 1, 1) := by decide +kernel
theorem dX7_isSaleable_58 : decode cX7_isSaleable 58 = .ok (.iconst 0, 1) := by decide +kernel
theorem dX7_isSaleable_59 : decode cX7_isSaleable 59 = .ok (.invokevirtual 73, 3) := by decide +kernel
theorem dX7_isSaleable_62 : decode cX7_isSaleable 62 = .ok (.iconst 1, 1) := by decide +kernel
theorem dX7_isSaleable_63 : decode cX7_isSaleable 63 = .ok (.if_icmp .ne 23, 3) := by decide +kernel
theorem dX7_isSaleable_66 : decode cX7_isSaleable 66 = .ok (.aload_n 0, 1) := by decide +kernel
theorem dX7_isSaleable_67 : decode cX7_isSaleable 67 = .ok (.getfield 12, 3) := by decide +kernel
theorem dX7_isSaleable_70 : decode cX7_isSaleable 70 = .ok (.getfield 81, 3) := by decide +kernel
theorem dX7_isSaleable_73 : decode cX7_isSaleable 73 = .ok (.iload_n 1, 1) := by decide +kernel
theorem dX7_isSaleable_74 : decode cX7_isSaleable 74 = .ok (.iconst 1, 1) := by decide +kernel
theorem dX7_isSaleable_75 : decode cX7_isSaleable 75 = .ok (.invokevirtual 73, 3) := by decide +kernel
theorem dX7_isSaleable_78 : decode cX7_isSaleable 78 = .ok (.iload_n 3, 1) := by decide +kernel
theorem dX7_isSaleable_79 : decode cX7_isSaleable 79 = .ok (.if_icmp .gt 7, 3) := by decide +kernel
theorem dX7_isSaleable_82 : decode cX7_isSaleable 82 = .ok (.iconst 1, 1) := by decide +kernel
theorem dX7_isSaleable_83 : decode cX7_isSaleable 83 = .ok (.goto 4, 3) := by decide +kernel
theorem dX7_isSaleable_86 : decode cX7_isSaleable 86 = .ok (.iconst 0, 1) := by decide +kernel
theorem dX7_isSaleable_87 : decode cX7_isSaleable 87 = .ok (.ireturn, 1) := by decide +kernel
theorem dX7_carryHours_0 : decode cX7_carryHours 0 = .ok (.aload_n 0, 1) := by decide +kernel
theorem dX7_carryHours_1 : decode cX7_carryHours 1 = .ok (.getfield 21, 3) := by decide +kernel
theorem dX7_carryHours_4 : decode cX7_carryHours 4 = .ok (.getfield 82, 3) := by decide +kernel
theorem dX7_carryHours_7 : decode cX7_carryHours 7 = .ok (.iload_n 1, 1) := by decide +kernel
theorem dX7_carryHours_8 : decode cX7_carryHours 8 = .ok (.iload 4, 2) := by decide +kernel
theorem dX7_carryHours_10 : decode cX7_carryHours 10 = .ok (.invokevirtual 73, 3) := by decide +kernel
theorem dX7_carryHours_13 : decode cX7_carryHours 13 = .ok (.iload_n 3, 1) := by decide +kernel
theorem dX7_carryHours_14 : decode cX7_carryHours 14 = .ok (.if_icmp .ge 5, 3) := by decide +kernel
theorem dX7_carryHours_17 : decode cX7_carryHours 17 = .ok (.iconst 0, 1) := by decide +kernel
theorem dX7_carryHours_18 : decode cX7_carryHours 18 = .ok (.ireturn, 1) := by decide +kernel
theorem dX7_carryHours_19 : decode cX7_carryHours 19 = .ok (.aload_n 0, 1) := by decide +kernel
theorem dX7_carryHours_20 : decode cX7_carryHours 20 = .ok (.getfield 21, 3) := by decide +kernel
theorem dX7_carryHours_23 : decode cX7_carryHours 23 = .ok (.getfield 82, 3) := by decide +kernel
theorem dX7_carryHours_26 : decode cX7_carryHours 26 = .ok (.iload_n 1, 1) := by decide +kernel
theorem dX7_carryHours_27 : decode cX7_carryHours 27 = .ok (.iload 4, 2) := by decide +kernel
theorem dX7_carryHours_29 : decode cX7_carryHours 29 = .ok (.iload_n 3, 1) := by decide +kernel
theorem dX7_carryHours_30 : decode cX7_carryHours 30 = .ok (.ineg, 1) := by decide +kernel
theorem dX7_carryHours_31 : decode cX7_carryHours 31 = .ok (.invokevirtual 96, 3) := by decide +kernel
theorem dX7_carryHours_34 : decode cX7_carryHours 34 = .ok (.aload_n 0, 1) := by decide +kernel
theorem dX7_carryHours_35 : decode cX7_carryHours 35 = .ok (.getfield 21, 3) := by decide +kernel
theorem dX7_carryHours_38 : decode cX7_carryHours 38 = .ok (.iload_n 2, 1) := by decide +kernel
theorem dX7_carryHours_39 : decode cX7_carryHours 39 = .ok (.iload 4, 2) := by decide +kernel
theorem dX7_carryHours_41 : decode cX7_carryHours 41 = .ok (.aload_n 0, 1) := by decide +kernel
theorem dX7_carryHours_42 : decode cX7_carryHours 42 = .ok (.iload_n 1, 1) := by decide +kernel
theorem dX7_carryHours_43 : decode cX7_carryHours 43 = .ok (.iload_n 2, 1) := by decide +kernel
theorem dX7_carryHours_44 : decode cX7_carryHours 44 = .ok (.iload_n 3, 1) := by decide +kernel
theorem dX7_carryHours_45 : decode cX7_carryHours 45 = .ok (.iload 4, 2) := by decide +kernel
theorem dX7_carryHours_47 : decode cX7_carryHours 47 = .ok (.ifCond .ne 7, 3) := by decide +kernel
theorem dX7_carryHours_50 : decode cX7_carryHours 50 = .ok (.iconst 1, 1) := by decide +kernel
theorem dX7_carryHours_51 : decode cX7_carryHours 51 = .ok (.goto 4, 3) := by decide +kernel
theorem dX7_carryHours_54 : decode cX7_carryHours 54 = .ok (.iconst 0, 1) := by decide +kernel
theorem dX7_carryHours_55 : decode cX7_carryHours 55 = .ok (.invokevirtual 100, 3) := by decide +kernel
theorem dX7_carryHours_58 : decode cX7_carryHours 58 = .ok (.invokevirtual 104, 3) := by decide +kernel
theorem dX7_carryHours_61 : decode cX7_carryHours 61 = .ok (.iconst 1, 1) := by decide +kernel
theorem dX7_carryHours_62 : decode cX7_carryHours 62 = .ok (.ireturn, 1) := by decide +kernel
theorem dX7_sellWant_0 : decode cX7_sellWant 0 = .ok (.aload_n 0, 1) := by decide +kernel
theorem dX7_sellWant_1 : decode cX7_sellWant 1 = .ok (.iload_n 1, 1) := by decide +kernel
theorem dX7_sellWant_2 : decode cX7_sellWant 2 = .ok (.invokevirtual 107, 3) := by decide +kernel
theorem dX7_sellWant_5 : decode cX7_sellWant 5 = .ok (.ifCond .ne 5, 3) := by decide +kernel
theorem dX7_sellWant_8 : decode cX7_sellWant 8 = .ok (.iconst 0, 1) := by decide +kernel
theorem dX7_sellWant_9 : decode cX7_sellWant 9 = .ok (.ireturn, 1) := by decide +kernel
theorem dX7_sellWant_10 : decode cX7_sellWant 10 = .ok (.aload_n 0, 1) := by decide +kernel
theorem dX7_sellWant_11 : decode cX7_sellWant 11 = .ok (.getfield 12, 3) := by decide +kernel
theorem dX7_sellWant_14 : decode cX7_sellWant 14 = .ok (.getfield 81, 3) := by decide +kernel
theorem dX7_sellWant_17 : decode cX7_sellWant 17 = .ok (.iload_n 1, 1) := by decide +kernel
theorem dX7_sellWant_18 : decode cX7_sellWant 18 = .ok (.iconst 0, 1) := by decide +kernel
theorem dX7_sellWant_19 : decode cX7_sellWant 19 = .ok (.invokevirtual 73, 3) := by decide +kernel
theorem dX7_sellWant_22 : decode cX7_sellWant 22 = .ok (.istore_n 2, 1) := by decide +kernel
theorem dX7_sellWant_23 : decode cX7_sellWant 23 = .ok (.aload_n 0, 1) := by decide +kernel
theorem dX7_sellWant_24 : decode cX7_sellWant 24 = .ok (.getfield 12, 3) := by decide +kernel
theorem dX7_sellWant_27 : decode cX7_sellWant 27 = .ok (.getfield 81, 3) := by decide +kernel
theorem dX7_sellWant_30 : decode cX7_sellWant 30 = .ok (.iload_n 1, 1) := by decide +kernel
theorem dX7_sellWant_31 : decode cX7_sellWant 31 = .ok (.iconst 1, 1) := by decide +kernel
theorem dX7_sellWant_32 : decode cX7_sellWant 32 = .ok (.invokevirtual 73, 3) := by decide +kernel
theorem dX7_sellWant_35 : decode cX7_sellWant 35 = .ok (.istore_n 3, 1) := by decide +kernel
theorem dX7_sellWant_36 : decode cX7_sellWant 36 = .ok (.aload_n 0, 1) := by decide +kernel
theorem dX7_sellWant_37 : decode cX7_sellWant 37 = .ok (.getfield 12, 3) := by decide +kernel
theorem dX7_sellWant_40 : decode cX7_sellWant 40 = .ok (.getfield 81, 3) := by decide +kernel
theorem dX7_sellWant_43 : decode cX7_sellWant 43 = .ok (.iload_n 1, 1) := by decide +kernel
theorem dX7_sellWant_44 : decode cX7_sellWant 44 = .ok (.iconst 2, 1) := by decide +kernel
theorem dX7_sellWant_45 : decode cX7_sellWant 45 = .ok (.invokevirtual 73, 3) := by decide +kernel
theorem dX7_sellWant_48 : decode cX7_sellWant 48 = .ok (.iconst 1, 1) := by decide +kernel
theorem dX7_sellWant_49 : decode cX7_sellWant 49 = .ok (.if_icmp .ne 7, 3) := by decide +kernel
theorem dX7_sellWant_52 : decode cX7_sellWant 52 = .ok (.iconst 0, 1) := by decide +kernel
theorem dX7_sellWant_53 : decode cX7_sellWant 53 = .ok (.goto 19, 3) := by decide +kernel
theorem dX7_sellWant_56 : decode cX7_sellWant 56 = .ok (.iload_n 3, 1) := by decide +kernel
theorem dX7_sellWant_57 : decode cX7_sellWant 57 = .ok (.aload_n 0, 1) := by decide +kernel
theorem dX7_sellWant_58 : decode cX7_sellWant 58 = .ok (.getfield 21, 3) := by decide +kernel
theorem dX7_sellWant_61 : decode cX7_sellWant 61 = .ok (.getfield 82, 3) := by decide +kernel
theorem dX7_sellWant_64 : decode cX7_sellWant 64 = .ok (.iload_n 2, 1) := by decide +kernel
theorem dX7_sellWant_65 : decode cX7_sellWant 65 = .ok (.iconst 1, 1) := by decide +kernel
theorem dX7_sellWant_66 : decode cX7_sellWant 66 = .ok (.invokevirtual 73, 3) := by decide +kernel
theorem dX7_sellWant_69 : decode cX7_sellWant 69 = .ok (.invokestatic 61, 3) := by decide +kernel
theorem dX7_sellWant_72 : decode cX7_sellWant 72 = .ok (.istore 4, 2) := by decide +kernel
theorem dX7_sellWant_74 : decode cX7_sellWant 74 = .ok (.aload_n 0, 1) := by decide +kernel
theorem dX7_sellWant_75 : decode cX7_sellWant 75 = .ok (.getfield 21, 3) := by decide +kernel
theorem dX7_sellWant_78 : decode cX7_sellWant 78 = .ok (.getfield 82, 3) := by decide +kernel
theorem dX7_sellWant_81 : decode cX7_sellWant 81 = .ok (.iload_n 2, 1) := by decide +kernel
theorem dX7_sellWant_82 : decode cX7_sellWant 82 = .ok (.iconst 1, 1) := by decide +kernel
theorem dX7_sellWant_83 : decode cX7_sellWant 83 = .ok (.iload 4, 2) := by decide +kernel
theorem dX7_sellWant_85 : decode cX7_sellWant 85 = .ok (.ineg, 1) := by decide +kernel
theorem dX7_sellWant_86 : decode cX7_sellWant 86 = .ok (.invokevirtual 96, 3) := by decide +kernel
theorem dX7_sellWant_89 : decode cX7_sellWant 89 = .ok (.aload_n 0, 1) := by decide +kernel
theorem dX7_sellWant_90 : decode cX7_sellWant 90 = .ok (.getfield 21, 3) := by decide +kernel
theorem dX7_sellWant_93 : decode cX7_sellWant 93 = .ok (.getfield 82, 3) := by decide +kernel
theorem dX7_sellWant_96 : decode cX7_sellWant 96 = .ok (.iload_n 2, 1) := by decide +kernel
theorem dX7_sellWant_97 : decode cX7_sellWant 97 = .ok (.iconst 0, 1) := by decide +kernel
theorem dX7_sellWant_98 : decode cX7_sellWant 98 = .ok (.iload 4, 2) := by decide +kernel
theorem dX7_sellWant_100 : decode cX7_sellWant 100 = .ok (.iload_n 3, 1) := by decide +kernel
theorem dX7_sellWant_101 : decode cX7_sellWant 101 = .ok (.isub, 1) := by decide +kernel
theorem dX7_sellWant_102 : decode cX7_sellWant 102 = .ok (.invokevirtual 96, 3) := by decide +kernel
theorem dX7_sellWant_105 : decode cX7_sellWant 105 = .ok (.aload_n 0, 1) := by decide +kernel
theorem dX7_sellWant_106 : decode cX7_sellWant 106 = .ok (.getfield 21, 3) := by decide +kernel
theorem dX7_sellWant_109 : decode cX7_sellWant 109 = .ok (.dup, 1) := by decide +kernel
theorem dX7_sellWant_110 : decode cX7_sellWant 110 = .ok (.getfield 111, 3) := by decide +kernel
theorem dX7_sellWant_113 : decode cX7_sellWant 113 = .ok (.aload_n 0, 1) := by decide +kernel
theorem dX7_sellWant_114 : decode cX7_sellWant 114 = .ok (.getfield 12, 3) := by decide +kernel
theorem dX7_sellWant_117 : decode cX7_sellWant 117 = .ok (.getfield 81, 3) := by decide +kernel
theorem dX7_sellWant_120 : decode cX7_sellWant 120 = .ok (.iload_n 1, 1) := by decide +kernel
theorem dX7_sellWant_121 : decode cX7_sellWant 121 = .ok (.iconst 3, 1) := by decide +kernel
theorem dX7_sellWant_122 : decode cX7_sellWant 122 = .ok (.invokevirtual 73, 3) := by decide +kernel
theorem dX7_sellWant_125 : decode cX7_sellWant 125 = .ok (.iadd, 1) := by decide +kernel
theorem dX7_sellWant_126 : decode cX7_sellWant 126 = .ok (.putfield 111, 3) := by decide +kernel
theorem dX7_sellWant_129 : decode cX7_sellWant 129 = .ok (.aload_n 0, 1) := by decide +kernel
theorem dX7_sellWant_130 : decode cX7_sellWant 130 = .ok (.getfield 21, 3) := by decide +kernel
theorem dX7_sellWant_133 : decode cX7_sellWant 133 = .ok (.getfield 78, 3) := by decide +kernel
theorem dX7_sellWant_136 : decode cX7_sellWant 136 = .ok (.iload_n 1, 1) := by decide +kernel
theorem dX7_sellWant_137 : decode cX7_sellWant 137 = .ok (.iconst 0, 1) := by decide +kernel
theorem dX7_sellWant_138 : decode cX7_sellWant 138 = .ok (.iconst 0, 1) := by decide +kernel
theorem dX7_sellWant_139 : decode cX7_sellWant 139 = .ok (.invokevirtual 114, 3) := by decide +kernel
theorem dX7_sellWant_142 : decode cX7_sellWant 142 = .ok (.aload_n 0, 1) := by decide +kernel
theorem dX7_sellWant_143 : decode cX7_sellWant 143 = .ok (.getfield 21, 3) := by decide +kernel
theorem dX7_sellWant_146 : decode cX7_sellWant 146 = .ok (.getfield 78, 3) := by decide +kernel
theorem dX7_sellWant_149 : decode cX7_sellWant 149 = .ok (.iload_n 1, 1) := by decide +kernel
theorem dX7_sellWant_150 : decode cX7_sellWant 150 = .ok (.iconst 1, 1) := by decide +kernel
theorem dX7_sellWant_151 : decode cX7_sellWant 151 = .ok (.iconst 1, 1) := by decide +kernel
theorem dX7_sellWant_152 : decode cX7_sellWant 152 = .ok (.invokevirtual 96, 3) := by decide +kernel
theorem dX7_sellWant_155 : decode cX7_sellWant 155 = .ok (.iconst 1, 1) := by decide +kernel
theorem dX7_sellWant_156 : decode cX7_sellWant 156 = .ok (.ireturn, 1) := by decide +kernel
theorem dX7_waterHours_0 : decode cX7_waterHours 0 = .ok (.aload_n 0, 1) := by decide +kernel
theorem dX7_waterHours_1 : decode cX7_waterHours 1 = .ok (.getfield 21, 3) := by decide +kernel
theorem dX7_waterHours_4 : decode cX7_waterHours 4 = .ok (.getfield 82, 3) := by decide +kernel
theorem dX7_waterHours_7 : decode cX7_waterHours 7 = .ok (.iload_n 1, 1) := by decide +kernel
theorem dX7_waterHours_8 : decode cX7_waterHours 8 = .ok (.iconst 0, 1) := by decide +kernel
theorem dX7_waterHours_9 : decode cX7_waterHours 9 = .ok (.invokevirtual 73, 3) := by decide +kernel
theorem dX7_waterHours_12 : decode cX7_waterHours 12 = .ok (.iload_n 2, 1) := by decide +kernel
theorem dX7_waterHours_13 : decode cX7_waterHours 13 = .ok (.if_icmp .ge 5, 3) := by decide +kernel
theorem dX7_waterHours_16 : decode cX7_waterHours 16 = .ok (.iconst 0, 1) := by decide +kernel
theorem dX7_waterHours_17 : decode cX7_waterHours 17 = .ok (.ireturn, 1) := by decide +kernel
theorem dX7_waterHours_18 : decode cX7_waterHours 18 = .ok (.aload_n 0, 1) := by decide +kernel
theorem dX7_waterHours_19 : decode cX7_waterHours 19 = .ok (.getfield 21, 3) := by decide +kernel
theorem dX7_waterHours_22 : decode cX7_waterHours 22 = .ok (.getfield 82, 3) := by decide +kernel
theorem dX7_waterHours_25 : decode cX7_waterHours 25 = .ok (.iload_n 1, 1) := by decide +kernel
theorem dX7_waterHours_26 : decode cX7_waterHours 26 = .ok (.iconst 0, 1) := by decide +kernel
theorem dX7_waterHours_27 : decode cX7_waterHours 27 = .ok (.iload_n 2, 1) := by decide +kernel
theorem dX7_waterHours_28 : decode cX7_waterHours 28 = .ok (.ineg, 1) := by decide +kernel
theorem dX7_waterHours_29 : decode cX7_waterHours 29 = .ok (.invokevirtual 96, 3) := by decide +kernel
theorem dX7_waterHours_32 : decode cX7_waterHours 32 = .ok (.aload_n 0, 1) := by decide +kernel
theorem dX7_waterHours_33 : decode cX7_waterHours 33 = .ok (.getfield 21, 3) := by decide +kernel
theorem dX7_waterHours_36 : decode cX7_waterHours 36 = .ok (.iload_n 1, 1) := by decide +kernel
theorem dX7_waterHours_37 : decode cX7_waterHours 37 = .ok (.iconst 1, 1) := by decide +kernel
theorem dX7_waterHours_38 : decode cX7_waterHours 38 = .ok (.iconst 2, 1) := by decide +kernel
theorem dX7_waterHours_39 : decode cX7_waterHours 39 = .ok (.iload_n 2, 1) := by decide +kernel
theorem dX7_waterHours_40 : decode cX7_waterHours 40 = .ok (.imul, 1) := by decide +kernel
theorem dX7_waterHours_41 : decode cX7_waterHours 41 = .ok (.invokevirtual 104, 3) := by decide +kernel
theorem dX7_waterHours_44 : decode cX7_waterHours 44 = .ok (.iconst 1, 1) := by decide +kernel
theorem dX7_waterHours_45 : decode cX7_waterHours 45 = .ok (.ireturn, 1) := by decide +kernel
theorem dX7_digShafts_0 : decode cX7_digShafts 0 = .ok (.aload_n 0, 1) := by decide +kernel
theorem dX7_digShafts_1 : decode cX7_digShafts 1 = .ok (.getfield 21, 3) := by decide +kernel
theorem dX7_digShafts_4 : decode cX7_digShafts 4 = .ok (.getfield 117, 3) := by decide +kernel
theorem dX7_digShafts_7 : decode cX7_digShafts 7 = .ok (.iload_n 1, 1) := by decide +kernel
theorem dX7_digShafts_8 : decode cX7_digShafts 8 = .ok (.iconst 0, 1) := by decide +kernel
theorem dX7_digShafts_9 : decode cX7_digShafts 9 = .ok (.invokevirtual 73, 3) := by decide +kernel
theorem dX7_digShafts_12 : decode cX7_digShafts 12 = .ok (.istore_n 3, 1) := by decide +kernel
theorem dX7_digShafts_13 : decode cX7_digShafts 13 = .ok (.aload_n 0, 1) := by decide +kernel
theorem dX7_digShafts_14 : decode cX7_digShafts 14 = .ok (.iload_n 1, 1) := by decide +kernel
theorem dX7_digShafts_15 : decode cX7_digShafts 15 = .ok (.aload_n 0, 1) := by decide +kernel
theorem dX7_digShafts_16 : decode cX7_digShafts 16 = .ok (.getfield 21, 3) := by decide +kernel
theorem dX7_digShafts_19 : decode cX7_digShafts 19 = .ok (.getfield 54, 3) := by decide +kernel
theorem dX7_digShafts_22 : decode cX7_digShafts 22 = .ok (.invokevirtual 120, 3) := by decide +kernel
theorem dX7_digShafts_25 : decode cX7_digShafts 25 = .ok (.ifCond .eq 7, 3) := by decide +kernel
theorem dX7_digShafts_28 : decode cX7_digShafts 28 = .ok (.iload_n 3, 1) := by decide +kernel
theorem dX7_digShafts_29 : decode cX7_digShafts 29 = .ok (.ifCond .ne 5, 3) := by decide +kernel
theorem dX7_digShafts_32 : decode cX7_digShafts 32 = .ok (.iconst 0, 1) := by decide +kernel
theorem dX7_digShafts_33 : decode cX7_digShafts 33 = .ok (.ireturn, 1) := by decide +kernel
theorem dX7_digShafts_34 : decode cX7_digShafts 34 = .ok (.aload_n 0, 1) := by decide +kernel
theorem dX7_digShafts_35 : decode cX7_digShafts 35 = .ok (.iload_n 2, 1) := by decide +kernel
theorem dX7_digShafts_36 : decode cX7_digShafts 36 = .ok (.iload_n 3, 1) := by decide +kernel
theorem dX7_digShafts_37 : decode cX7_digShafts 37 = .ok (.aload_n 0, 1) := by decide +kernel
theorem dX7_digShafts_38 : decode cX7_digShafts 38 = .ok (.getfield 21, 3) := by decide +kernel
theorem dX7_digShafts_41 : decode cX7_digShafts 41 = .ok (.getfield 54, 3) := by decide +kernel
theorem dX7_digShafts_44 : decode cX7_digShafts 44 = .ok (.invokevirtual 123, 3) := by decide +kernel
theorem dX7_digShafts_47 : decode cX7_digShafts 47 = .ok (.istore 4, 2) := by decide +kernel
theorem dX7_digShafts_49 : decode cX7_digShafts 49 = .ok (.aload_n 0, 1) := by decide +kernel
theorem dX7_digShafts_50 : decode cX7_digShafts 50 = .ok (.getfield 21, 3) := by decide +kernel
theorem dX7_digShafts_53 : decode cX7_digShafts 53 = .ok (.dup, 1) := by decide +kernel
theorem dX7_digShafts_54 : decode cX7_digShafts 54 = .ok (.getfield 111, 3) := by decide +kernel
theorem dX7_digShafts_57 : decode cX7_digShafts 57 = .ok (.iload_n 2, 1) := by decide +kernel
theorem dX7_digShafts_58 : decode cX7_digShafts 58 = .ok (.aload_n 0, 1) := by decide +kernel
theorem dX7_digShafts_59 : decode cX7_digShafts 59 = .ok (.getfield 12, 3) := by decide +kernel
theorem dX7_digShafts_62 : decode cX7_digShafts 62 = .ok (.getfield 127, 3) := by decide +kernel
theorem dX7_digShafts_65 : decode cX7_digShafts 65 = .ok (.imul, 1) := by decide +kernel
theorem dX7_digShafts_66 : decode cX7_digShafts 66 = .ok (.isub, 1) := by decide +kernel
theorem dX7_digShafts_67 : decode cX7_digShafts 67 = .ok (.putfield 111, 3) := by decide +kernel
theorem dX7_digShafts_70 : decode cX7_digShafts 70 = .ok (.aload_n 0, 1) := by decide +kernel
theorem dX7_digShafts_71 : decode cX7_digShafts 71 = .ok (.getfield 21, 3) := by decide +kernel
theorem dX7_digShafts_74 : decode cX7_digShafts 74 = .ok (.getfield 117, 3) := by decide +kernel
theorem dX7_digShafts_77 : decode cX7_digShafts 77 = .ok (.iload_n 1, 1) := by decide +kernel
theorem dX7_digShafts_78 : decode cX7_digShafts 78 = .ok (.iconst 0, 1) := by decide +kernel
theorem dX7_digShafts_79 : decode cX7_digShafts 79 = .ok (.iload 4, 2) := by decide +kernel
theorem dX7_digShafts_81 : decode cX7_digShafts 81 = .ok (.ineg, 1) := by decide +kernel
theorem dX7_digShafts_82 : decode cX7_digShafts 82 = .ok (.invokevirtual 96, 3) := by decide +kernel
theorem dX7_digShafts_85 : decode cX7_digShafts 85 = .ok (.aload_n 0, 1) := by decide +kernel
theorem dX7_digShafts_86 : decode cX7_digShafts 86 = .ok (.getfield 21, 3) := by decide +kernel
theorem dX7_digShafts_89 : decode cX7_digShafts 89 = .ok (.getfield 117, 3) := by decide +kernel
theorem dX7_digShafts_92 : decode cX7_digShafts 92 = .ok (.iload_n 1, 1) := by decide +kernel
theorem dX7_digShafts_93 : decode cX7_digShafts 93 = .ok (.iconst 1, 1) := by decide +kernel
theorem dX7_digShafts_94 : decode cX7_digShafts 94 = .ok (.iload 4, 2) := by decide +kernel
theorem dX7_digShafts_96 : decode cX7_digShafts 96 = .ok (.invokevirtual 96, 3) := by decide +kernel
theorem dX7_digShafts_99 : decode cX7_digShafts 99 = .ok (.aload_n 0, 1) := by decide +kernel
theorem dX7_digShafts_100 : decode cX7_digShafts 100 = .ok (.getfield 21, 3) := by decide +kernel
theorem dX7_digShafts_103 : decode cX7_digShafts 103 = .ok (.aload_n 0, 1) := by decide +kernel
theorem dX7_digShafts_104 : decode cX7_digShafts 104 = .ok (.getfield 12, 3) := by decide +kernel
theorem dX7_digShafts_107 : decode cX7_digShafts 107 = .ok (.getfield 69, 3) := by decide +kernel
theorem dX7_digShafts_110 : decode cX7_digShafts 110 = .ok (.iload_n 1, 1) := by decide +kernel
theorem dX7_digShafts_111 : decode cX7_digShafts 111 = .ok (.iconst 0, 1) := by decide +kernel
theorem dX7_digShafts_112 : decode cX7_digShafts 112 = .ok (.invokevirtual 73, 3) := by decide +kernel
theorem dX7_digShafts_115 : decode cX7_digShafts 115 = .ok (.iconst 0, 1) := by decide +kernel
theorem dX7_digShafts_116 : decode cX7_digShafts 116 = .ok (.iload 4, 2) := by decide +kernel
theorem dX7_digShafts_118 : decode cX7_digShafts 118 = .ok (.invokevirtual 104, 3) := by decide +kernel
theorem dX7_digShafts_121 : decode cX7_digShafts 121 = .ok (.iconst 1, 1) := by decide +kernel
theorem dX7_digShafts_122 : decode cX7_digShafts 122 = .ok (.ireturn, 1) := by decide +kernel
theorem dX7_leaking_0 : decode cX7_leaking 0 = .ok (.iload_n 1, 1) := by decide +kernel
theorem dX7_leaking_1 : decode cX7_leaking 1 = .ok (.aload_n 0, 1) := by decide +kernel
theorem dX7_leaking_2 : decode cX7_leaking 2 = .ok (.getfield 12, 3) := by decide +kernel
theorem dX7_leaking_5 : decode cX7_leaking 5 = .ok (.getfield 130, 3) := by decide +kernel
theorem dX7_leaking_8 : decode cX7_leaking 8 = .ok (.imul, 1) := by decide +kernel
theorem dX7_leaking_9 : decode cX7_leaking 9 = .ok (.bipush 8, 2) := by decide +kernel
theorem dX7_leaking_11 : decode cX7_leaking 11 = .ok (.idiv, 1) := by decide +kernel
theorem dX7_leaking_12 : decode cX7_leaking 12 = .ok (.ireturn, 1) := by decide +kernel
theorem dX7_behindMonth_0 : decode cX7_behindMonth 0 = .ok (.iload_n 3, 1) := by decide +kernel
theorem dX7_behindMonth_1 : decode cX7_behindMonth 1 = .ok (.aload_n 0, 1) := by decide +kernel
theorem dX7_behindMonth_2 : decode cX7_behindMonth 2 = .ok (.iload_n 3, 1) := by decide +kernel
theorem dX7_behindMonth_3 : decode cX7_behindMonth 3 = .ok (.invokevirtual 133, 3) := by decide +kernel
theorem dX7_behindMonth_6 : decode cX7_behindMonth 6 = .ok (.isub, 1) := by decide +kernel
theorem dX7_behindMonth_7 : decode cX7_behindMonth 7 = .ok (.istore 4, 2) := by decide +kernel
theorem dX7_behindMonth_9 : decode cX7_behindMonth 9 = .ok (.iload_n 2, 1) := by decide +kernel
theorem dX7_behindMonth_10 : decode cX7_behindMonth 10 = .ok (.ifCond .ne 27, 3) := by decide +kernel
theorem dX7_behindMonth_13 : decode cX7_behindMonth 13 = .ok (.iload 4, 2) := by decide +kernel
theorem dX7_behindMonth_15 : decode cX7_behindMonth 15 = .ok (.aload_n 0, 1) := by decide +kernel
theorem dX7_behindMonth_16 : decode cX7_behindMonth 16 = .ok (.getfield 12, 3) := by decide +kernel
theorem dX7_behindMonth_19 : decode cX7_behindMonth 19 = .ok (.getfield 136, 3) := by decide +kernel
theorem dX7_behindMonth_22 : decode cX7_behindMonth 22 = .ok (.iload_n 1, 1) := by decide +kernel
theorem dX7_behindMonth_23 : decode cX7_behindMonth 23 = .ok (.iconst 3, 1) := by decide +kernel
theorem dX7_behindMonth_24 : decode cX7_behindMonth 24 = .ok (.invokevirtual 73, 3) := by decide +kernel
theorem dX7_behindMonth_27 : decode cX7_behindMonth 27 = .ok (.iadd, 1) := by decide +kernel
theorem dX7_behindMonth_28 : decode cX7_behindMonth 28 = .ok (.sipush 999, 3) := by decide +kernel
theorem dX7_behindMonth_31 : decode cX7_behindMonth 31 = .ok (.invokestatic 61, 3) := by decide +kernel
theorem dX7_behindMonth_34 : decode cX7_behindMonth 34 = .ok (.goto 5, 3) := by decide +kernel
theorem dX7_behindMonth_37 : decode cX7_behindMonth 37 = .ok (.iload 4, 2) := by decide +kernel
theorem dX7_behindMonth_39 : decode cX7_behindMonth 39 = .ok (.ireturn, 1) := by decide +kernel
theorem dX7_passMonth_0 : decode cX7_passMonth 0 = .ok (.iconst 0, 1) := by decide +kernel
theorem dX7_passMonth_1 : decode cX7_passMonth 1 = .ok (.istore_n 1, 1) := by decide +kernel
theorem dX7_passMonth_2 : decode cX7_passMonth 2 = .ok (.iload_n 1, 1) := by decide +kernel
theorem dX7_passMonth_3 : decode cX7_passMonth 3 = .ok (.aload_n 0, 1) := by decide +kernel
theorem dX7_passMonth_4 : decode cX7_passMonth 4 = .ok (.getfield 21, 3) := by decide +kernel
theorem dX7_passMonth_7 : decode cX7_passMonth 7 = .ok (.getfield 82, 3) := by decide +kernel
theorem dX7_passMonth_10 : decode cX7_passMonth 10 = .ok (.getfield 85, 3) := by decide +kernel
theorem dX7_passMonth_13 : decode cX7_passMonth 13 = .ok (.if_icmp .ge 21, 3) := by decide +kernel
theorem dX7_passMonth_16 : decode cX7_passMonth 16 = .ok (.aload_n 0, 1) := by decide +kernel
theorem dX7_passMonth_17 : decode cX7_passMonth 17 = .ok (.iload_n 1, 1) := by decide +kernel
theorem dX7_passMonth_18 : decode cX7_passMonth 18 = .ok (.iconst 0, 1) := by decide +kernel
theorem dX7_passMonth_19 : decode cX7_passMonth 19 = .ok (.invokevirtual 139, 3) := by decide +kernel
theorem dX7_passMonth_22 : decode cX7_passMonth 22 = .ok (.aload_n 0, 1) := by decide +kernel
theorem dX7_passMonth_23 : decode cX7_passMonth 23 = .ok (.iload_n 1, 1) := by decide +kernel
theorem dX7_passMonth_24 : decode cX7_passMonth 24 = .ok (.iconst 1, 1) := by decide +kernel
theorem dX7_passMonth_25 : decode cX7_passMonth 25 = .ok (.invokevirtual 139, 3) := by decide +kernel
theorem dX7_passMonth_28 : decode cX7_passMonth 28 = .ok (.iinc 1 1, 3) := by decide +kernel
theorem dX7_passMonth_31 : decode cX7_passMonth 31 = .ok (.goto (-29), 3) := by decide +kernel
theorem dX7_passMonth_34 : decode cX7_passMonth 34 = .ok (.aload_n 0, 1) := by decide +kernel
theorem dX7_passMonth_35 : decode cX7_passMonth 35 = .ok (.getfield 21, 3) := by decide +kernel
theorem dX7_passMonth_38 : decode cX7_passMonth 38 = .ok (.invokevirtual 143, 3) := by decide +kernel
theorem dX7_passMonth_41 : decode cX7_passMonth 41 = .ok (.aload_n 0, 1) := by decide +kernel
theorem dX7_passMonth_42 : decode cX7_passMonth 42 = .ok (.getfield 21, 3) := by decide +kernel
theorem dX7_passMonth_45 : decode cX7_passMonth 45 = .ok (.dup, 1) := by decide +kernel
theorem dX7_passMonth_46 : decode cX7_passMonth 46 = .ok (.getfield 54, 3) := by decide +kernel
theorem dX7_passMonth_49 : decode cX7_passMonth 49 = .ok (.iconst 1, 1) := by decide +kernel
theorem dX7_passMonth_50 : decode cX7_passMonth 50 = .ok (.iadd, 1) := by decide +kernel
theorem dX7_passMonth_51 : decode cX7_passMonth 51 = .ok (.putfield 54, 3) := by decide +kernel
theorem dX7_passMonth_54 : decode cX7_passMonth 54 = .ok (.return_, 1) := by decide +kernel
theorem dX7_passMonthFor_0 : decode cX7_passMonthFor 0 = .ok (.aload_n 0, 1) := by decide +kernel
theorem dX7_passMonthFor_1 : decode cX7_passMonthFor 1 = .ok (.getfield 21, 3) := by decide +kernel
theorem dX7_passMonthFor_4 : decode cX7_passMonthFor 4 = .ok (.getfield 82, 3) := by decide +kernel
theorem dX7_passMonthFor_7 : decode cX7_passMonthFor 7 = .ok (.iload_n 1, 1) := by decide +kernel
theorem dX7_passMonthFor_8 : decode cX7_passMonthFor 8 = .ok (.iload_n 2, 1) := by decide +kernel
theorem dX7_passMonthFor_9 : decode cX7_passMonthFor 9 = .ok (.invokevirtual 73, 3) := by decide +kernel
theorem dX7_passMonthFor_12 : decode cX7_passMonthFor 12 = .ok (.istore_n 3, 1) := by decide +kernel
theorem dX7_passMonthFor_13 : decode cX7_passMonthFor 13 = .ok (.aload_n 0, 1) := by decide +kernel
theorem dX7_passMonthFor_14 : decode cX7_passMonthFor 14 = .ok (.getfield 21, 3) := by decide +kernel
theorem dX7_passMonthFor_17 : decode cX7_passMonthFor 17 = .ok (.getfield 82, 3) := by decide +kernel
theorem dX7_passMonthFor_20 : decode cX7_passMonthFor 20 = .ok (.iload_n 1, 1) := by decide +kernel
theorem dX7_passMonthFor_21 : decode cX7_passMonthFor 21 = .ok (.iconst 2, 1) := by decide +kernel
theorem dX7_passMonthFor_22 : decode cX7_passMonthFor 22 = .ok (.aload_n 0, 1) := by decide +kernel
theorem dX7_passMonthFor_23 : decode cX7_passMonthFor 23 = .ok (.iload_n 3, 1) := by decide +kernel
theorem dX7_passMonthFor_24 : decode cX7_passMonthFor 24 = .ok (.invokevirtual 133, 3) := by decide +kernel
theorem dX7_passMonthFor_27 : decode cX7_passMonthFor 27 = .ok (.invokevirtual 96, 3) := by decide +kernel
theorem dX7_passMonthFor_30 : decode cX7_passMonthFor 30 = .ok (.aload_n 0, 1) := by decide +kernel
theorem dX7_passMonthFor_31 : decode cX7_passMonthFor 31 = .ok (.getfield 21, 3) := by decide +kernel
theorem dX7_passMonthFor_34 : decode cX7_passMonthFor 34 = .ok (.getfield 82, 3) := by decide +kernel
theorem dX7_passMonthFor_37 : decode cX7_passMonthFor 37 = .ok (.iload_n 1, 1) := by decide +kernel
theorem dX7_passMonthFor_38 : decode cX7_passMonthFor 38 = .ok (.iload_n 2, 1) := by decide +kernel
theorem dX7_passMonthFor_39 : decode cX7_passMonthFor 39 = .ok (.aload_n 0, 1) := by decide +kernel
theorem dX7_passMonthFor_40 : decode cX7_passMonthFor 40 = .ok (.iload_n 1, 1) := by decide +kernel
theorem dX7_passMonthFor_41 : decode cX7_passMonthFor 41 = .ok (.iload_n 2, 1) := by decide +kernel
theorem dX7_passMonthFor_42 : decode cX7_passMonthFor 42 = .ok (.iload_n 3, 1) := by decide +kernel
theorem dX7_passMonthFor_43 : decode cX7_passMonthFor 43 = .ok (.invokevirtual 146, 3) := by decide +kernel
theorem dX7_passMonthFor_46 : decode cX7_passMonthFor 46 = .ok (.invokevirtual 114, 3) := by decide +kernel
theorem dX7_passMonthFor_49 : decode cX7_passMonthFor 49 = .ok (.return_, 1) := by decide +kernel
theorem dX7_findShafts_0 : decode cX7_findShafts 0 = .ok (.aload_n 0, 1) := by decide +kernel
theorem dX7_findShafts_1 : decode cX7_findShafts 1 = .ok (.iconst (-1), 1) := by decide +kernel
theorem dX7_findShafts_2 : decode cX7_findShafts 2 = .ok (.putfield 149, 3) := by decide +kernel
theorem dX7_findShafts_5 : decode cX7_findShafts 5 = .ok (.aload_n 0, 1) := by decide +kernel
theorem dX7_findShafts_6 : decode cX7_findShafts 6 = .ok (.iconst 0, 1) := by decide +kernel
theorem dX7_findShafts_7 : decode cX7_findShafts 7 = .ok (.putfield 152, 3) := by decide +kernel
theorem dX7_findShafts_10 : decode cX7_findShafts 10 = .ok (.aload_n 0, 1) := by decide +kernel
theorem dX7_findShafts_11 : decode cX7_findShafts 11 = .ok (.iload_n 1, 1) := by decide +kernel
theorem dX7_findShafts_12 : decode cX7_findShafts 12 = .ok (.iload_n 2, 1) := by decide +kernel
theorem dX7_findShafts_13 : decode cX7_findShafts 13 = .ok (.iload_n 3, 1) := by decide +kernel
theorem dX7_findShafts_14 : decode cX7_findShafts 14 = .ok (.iconst 0, 1) := by decide +kernel
theorem dX7_findShafts_15 : decode cX7_findShafts 15 = .ok (.aload_n 0, 1) := by decide +kernel
theorem dX7_findShafts_16 : decode cX7_findShafts 16 = .ok (.getfield 21, 3) := by decide +kernel
theorem dX7_findShafts_19 : decode cX7_findShafts 19 = .ok (.getfield 117, 3) := by decide +kernel
theorem dX7_findShafts_22 : decode cX7_findShafts 22 = .ok (.iload_n 1, 1) := by decide +kernel
theorem dX7_findShafts_23 : decode cX7_findShafts 23 = .ok (.iconst 0, 1) := by decide +kernel
theorem dX7_findShafts_24 : decode cX7_findShafts 24 = .ok (.invokevirtual 73, 3) := by decide +kernel
theorem dX7_findShafts_27 : decode cX7_findShafts 27 = .ok (.iconst 0, 1) := by decide +kernel
theorem dX7_findShafts_28 : decode cX7_findShafts 28 = .ok (.iconst 0, 1) := by decide +kernel
theorem dX7_findShafts_29 : decode cX7_findShafts 29 = .ok (.invokevirtual 155, 3) := by decide +kernel
theorem dX7_findShafts_32 : decode cX7_findShafts 32 = .ok (.return_, 1) := by decide +kernel
theorem dX7_tryShafts_0 : decode cX7_tryShafts 0 = .ok (.iload 6, 2) := by decide +kernel
theorem dX7_tryShafts_2 : decode cX7_tryShafts 2 = .ok (.iload 5, 2) := by decide +kernel
theorem dX7_tryShafts_4 : decode cX7_tryShafts 4 = .ok (.iadd, 1) := by decide +kernel
theorem dX7_tryShafts_5 : decode cX7_tryShafts 5 = .ok (.aload_n 0, 1) := by decide +kernel
theorem dX7_tryShafts_6 : decode cX7_tryShafts 6 = .ok (.getfield 149, 3) := by decide +kernel
theorem dX7_tryShafts_9 : decode cX7_tryShafts 9 = .ok (.if_icmp .gt 4, 3) := by decide +kernel
theorem dX7_tryShafts_12 : decode cX7_tryShafts 12 = .ok (.return_, 1) := by decide +kernel
theorem dX7_tryShafts_13 : decode cX7_tryShafts 13 = .ok (.iload_n 2, 1) := by decide +kernel
theorem dX7_tryShafts_14 : decode cX7_tryShafts 14 = .ok (.ifCond .gt 25, 3) := by decide +kernel
theorem dX7_tryShafts_17 : decode cX7_tryShafts 17 = .ok (.iload 6, 2) := by decide +kernel
theorem dX7_tryShafts_19 : decode cX7_tryShafts 19 = .ok (.aload_n 0, 1) := by decide +kernel
theorem dX7_tryShafts_20 : decode cX7_tryShafts 20 = .ok (.getfield 149, 3) := by decide +kernel
theorem dX7_tryShafts_23 : decode cX7_tryShafts 23 = .ok (.if_icmp .le 15, 3) := by decide +kernel
theorem dX7_tryShafts_26 : decode cX7_tryShafts 26 = .ok (.aload_n 0, 1) := by decide +kernel
theorem dX7_tryShafts_27 : decode cX7_tryShafts 27 = .ok (.iload 6, 2) := by decide +kernel
theorem dX7_tryShafts_29 : decode cX7_tryShafts 29 = .ok (.putfield 149, 3) := by decide +kernel
theorem dX7_tryShafts_32 : decode cX7_tryShafts 32 = .ok (.aload_n 0, 1) := by decide +kernel
theorem dX7_tryShafts_33 : decode cX7_tryShafts 33 = .ok (.iload 7, 2) := by decide +kernel
theorem dX7_tryShafts_35 : decode cX7_tryShafts 35 = .ok (.putfield 152, 3) := by decide +kernel
theorem dX7_tryShafts_38 : decode cX7_tryShafts 38 = .ok (.return_, 1) := by decide +kernel
theorem dX7_tryShafts_39 : decode cX7_tryShafts 39 = .ok (.aload_n 0, 1) := by decide +kernel
theorem dX7_tryShafts_40 : decode cX7_tryShafts 40 = .ok (.getfield 21, 3) := by decide +kernel
theorem dX7_tryShafts_43 : decode cX7_tryShafts 43 = .ok (.getfield 54, 3) := by decide +kernel
theorem dX7_tryShafts_46 : decode cX7_tryShafts 46 = .ok (.iload 4, 2) := by decide +kernel
theorem dX7_tryShafts_48 : decode cX7_tryShafts 48 = .ok (.iadd, 1) := by decide +kernel
theorem dX7_tryShafts_49 : decode cX7_tryShafts 49 = .ok (.istore 8, 2) := by decide +kernel
theorem dX7_tryShafts_51 : decode cX7_tryShafts 51 = .ok (.aload_n 0, 1) := by decide +kernel
theorem dX7_tryShafts_52 : decode cX7_tryShafts 52 = .ok (.iload_n 1, 1) := by decide +kernel
theorem dX7_tryShafts_53 : decode cX7_tryShafts 53 = .ok (.iload 8, 2) := by decide +kernel
theorem dX7_tryShafts_55 : decode cX7_tryShafts 55 = .ok (.invokevirtual 120, 3) := by decide +kernel
theorem dX7_tryShafts_58 : decode cX7_tryShafts 58 = .ok (.ifCond .eq 7, 3) := by decide +kernel
theorem dX7_tryShafts_61 : decode cX7_tryShafts 61 = .ok (.iload_n 3, 1) := by decide +kernel
theorem dX7_tryShafts_62 : decode cX7_tryShafts 62 = .ok (.goto 4, 3) := by decide +kernel
theorem dX7_tryShafts_65 : decode cX7_tryShafts 65 = .ok (.iconst 0, 1) := by decide +kernel
theorem dX7_tryShafts_66 : decode cX7_tryShafts 66 = .ok (.istore 9, 2) := by decide +kernel
theorem dX7_tryShafts_68 : decode cX7_tryShafts 68 = .ok (.iconst 0, 1) := by decide +kernel
theorem dX7_tryShafts_69 : decode cX7_tryShafts 69 = .ok (.istore 10, 2) := by decide +kernel
theorem dX7_tryShafts_71 : decode cX7_tryShafts 71 = .ok (.iload 10, 2) := by decide +kernel
theorem dX7_tryShafts_73 : decode cX7_tryShafts 73 = .ok (.iload 9, 2) := by decide +kernel
theorem dX7_tryShafts_75 : decode cX7_tryShafts 75 = .ok (.if_icmp .gt 55, 3) := by decide +kernel
theorem dX7_tryShafts_78 : decode cX7_tryShafts 78 = .ok (.aload_n 0, 1) := by decide +kernel
theorem dX7_tryShafts_79 : decode cX7_tryShafts 79 = .ok (.iload 10, 2) := by decide +kernel
theorem dX7_tryShafts_81 : decode cX7_tryShafts 81 = .ok (.iload 5, 2) := by decide +kernel
theorem dX7_tryShafts_83 : decode cX7_tryShafts 83 = .ok (.iload 8, 2) := by decide +kernel
theorem dX7_tryShafts_85 : decode cX7_tryShafts 85 = .ok (.invokevirtual 123, 3) := by decide +kernel
theorem dX7_tryShafts_88 : decode cX7_tryShafts 88 = .ok (.istore 11, 2) := by decide +kernel
theorem dX7_tryShafts_90 : decode cX7_tryShafts 90 = .ok (.aload_n 0, 1) := by decide +kernel
theorem dX7_tryShafts_91 : decode cX7_tryShafts 91 = .ok (.iload_n 1, 1) := by decide +kernel
theorem dX7_tryShafts_92 : decode cX7_tryShafts 92 = .ok (.iload_n 2, 1) := by decide +kernel
theorem dX7_tryShafts_93 : decode cX7_tryShafts 93 = .ok (.iconst 1, 1) := by decide +kernel
theorem dX7_tryShafts_94 : decode cX7_tryShafts 94 = .ok (.isub, 1) := by decide +kernel
theorem dX7_tryShafts_95 : decode cX7_tryShafts 95 = .ok (.iload_n 3, 1) := by decide +kernel
theorem dX7_tryShafts_96 : decode cX7_tryShafts 96 = .ok (.iload 4, 2) := by decide +kernel
theorem dX7_tryShafts_98 : decode cX7_tryShafts 98 = .ok (.iconst 1, 1) := by decide +kernel
theorem dX7_tryShafts_99 : decode cX7_tryShafts 99 = .ok (.iadd, 1) := by decide +kernel
theorem dX7_tryShafts_100 : decode cX7_tryShafts 100 = .ok (.iload 5, 2) := by decide +kernel
theorem dX7_tryShafts_102 : decode cX7_tryShafts 102 = .ok (.iload 11, 2) := by decide +kernel
theorem dX7_tryShafts_104 : decode cX7_tryShafts 104 = .ok (.isub, 1) := by decide +kernel
theorem dX7_tryShafts_105 : decode cX7_tryShafts 105 = .ok (.iload 6, 2) := by decide +kernel
theorem dX7_tryShafts_107 : decode cX7_tryShafts 107 = .ok (.iload 11, 2) := by decide +kernel
theorem dX7_tryShafts_109 : decode cX7_tryShafts 109 = .ok (.iadd, 1) := by decide +kernel
theorem dX7_tryShafts_110 : decode cX7_tryShafts 110 = .ok (.iload 10, 2) := by decide +kernel
theorem dX7_tryShafts_112 : decode cX7_tryShafts 112 = .ok (.isub, 1) := by decide +kernel
theorem dX7_tryShafts_113 : decode cX7_tryShafts 113 = .ok (.iload 7, 2) := by decide +kernel
theorem dX7_tryShafts_115 : decode cX7_tryShafts 115 = .ok (.bipush 10, 2) := by decide +kernel
theorem dX7_tryShafts_117 : decode cX7_tryShafts 117 = .ok (.imul, 1) := by decide +kernel
theorem dX7_tryShafts_118 : decode cX7_tryShafts 118 = .ok (.iload 10, 2) := by decide +kernel
theorem dX7_tryShafts_120 : decode cX7_tryShafts 120 = .ok (.iadd, 1) := by decide +kernel
theorem dX7_tryShafts_121 : decode cX7_tryShafts 121 = .ok (.invokevirtual 155, 3) := by decide +kernel
theorem dX7_tryShafts_124 : decode cX7_tryShafts 124 = .ok (.iinc 10 1, 3) := by decide +kernel
theorem dX7_tryShafts_127 : decode cX7_tryShafts 127 = .ok (.goto (-56), 3) := by decide +kernel
theorem dX7_tryShafts_130 : decode cX7_tryShafts 130 = .ok (.return_, 1) := by decide +kernel
theorem dX7_fullestPlace_0 : decode cX7_fullestPlace 0 = .ok (.iconst (-1), 1) := by decide +kernel
theorem dX7_fullestPlace_1 : decode cX7_fullestPlace 1 = .ok (.istore_n 1, 1) := by decide +kernel
theorem dX7_fullestPlace_2 : decode cX7_fullestPlace 2 = .ok (.iconst 0, 1) := by decide +kernel
theorem dX7_fullestPlace_3 : decode cX7_fullestPlace 3 = .ok (.istore_n 2, 1) := by decide +kernel
theorem dX7_fullestPlace_4 : decode cX7_fullestPlace 4 = .ok (.iload_n 2, 1) := by decide +kernel
theorem dX7_fullestPlace_5 : decode cX7_fullestPlace 5 = .ok (.aload_n 0, 1) := by decide +kernel
theorem dX7_fullestPlace_6 : decode cX7_fullestPlace 6 = .ok (.getfield 21, 3) := by decide +kernel
theorem dX7_fullestPlace_9 : decode cX7_fullestPlace 9 = .ok (.getfield 82, 3) := by decide +kernel
theorem dX7_fullestPlace_12 : decode cX7_fullestPlace 12 = .ok (.getfield 85, 3) := by decide +kernel
theorem dX7_fullestPlace_15 : decode cX7_fullestPlace 15 = .ok (.if_icmp .ge 29, 3) := by decide +kernel
theorem dX7_fullestPlace_18 : decode cX7_fullestPlace 18 = .ok (.iload_n 1, 1) := by decide +kernel
theorem dX7_fullestPlace_19 : decode cX7_fullestPlace 19 = .ok (.iconst (-1), 1) := by decide +kernel
theorem dX7_fullestPlace_20 : decode cX7_fullestPlace 20 = .ok (.if_icmp .eq 16, 3) := by decide +kernel
theorem dX7_fullestPlace_23 : decode cX7_fullestPlace 23 = .ok (.aload_n 0, 1) := by decide +kernel
theorem dX7_fullestPlace_24 : decode cX7_fullestPlace 24 = .ok (.iload_n 2, 1) := by decide +kernel
theorem dX7_fullestPlace_25 : decode cX7_fullestPlace 25 = .ok (.invokevirtual 92, 3) := by decide +kernel
theorem dX7_fullestPlace_28 : decode cX7_fullestPlace 28 = .ok (.aload_n 0, 1) := by decide +kernel
theorem dX7_fullestPlace_29 : decode cX7_fullestPlace 29 = .ok (.iload_n 1, 1) := by decide +kernel
theorem dX7_fullestPlace_30 : decode cX7_fullestPlace 30 = .ok (.invokevirtual 92, 3) := by decide +kernel
theorem dX7_fullestPlace_33 : decode cX7_fullestPlace 33 = .ok (.if_icmp .le 5, 3) := by decide +kernel
theorem dX7_fullestPlace_36 : decode cX7_fullestPlace 36 = .ok (.iload_n 2, 1) := by decide +kernel
theorem dX7_fullestPlace_37 : decode cX7_fullestPlace 37 = .ok (.istore_n 1, 1) := by decide +kernel
theorem dX7_fullestPlace_38 : decode cX7_fullestPlace 38 = .ok (.iinc 2 1, 3) := by decide +kernel
theorem dX7_fullestPlace_41 : decode cX7_fullestPlace 41 = .ok (.goto (-37), 3) := by decide +kernel
theorem dX7_fullestPlace_44 : decode cX7_fullestPlace 44 = .ok (.iload_n 1, 1) := by decide +kernel
theorem dX7_fullestPlace_45 : decode cX7_fullestPlace 45 = .ok (.ireturn, 1) := by decide +kernel
theorem dX7_dearestWant_0 : decode cX7_dearestWant 0 = .ok (.iconst (-1), 1) := by decide +kernel
theorem dX7_dearestWant_1 : decode cX7_dearestWant 1 = .ok (.istore_n 1, 1) := by decide +kernel
theorem dX7_dearestWant_2 : decode cX7_dearestWant 2 = .ok (.iconst 0, 1) := by decide +kernel
theorem dX7_dearestWant_3 : decode cX7_dearestWant 3 = .ok (.istore_n 2, 1) := by decide +kernel
theorem dX7_dearestWant_4 : decode cX7_dearestWant 4 = .ok (.iload_n 2, 1) := by decide +kernel
theorem dX7_dearestWant_5 : decode cX7_dearestWant 5 = .ok (.aload_n 0, 1) := by decide +kernel
theorem dX7_dearestWant_6 : decode cX7_dearestWant 6 = .ok (.getfield 12, 3) := by decide +kernel
theorem dX7_dearestWant_9 : decode cX7_dearestWant 9 = .ok (.getfield 81, 3) := by decide +kernel
theorem dX7_dearestWant_12 : decode cX7_dearestWant 12 = .ok (.getfield 85, 3) := by decide +kernel
theorem dX7_dearestWant_15 : decode cX7_dearestWant 15 = .ok (.if_icmp .ge 41, 3) := by decide +kernel
theorem dX7_dearestWant_18 : decode cX7_dearestWant 18 = .ok (.aload_n 0, 1) := by decide +kernel
theorem dX7_dearestWant_19 : decode cX7_dearestWant 19 = .ok (.getfield 21, 3) := by decide +kernel
theorem dX7_dearestWant_22 : decode cX7_dearestWant 22 = .ok (.getfield 78, 3) := by decide +kernel
theorem dX7_dearestWant_25 : decode cX7_dearestWant 25 = .ok (.iload_n 2, 1) := by decide +kernel
theorem dX7_dearestWant_26 : decode cX7_dearestWant 26 = .ok (.iconst 0, 1) := by decide +kernel
theorem dX7_dearestWant_27 : decode cX7_dearestWant 27 = .ok (.invokevirtual 73, 3) := by decide +kernel
theorem dX7_dearestWant_30 : decode cX7_dearestWant 30 = .ok (.iconst 1, 1) := by decide +kernel
theorem dX7_dearestWant_31 : decode cX7_dearestWant 31 = .ok (.if_icmp .ne 19, 3) := by decide +kernel
theorem dX7_dearestWant_34 : decode cX7_dearestWant 34 = .ok (.iload_n 1, 1) := by decide +kernel
theorem dX7_dearestWant_35 : decode cX7_dearestWant 35 = .ok (.iconst (-1), 1) := by decide +kernel
theorem dX7_dearestWant_36 : decode cX7_dearestWant 36 = .ok (.if_icmp .eq 12, 3) := by decide +kernel
theorem dX7_dearestWant_39 : decode cX7_dearestWant 39 = .ok (.aload_n 0, 1) := by decide +kernel
theorem dX7_dearestWant_40 : decode cX7_dearestWant 40 = .ok (.iload_n 2, 1) := by decide +kernel
theorem dX7_dearestWant_41 : decode cX7_dearestWant 41 = .ok (.iload_n 1, 1) := by decide +kernel
theorem dX7_dearestWant_42 : decode cX7_dearestWant 42 = .ok (.invokevirtual 159, 3) := by decide +kernel
theorem dX7_dearestWant_45 : decode cX7_dearestWant 45 = .ok (.ifCond .eq 5, 3) := by decide +kernel
theorem dX7_dearestWant_48 : decode cX7_dearestWant 48 = .ok (.iload_n 2, 1) := by decide +kernel
theorem dX7_dearestWant_49 : decode cX7_dearestWant 49 = .ok (.istore_n 1, 1) := by decide +kernel
theorem dX7_dearestWant_50 : decode cX7_dearestWant 50 = .ok (.iinc 2 1, 3) := by decide +kernel
theorem dX7_dearestWant_53 : decode cX7_dearestWant 53 = .ok (.goto (-49), 3) := by decide +kernel
theorem dX7_dearestWant_56 : decode cX7_dearestWant 56 = .ok (.iload_n 1, 1) := by decide +kernel
theorem dX7_dearestWant_57 : decode cX7_dearestWant 57 = .ok (.ireturn, 1) := by decide +kernel
theorem dX7_isDearer_0 : decode cX7_isDearer 0 = .ok (.aload_n 0, 1) := by decide +kernel
theorem dX7_isDearer_1 : decode cX7_isDearer 1 = .ok (.getfield 12, 3) := by decide +kernel
theorem dX7_isDearer_4 : decode cX7_isDearer 4 = .ok (.getfield 81, 3) := by decide +kernel
theorem dX7_isDearer_7 : decode cX7_isDearer 7 = .ok (.iload_n 1, 1) := by decide +kernel
theorem dX7_isDearer_8 : decode cX7_isDearer 8 = .ok (.iconst 3, 1) := by decide +kernel
theorem dX7_isDearer_9 : decode cX7_isDearer 9 = .ok (.invokevirtual 73, 3) := by decide +kernel
theorem dX7_isDearer_12 : decode cX7_isDearer 12 = .ok (.aload_n 0, 1) := by decide +kernel
theorem dX7_isDearer_13 : decode cX7_isDearer 13 = .ok (.getfield 12, 3) := by decide +kernel
theorem dX7_isDearer_16 : decode cX7_isDearer 16 = .ok (.getfield 81, 3) := by decide +kernel
theorem dX7_isDearer_19 : decode cX7_isDearer 19 = .ok (.iload_n 2, 1) := by decide +kernel
theorem dX7_isDearer_20 : decode cX7_isDearer 20 = .ok (.iconst 1, 1) := by decide +kernel
theorem dX7_isDearer_21 : decode cX7_isDearer 21 = .ok (.invokevirtual 73, 3) := by decide +kernel
theorem dX7_isDearer_24 : decode cX7_isDearer 24 = .ok (.imul, 1) := by decide +kernel
theorem dX7_isDearer_25 : decode cX7_isDearer 25 = .ok (.aload_n 0, 1) := by decide +kernel
theorem dX7_isDearer_26 : decode cX7_isDearer 26 = .ok (.getfield 12, 3) := by decide +kernel
theorem dX7_isDearer_29 : decode cX7_isDearer 29 = .ok (.getfield 81, 3) := by decide +kernel
theorem dX7_isDearer_32 : decode cX7_isDearer 32 = .ok (.iload_n 2, 1) := by decide +kernel
theorem dX7_isDearer_33 : decode cX7_isDearer 33 = .ok (.iconst 3, 1) := by decide +kernel
theorem dX7_isDearer_34 : decode cX7_isDearer 34 = .ok (.invokevirtual 73, 3) := by decide +kernel
theorem dX7_isDearer_37 : decode cX7_isDearer 37 = .ok (.aload_n 0, 1) := by decide +kernel
theorem dX7_isDearer_38 : decode cX7_isDearer 38 = .ok (.getfield 12, 3) := by decide +kernel
theorem dX7_isDearer_41 : decode cX7_isDearer 41 = .ok (.getfield 81, 3) := by decide +kernel
theorem dX7_isDearer_44 : decode cX7_isDearer 44 = .ok (.iload_n 1, 1) := by decide +kernel
theorem dX7_isDearer_45 : decode cX7_isDearer 45 = .ok (.iconst 1, 1) := by decide +kernel
theorem dX7_isDearer_46 : decode cX7_isDearer 46 = .ok (.invokevirtual 73, 3) := by decide +kernel
theorem dX7_isDearer_49 : decode cX7_isDearer 49 = .ok (.imul, 1) := by decide +kernel
theorem dX7_isDearer_50 : decode cX7_isDearer 50 = .ok (.if_icmp .le 7, 3) := by decide +kernel
theorem dX7_isDearer_53 : decode cX7_isDearer 53 = .ok (.iconst 1, 1) := by decide +kernel
theorem dX7_isDearer_54 : decode cX7_isDearer 54 = .ok (.goto 4, 3) := by decide +kernel
theorem dX7_isDearer_57 : decode cX7_isDearer 57 = .ok (.iconst 0, 1) := by decide +kernel
theorem dX7_isDearer_58 : decode cX7_isDearer 58 = .ok (.ireturn, 1) := by decide +kernel
theorem dX8_init_0 : decode cX8_init 0 = .ok (.aload_n 0, 1) := by decide +kernel
theorem dX8_init_1 : decode cX8_init 1 = .ok (.invokespecial 3, 3) := by decide +kernel
theorem dX8_init_4 : decode cX8_init 4 = .ok (.aload_n 0, 1) := by decide +kernel
theorem dX8_init_5 : decode cX8_init 5 = .ok (.new 9, 3) := by decide +kernel
theorem dX8_init_8 : decode cX8_init 8 = .ok (.dup, 1) := by decide +kernel
theorem dX8_init_9 : decode cX8_init 9 = .ok (.bipush 18, 2) := by decide +kernel
theorem dX8_init_11 : decode cX8_init 11 = .ok (.newarray .int, 2) := by decide +kernel
theorem dX8_init_13 : decode cX8_init 13 = .ok (.iconst 3, 1) := by decide +kernel
theorem dX8_init_14 : decode cX8_init 14 = .ok (.invokespecial 11, 3) := by decide +kernel
theorem dX8_init_17 : decode cX8_init 17 = .ok (.putfield 14, 3) := by decide +kernel
theorem dX8_init_20 : decode cX8_init 20 = .ok (.aload_n 0, 1) := by decide +kernel
theorem dX8_init_21 : decode cX8_init 21 = .ok (.new 9, 3) := by decide +kernel
theorem dX8_init_24 : decode cX8_init 24 = .ok (.dup, 1) := by decide +kernel
theorem dX8_init_25 : decode cX8_init 25 = .ok (.bipush 24, 2) := by decide +kernel
theorem dX8_init_27 : decode cX8_init 27 = .ok (.newarray .int, 2) := by decide +kernel
theorem dX8_init_29 : decode cX8_init 29 = .ok (.iconst 2, 1) := by decide +kernel
theorem dX8_init_30 : decode cX8_init 30 = .ok (.invokespecial 11, 3) := by decide +kernel
theorem dX8_init_33 : decode cX8_init 33 = .ok (.putfield 20, 3) := by decide +kernel
theorem dX8_init_36 : decode cX8_init 36 = .ok (.aload_n 0, 1) := by decide +kernel
theorem dX8_init_37 : decode cX8_init 37 = .ok (.new 9, 3) := by decide +kernel
theorem dX8_init_40 : decode cX8_init 40 = .ok (.dup, 1) := by decide +kernel
theorem dX8_init_41 : decode cX8_init 41 = .ok (.bipush 6, 2) := by decide +kernel
theorem dX8_init_43 : decode cX8_init 43 = .ok (.newarray .int, 2) := by decide +kernel
theorem dX8_init_45 : decode cX8_init 45 = .ok (.iconst 2, 1) := by decide +kernel
theorem dX8_init_46 : decode cX8_init 46 = .ok (.invokespecial 11, 3) := by decide +kernel
theorem dX8_init_49 : decode cX8_init 49 = .ok (.putfield 23, 3) := by decide +kernel
theorem dX8_init_52 : decode cX8_init 52 = .ok (.return_, 1) := by decide +kernel
theorem dX8_begin_0 : decode cX8_begin 0 = .ok (.aload_n 0, 1) := by decide +kernel
theorem dX8_begin_1 : decode cX8_begin 1 = .ok (.getfield 14, 3) := by decide +kernel
theorem dX8_begin_4 : decode cX8_begin 4 = .ok (.invokevirtual 26, 3) := by decide +kernel
theorem dX8_begin_7 : decode cX8_begin 7 = .ok (.aload_n 0, 1) := by decide +kernel
theorem dX8_begin_8 : decode cX8_begin 8 = .ok (.getfield 20, 3) := by decide +kernel
theorem dX8_begin_11 : decode cX8_begin 11 = .ok (.invokevirtual 26, 3) := by decide +kernel
theorem dX8_begin_14 : decode cX8_begin 14 = .ok (.aload_n 0, 1) := by decide +kernel
theorem dX8_begin_15 : decode cX8_begin 15 = .ok (.getfield 23, 3) := by decide +kernel
theorem dX8_begin_18 : decode cX8_begin 18 = .ok (.invokevirtual 26, 3) := by decide +kernel
theorem dX8_begin_21 : decode cX8_begin 21 = .ok (.aload_n 0, 1) := by decide +kernel
theorem dX8_begin_22 : decode cX8_begin 22 = .ok (.getfield 14, 3) := by decide +kernel
theorem dX8_begin_25 : decode cX8_begin 25 = .ok (.aload_n 1, 1) := by decide +kernel
theorem dX8_begin_26 : decode cX8_begin 26 = .ok (.getfield 29, 3) := by decide +kernel
theorem dX8_begin_29 : decode cX8_begin 29 = .ok (.getfield 34, 3) := by decide +kernel
theorem dX8_begin_32 : decode cX8_begin 32 = .ok (.putfield 34, 3) := by decide +kernel
theorem dX8_begin_35 : decode cX8_begin 35 = .ok (.aload_n 0, 1) := by decide +kernel
theorem dX8_begin_36 : decode cX8_begin 36 = .ok (.getfield 20, 3) := by decide +kernel
theorem dX8_begin_39 : decode cX8_begin 39 = .ok (.aload_n 1, 1) := by decide +kernel
theorem dX8_begin_40 : decode cX8_begin 40 = .ok (.getfield 38, 3) := by decide +kernel
theorem dX8_begin_43 : decode cX8_begin 43 = .ok (.getfield 34, 3) := by decide +kernel
theorem dX8_begin_46 : decode cX8_begin 46 = .ok (.putfield 34, 3) := by decide +kernel
theorem dX8_begin_49 : decode cX8_begin 49 = .ok (.aload_n 0, 1) := by decide +kernel
theorem dX8_begin_50 : decode cX8_begin 50 = .ok (.getfield 23, 3) := by decide +kernel
theorem dX8_begin_53 : decode cX8_begin 53 = .ok (.aload_n 1, 1) := by decide +kernel
theorem dX8_begin_54 : decode cX8_begin 54 = .ok (.getfield 39, 3) := by decide +kernel
theorem dX8_begin_57 : decode cX8_begin 57 = .ok (.getfield 34, 3) := by decide +kernel
theorem dX8_begin_60 : decode cX8_begin 60 = .ok (.putfield 34, 3) := by decide +kernel
theorem dX8_begin_63 : decode cX8_begin 63 = .ok (.iconst 0, 1) := by decide +kernel
theorem dX8_begin_64 : decode cX8_begin 64 = .ok (.istore_n 2, 1) := by decide +kernel
theorem dX8_begin_65 : decode cX8_begin 65 = .ok (.iload_n 2, 1) := by decide +kernel
theorem dX8_begin_66 : decode cX8_begin 66 = .ok (.aload_n 0, 1) := by decide +kernel
theorem dX8_begin_67 : decode cX8_begin 67 = .ok (.getfield 14, 3) := by decide +kernel
theorem dX8_begin_70 : decode cX8_begin 70 = .ok (.getfield 34, 3) := by decide +kernel
theorem dX8_begin_73 : decode cX8_begin 73 = .ok (.if_icmp .ge 45, 3) := by decide +kernel
theorem dX8_begin_76 : decode cX8_begin 76 = .ok (.aload_n 0, 1) := by decide +kernel
theorem dX8_begin_77 : decode cX8_begin 77 = .ok (.getfield 14, 3) := by decide +kernel
theorem dX8_begin_80 : decode cX8_begin 80 = .ok (.iload_n 2, 1) := by decide +kernel
theorem dX8_begin_81 : decode cX8_begin 81 = .ok (.iconst 0, 1) := by decide +kernel
theorem dX8_begin_82 : decode cX8_begin 82 = .ok (.aload_n 1, 1) := by decide +kernel
theorem dX8_begin_83 : decode cX8_begin 83 = .ok (.getfield 29, 3) := by decide +kernel
theorem dX8_begin_86 : decode cX8_begin 86 = .ok (.iload_n 2, 1) := by decide +kernel
theorem dX8_begin_87 : decode cX8_begin 87 = .ok (.iconst 1, 1) := by decide +kernel
theorem dX8_begin_88 : decode cX8_begin 88 = .ok (.invokevirtual 42, 3) := by decide +kernel
theorem dX8_begin_91 : decode cX8_begin 91 = .ok (.invokevirtual 46, 3) := by decide +kernel
theorem dX8_begin_94 : decode cX8_begin 94 = .ok (.aload_n 0, 1) := by decide +kernel
theorem dX8_begin_95 : decode cX8_begin 95 = .ok (.getfield 14, 3) := by decide +kernel
theorem dX8_begin_98 : decode cX8_begin 98 = .ok (.iload_n 2, 1) := by decide +kernel
theorem dX8_begin_99 : decode cX8_begin 99 = .ok (.iconst 1, 1) := by decide +kernel
theorem dX8_begin_100 : decode cX8_begin 100 = .ok (.aload_n 1, 1) := by decide +kernel
theorem dX8_begin_101 : decode cX8_begin 101 = .ok (.getfield 29, 3) := by decide +kernel
theorem dX8_begin_104 : decode cX8_begin 104 = .ok (.iload_n 2, 1) := by decide +kernel
theorem dX8_begin_105 : decode cX8_begin 105 = .ok (.iconst 2, 1) := by decide +kernel
theorem dX8_begin_106 : decode cX8_begin 106 = .ok (.invokevirtual 42, 3) := by decide +kernel
theorem dX8_begin_109 : decode cX8_begin 109 = .ok (.invokevirtual 46, 3) := by decide +kernel
theorem dX8_begin_112 : decode cX8_begin 112 = .ok (.iinc 2 1, 3) := by decide +kernel
theorem dX8_begin_115 : decode cX8_begin 115 = .ok (.goto (-50), 3) := by decide +kernel
theorem dX8_begin_118 : decode cX8_begin 118 = .ok (.iconst 0, 1) := by decide +kernel
theorem dX8_begin_119 : decode cX8_begin 119 = .ok (.istore_n 2, 1) := by decide +kernel
theorem dX8_begin_120 : decode cX8_begin 120 = .ok (.iload_n 2, 1) := by decide +kernel
theorem dX8_begin_121 : decode cX8_begin 121 = .ok (.aload_n 0, 1) := by decide +kernel
theorem dX8_begin_122 : decode cX8_begin 122 = .ok (.getfield 23, 3) := by decide +kernel
theorem dX8_begin_125 : decode cX8_begin 125 = .ok (.getfield 34, 3) := by decide +kernel
theorem dX8_begin_128 : decode cX8_begin 128 = .ok (.if_icmp .ge 27, 3) := by decide +kernel
theorem dX8_begin_131 : decode cX8_begin 131 = .ok (.aload_n 0, 1) := by decide +kernel
theorem dX8_begin_132 : decode cX8_begin 132 = .ok (.getfield 23, 3) := by decide +kernel
theorem dX8_begin_135 : decode cX8_begin 135 = .ok (.iload_n 2, 1) := by decide +kernel
theorem dX8_begin_136 : decode cX8_begin 136 = .ok (.iconst 0, 1) := by decide +kernel
theorem dX8_begin_137 : decode cX8_begin 137 = .ok (.aload_n 1, 1) := by decide +kernel
theorem dX8_begin_138 : decode cX8_begin 138 = .ok (.getfield 39, 3) := by decide +kernel
theorem dX8_begin_141 : decode cX8_begin 141 = .ok (.iload_n 2, 1) := by decide +kernel
theorem dX8_begin_142 : decode cX8_begin 142 = .ok (.iconst 1, 1) := by decide +kernel
theorem dX8_begin_143 : decode cX8_begin 143 = .ok (.invokevirtual 42, 3) := by decide +kernel
theorem dX8_begin_146 : decode cX8_begin 146 = .ok (.invokevirtual 46, 3) := by decide +kernel
theorem dX8_begin_149 : decode cX8_begin 149 = .ok (.iinc 2 1, 3) := by decide +kernel
theorem dX8_begin_152 : decode cX8_begin 152 = .ok (.goto (-32), 3) := by decide +kernel
theorem dX8_begin_155 : decode cX8_begin 155 = .ok (.aload_n 0, 1) := by decide +kernel
theorem dX8_begin_156 : decode cX8_begin 156 = .ok (.invokevirtual 50, 3) := by decide +kernel
theorem dX8_begin_159 : decode cX8_begin 159 = .ok (.aload_n 0, 1) := by decide +kernel
theorem dX8_begin_160 : decode cX8_begin 160 = .ok (.iconst 0, 1) := by decide +kernel
theorem dX8_begin_161 : decode cX8_begin 161 = .ok (.putfield 53, 3) := by decide +kernel
theorem dX8_begin_164 : decode cX8_begin 164 = .ok (.aload_n 0, 1) := by decide +kernel
theorem dX8_begin_165 : decode cX8_begin 165 = .ok (.iconst 0, 1) := by decide +kernel
theorem dX8_begin_166 : decode cX8_begin 166 = .ok (.putfield 56, 3) := by decide +kernel
theorem dX8_begin_169 : decode cX8_begin 169 = .ok (.return_, 1) := by decide +kernel
theorem dX8_openWants_0 : decode cX8_openWants 0 = .ok (.iconst 0, 1) := by decide +kernel
theorem dX8_openWants_1 : decode cX8_openWants 1 = .ok (.istore_n 1, 1) := by decide +kernel
theorem dX8_openWants_2 : decode cX8_openWants 2 = .ok (.iload_n 1, 1) := by decide +kernel
theorem dX8_openWants_3 : decode cX8_openWants 3 = .ok (.aload_n 0, 1) := by decide +kernel
theorem dX8_openWants_4 : decode cX8_openWants 4 = .ok (.getfield 20, 3) := by decide +kernel
theorem dX8_openWants_7 : decode cX8_openWants 7 = .ok (.getfield 34, 3) := by decide +kernel
theorem dX8_openWants_10 : decode cX8_openWants 10 = .ok (.if_icmp .ge 19, 3) := by decide +kernel
theorem dX8_openWants_13 : decode cX8_openWants 13 = .ok (.aload_n 0, 1) := by decide +kernel
theorem dX8_openWants_14 : decode cX8_openWants 14 = .ok (.getfield 20, 3) := by decide +kernel
theorem dX8_openWants_17 : decode cX8_openWants 17 = .ok (.iload_n 1, 1) := by decide +kernel
theorem dX8_openWants_18 : decode cX8_openWants 18 = .ok (.iconst 0, 1) := by decide +kernel
theorem dX8_openWants_19 : decode cX8_openWants 19 = .ok (.iconst 1, 1) := by decide +kernel
theorem dX8_openWants_20 : decode cX8_openWants 20 = .ok (.invokevirtual 46, 3) := by decide +kernel
theorem dX8_openWants_23 : decode cX8_openWants 23 = .ok (.iinc 1 1, 3) := by decide +kernel
theorem dX8_openWants_26 : decode cX8_openWants 26 = .ok (.goto (-24), 3) := by decide +kernel
theorem dX8_openWants_29 : decode cX8_openWants 29 = .ok (.return_, 1) := by decide +kernel
theorem dX8_bring_0 : decode cX8_bring 0 = .ok (.aload_n 0, 1) := by decide +kernel
theorem dX8_bring_1 : decode cX8_bring 1 = .ok (.getfield 14, 3) := by decide +kernel
theorem dX8_bring_4 : decode cX8_bring 4 = .ok (.iload_n 1, 1) := by decide +kernel
theorem dX8_bring_5 : decode cX8_bring 5 = .ok (.iload_n 2, 1) := by decide +kernel
theorem dX8_bring_6 : decode cX8_bring 6 = .ok (.aload_n 0, 1) := by decide +kernel
theorem dX8_bring_7 : decode cX8_bring 7 = .ok (.getfield 14, 3) := by decide +kernel
theorem dX8_bring_10 : decode cX8_bring 10 = .ok (.iload_n 1, 1) := by decide +kernel
theorem dX8_bring_11 : decode cX8_bring 11 = .ok (.iload_n 2, 1) := by decide +kernel
theorem dX8_bring_12 : decode cX8_bring 12 = .ok (.invokevirtual 42, 3) := by decide +kernel
theorem dX8_bring_15 : decode cX8_bring 15 = .ok (.iload_n 3, 1) := by decide +kernel
theorem dX8_bring_16 : decode cX8_bring 16 = .ok (.iadd, 1) := by decide +kernel
theorem dX8_bring_17 : decode cX8_bring 17 = .ok (.sipush 999, 3) := by decide +kernel
theorem dX8_bring_20 : decode cX8_bring 20 = .ok (.invokestatic 59, 3) := by decide +kernel
theorem dX8_bring_23 : decode cX8_bring 23 = .ok (.invokevirtual 46, 3) := by decide +kernel
theorem dX8_bring_26 : decode cX8_bring 26 = .ok (.return_, 1) := by decide +kernel
theorem dX8_copyFrom_0 : decode cX8_copyFrom 0 = .ok (.aload_n 0, 1) := by decide +kernel
theorem dX8_copyFrom_1 : decode cX8_copyFrom 1 = .ok (.getfield 14, 3) := by decide +kernel
theorem dX8_copyFrom_4 : decode cX8_copyFrom 4 = .ok (.aload_n 1, 1) := by decide +kernel
theorem dX8_copyFrom_5 : decode cX8_copyFrom 5 = .ok (.getfield 14, 3) := by decide +kernel
theorem dX8_copyFrom_8 : decode cX8_copyFrom 8 = .ok (.invokevirtual 64, 3) := by decide +kernel
theorem dX8_copyFrom_11 : decode cX8_copyFrom 11 = .ok (.aload_n 0, 1) := by decide +kernel
theorem dX8_copyFrom_12 : decode cX8_copyFrom 12 = .ok (.getfield 20, 3) := by decide +kernel
theorem dX8_copyFrom_15 : decode cX8_copyFrom 15 = .ok (.aload_n 1, 1) := by decide +kernel
theorem dX8_copyFrom_16 : decode cX8_copyFrom 16 = .ok (.getfield 20, 3) := by decide +kernel
theorem dX8_copyFrom_19 : decode cX8_copyFrom 19 = .ok (.invokevirtual 64, 3) := by decide +kernel
theorem dX8_copyFrom_22 : decode cX8_copyFrom 22 = .ok (.aload_n 0, 1) := by decide +kernel
theorem dX8_copyFrom_23 : decode cX8_copyFrom 23 = .ok (.getfield 23, 3) := by decide +kernel
theorem dX8_copyFrom_26 : decode cX8_copyFrom 26 = .ok (.aload_n 1, 1) := by decide +kernel
theorem dX8_copyFrom_27 : decode cX8_copyFrom 27 = .ok (.getfield 23, 3) := by decide +kernel
theorem dX8_copyFrom_30 : decode cX8_copyFrom 30 = .ok (.invokevirtual 64, 3) := by decide +kernel
theorem dX8_copyFrom_33 : decode cX8_copyFrom 33 = .ok (.aload_n 0, 1) := by decide +kernel
theorem dX8_copyFrom_34 : decode cX8_copyFrom 34 = .ok (.aload_n 1, 1) := by decide +kernel
theorem dX8_copyFrom_35 : decode cX8_copyFrom 35 = .ok (.getfield 53, 3) := by decide +kernel
theorem dX8_copyFrom_38 : decode cX8_copyFrom 38 = .ok (.putfield 53, 3) := by decide +kernel
theorem dX8_copyFrom_41 : decode cX8_copyFrom 41 = .ok (.aload_n 0, 1) := by decide +kernel
theorem dX8_copyFrom_42 : decode cX8_copyFrom 42 = .ok (.aload_n 1, 1) := by decide +kernel
theorem dX8_copyFrom_43 : decode cX8_copyFrom 43 = .ok (.getfield 56, 3) := by decide +kernel
theorem dX8_copyFrom_46 : decode cX8_copyFrom 46 = .ok (.putfield 56, 3) := by decide +kernel
theorem dX8_copyFrom_49 : decode cX8_copyFrom 49 = .ok (.return_, 1) := by decide +kernel
theorem dX9_init_0 : decode cX9_init 0 = .ok (.aload_n 0, 1) := by decide +kernel
theorem dX9_init_1 : decode cX9_init 1 = .ok (.invokespecial 3, 3) := by decide +kernel
theorem dX9_init_4 : decode cX9_init 4 = .ok (.aload_n 0, 1) := by decide +kernel
theorem dX9_init_5 : decode cX9_init 5 = .ok (.aload_n 1, 1) := by decide +kernel
theorem dX9_init_6 : decode cX9_init 6 = .ok (.putfield 9, 3) := by decide +kernel
theorem dX9_init_9 : decode cX9_init 9 = .ok (.aload_n 0, 1) := by decide +kernel
theorem dX9_init_10 : decode cX9_init 10 = .ok (.iload_n 2, 1) := by decide +kernel
theorem dX9_init_11 : decode cX9_init 11 = .ok (.putfield 15, 3) := by decide +kernel
theorem dX9_init_14 : decode cX9_init 14 = .ok (.return_, 1) := by decide +kernel
theorem dX9_has_0 : decode cX9_has 0 = .ok (.iload_n 1, 1) := by decide +kernel
theorem dX9_has_1 : decode cX9_has 1 = .ok (.ifCond .lt 15, 3) := by decide +kernel
theorem dX9_has_4 : decode cX9_has 4 = .ok (.iload_n 1, 1) := by decide +kernel
theorem dX9_has_5 : decode cX9_has 5 = .ok (.aload_n 0, 1) := by decide +kernel
theorem dX9_has_6 : decode cX9_has 6 = .ok (.getfield 19, 3) := by decide +kernel
theorem dX9_has_9 : decode cX9_has 9 = .ok (.if_icmp .ge 7, 3) := by decide +kernel
theorem dX9_has_12 : decode cX9_has 12 = .ok (.iconst 1, 1) := by decide +kernel
theorem dX9_has_13 : decode cX9_has 13 = .ok (.goto 4, 3) := by decide +kernel
theorem dX9_has_16 : decode cX9_has 16 = .ok (.iconst 0, 1) := by decide +kernel
theorem dX9_has_17 : decode cX9_has 17 = .ok (.ireturn, 1) := by decide +kernel
theorem dX9_isFull_0 : decode cX9_isFull 0 = .ok (.aload_n 0, 1) := by decide +kernel
theorem dX9_isFull_1 : decode cX9_isFull 1 = .ok (.getfield 19, 3) := by decide +kernel
theorem dX9_isFull_4 : decode cX9_isFull 4 = .ok (.iconst 1, 1) := by decide +kernel
theorem dX9_isFull_5 : decode cX9_isFull 5 = .ok (.iadd, 1) := by decide +kernel
theorem dX9_isFull_6 : decode cX9_isFull 6 = .ok (.aload_n 0, 1) := by decide +kernel
theorem dX9_isFull_7 : decode cX9_isFull 7 = .ok (.getfield 15, 3) := by decide +kernel
theorem dX9_isFull_10 : decode cX9_isFull 10 = .ok (.imul, 1) := by decide +kernel
theorem dX9_isFull_11 : decode cX9_isFull 11 = .ok (.aload_n 0, 1) := by decide +kernel
theorem dX9_isFull_12 : decode cX9_isFull 12 = .ok (.getfield 9, 3) := by decide +kernel
theorem dX9_isFull_15 : decode cX9_isFull 15 = .ok (.arraylength, 1) := by decide +kernel
theorem dX9_isFull_16 : decode cX9_isFull 16 = .ok (.if_icmp .le 7, 3) := by decide +kernel
theorem dX9_isFull_19 : decode cX9_isFull 19 = .ok (.iconst 1, 1) := by decide +kernel
theorem dX9_isFull_20 : decode cX9_isFull 20 = .ok (.goto 4, 3) := by decide +kernel
theorem dX9_isFull_23 : decode cX9_isFull 23 = .ok (.iconst 0, 1) := by decide +kernel
theorem dX9_isFull_24 : decode cX9_isFull 24 = .ok (.ireturn, 1) := by decide +kernel
theorem dX9_newRow_0 : decode cX9_newRow 0 = .ok (.aload_n 0, 1) := by decide +kernel
theorem dX9_newRow_1 : decode cX9_newRow 1 = .ok (.invokevirtual 22, 3) := by decide +kernel
theorem dX9_newRow_4 : decode cX9_newRow 4 = .ok (.ifCond .eq 5, 3) := by decide +kernel
theorem dX9_newRow_7 : decode cX9_newRow 7 = .ok (.iconst (-1), 1) := by decide +kernel
theorem dX9_newRow_8 : decode cX9_newRow 8 = .ok (.ireturn, 1) := by decide +kernel
theorem dX9_newRow_9 : decode cX9_newRow 9 = .ok (.aload_n 0, 1) := by decide +kernel
theorem dX9_newRow_10 : decode cX9_newRow 10 = .ok (.dup, 1) := by decide +kernel
theorem dX9_newRow_11 : decode cX9_newRow 11 = .ok (.getfield 19, 3) := by decide +kernel
theorem dX9_newRow_14 : decode cX9_newRow 14 = .ok (.iconst 1, 1) := by decide +kernel
theorem dX9_newRow_15 : decode cX9_newRow 15 = .ok (.iadd, 1) := by decide +kernel
theorem dX9_newRow_16 : decode cX9_newRow 16 = .ok (.putfield 19, 3) := by decide +kernel
theorem dX9_newRow_19 : decode cX9_newRow 19 = .ok (.aload_n 0, 1) := by decide +kernel
theorem dX9_newRow_20 : decode cX9_newRow 20 = .ok (.getfield 19, 3) := by decide +kernel
theorem dX9_newRow_23 : decode cX9_newRow 23 = .ok (.iconst 1, 1) := by decide +kernel
theorem dX9_newRow_24 : decode cX9_newRow 24 = .ok (.isub, 1) := by decide +kernel
theorem dX9_newRow_25 : decode cX9_newRow 25 = .ok (.ireturn, 1) := by decide +kernel
theorem dX9_at_0 : decode cX9_at 0 = .ok (.iload_n 1, 1) := by decide +kernel
theorem dX9_at_1 : decode cX9_at 1 = .ok (.aload_n 0, 1) := by decide +kernel
theorem dX9_at_2 : decode cX9_at 2 = .ok (.getfield 15, 3) := by decide +kernel
theorem dX9_at_5 : decode cX9_at 5 = .ok (.imul, 1) := by decide +kernel
theorem dX9_at_6 : decode cX9_at 6 = .ok (.iload_n 2, 1) := by decide +kernel
theorem dX9_at_7 : decode cX9_at 7 = .ok (.iadd, 1) := by decide +kernel
theorem dX9_at_8 : decode cX9_at 8 = .ok (.istore_n 3, 1) := by decide +kernel
theorem dX9_at_9 : decode cX9_at 9 = .ok (.iload_n 3, 1) := by decide +kernel
theorem dX9_at_10 : decode cX9_at 10 = .ok (.ifCond .lt 21, 3) := by decide +kernel
theorem dX9_at_13 : decode cX9_at 13 = .ok (.iload_n 3, 1) := by decide +kernel
theorem dX9_at_14 : decode cX9_at 14 = .ok (.aload_n 0, 1) := by decide +kernel
theorem dX9_at_15 : decode cX9_at 15 = .ok (.getfield 9, 3) := by decide +kernel
theorem dX9_at_18 : decode cX9_at 18 = .ok (.arraylength, 1) := by decide +kernel
theorem dX9_at_19 : decode cX9_at 19 = .ok (.if_icmp .ge 12, 3) := by decide +kernel
theorem dX9_at_22 : decode cX9_at 22 = .ok (.aload_n 0, 1) := by decide +kernel
theorem dX9_at_23 : decode cX9_at 23 = .ok (.getfield 9, 3) := by decide +kernel
theorem dX9_at_26 : decode cX9_at 26 = .ok (.iload_n 3, 1) := by decide +kernel
theorem dX9_at_27 : decode cX9_at 27 = .ok (.iaload, 1) := by decide +kernel
theorem dX9_at_28 : decode cX9_at 28 = .ok (.goto 4, 3) := by decide +kernel
theorem dX9_at_31 : decode cX9_at 31 = .ok (.iconst 0, 1) := by decide +kernel
theorem dX9_at_32 : decode cX9_at 32 = .ok (.ireturn, 1) := by decide +kernel
theorem dX9_put_0 : decode cX9_put 0 = .ok (.iload_n 1, 1) := by decide +kernel
theorem dX9_put_1 : decode cX9_put 1 = .ok (.aload_n 0, 1) := by decide +kernel
theorem dX9_put_2 : decode cX9_put 2 = .ok (.getfield 15, 3) := by decide +kernel
theorem dX9_put_5 : decode cX9_put 5 = .ok (.imul, 1) := by decide +kernel
theorem dX9_put_6 : decode cX9_put 6 = .ok (.iload_n 2, 1) := by decide +kernel
theorem dX9_put_7 : decode cX9_put 7 = .ok (.iadd, 1) := by decide +kernel
theorem dX9_put_8 : decode cX9_put 8 = .ok (.istore 4, 2) := by decide +kernel
theorem dX9_put_10 : decode cX9_put 10 = .ok (.iload 4, 2) := by decide +kernel
theorem dX9_put_12 : decode cX9_put 12 = .ok (.ifCond .lt 21, 3) := by decide +kernel
theorem dX9_put_15 : decode cX9_put 15 = .ok (.iload 4, 2) := by decide +kernel
theorem dX9_put_17 : decode cX9_put 17 = .ok (.aload_n 0, 1) := by decide +kernel
theorem dX9_put_18 : decode cX9_put 18 = .ok (.getfield 9, 3) := by decide +kernel
theorem dX9_put_21 : decode cX9_put 21 = .ok (.arraylength, 1) := by decide +kernel
theorem dX9_put_22 : decode cX9_put 22 = .ok (.if_icmp .ge 11, 3) := by decide +kernel
theorem dX9_put_25 : decode cX9_put 25 = .ok (.aload_n 0, 1) := by decide +kernel
theorem dX9_put_26 : decode cX9_put 26 = .ok (.getfield 9, 3) := by decide +kernel
theorem dX9_put_29 : decode cX9_put 29 = .ok (.iload 4, 2) := by decide +kernel
theorem dX9_put_31 : decode cX9_put 31 = .ok (.iload_n 3, 1) := by decide +kernel
theorem dX9_put_32 : decode cX9_put 32 = .ok (.iastore, 1) := by decide +kernel
theorem dX9_put_33 : decode cX9_put 33 = .ok (.return_, 1) := by decide +kernel
theorem dX9_add_0 : decode cX9_add 0 = .ok (.aload_n 0, 1) := by decide +kernel
theorem dX9_add_1 : decode cX9_add 1 = .ok (.iload_n 1, 1) := by decide +kernel
theorem dX9_add_2 : decode cX9_add 2 = .ok (.iload_n 2, 1) := by decide +kernel
theorem dX9_add_3 : decode cX9_add 3 = .ok (.aload_n 0, 1) := by decide +kernel
theorem dX9_add_4 : decode cX9_add 4 = .ok (.iload_n 1, 1) := by decide +kernel
theorem dX9_add_5 : decode cX9_add 5 = .ok (.iload_n 2, 1) := by decide +kernel
theorem dX9_add_6 : decode cX9_add 6 = .ok (.invokevirtual 26, 3) := by decide +kernel
theorem dX9_add_9 : decode cX9_add 9 = .ok (.iload_n 3, 1) := by decide +kernel
theorem dX9_add_10 : decode cX9_add 10 = .ok (.iadd, 1) := by decide +kernel
theorem dX9_add_11 : decode cX9_add 11 = .ok (.invokevirtual 30, 3) := by decide +kernel
theorem dX9_add_14 : decode cX9_add 14 = .ok (.return_, 1) := by decide +kernel
theorem dX9_sum_0 : decode cX9_sum 0 = .ok (.iconst 0, 1) := by decide +kernel
theorem dX9_sum_1 : decode cX9_sum 1 = .ok (.istore_n 2, 1) := by decide +kernel
theorem dX9_sum_2 : decode cX9_sum 2 = .ok (.iconst 0, 1) := by decide +kernel
theorem dX9_sum_3 : decode cX9_sum 3 = .ok (.istore_n 3, 1) := by decide +kernel
theorem dX9_sum_4 : decode cX9_sum 4 = .ok (.iload_n 3, 1) := by decide +kernel
theorem dX9_sum_5 : decode cX9_sum 5 = .ok (.aload_n 0, 1) := by decide +kernel
theorem dX9_sum_6 : decode cX9_sum 6 = .ok (.getfield 19, 3) := by decide +kernel
theorem dX9_sum_9 : decode cX9_sum 9 = .ok (.if_icmp .ge 18, 3) := by decide +kernel
theorem dX9_sum_12 : decode cX9_sum 12 = .ok (.iload_n 2, 1) := by decide +kernel
theorem dX9_sum_13 : decode cX9_sum 13 = .ok (.aload_n 0, 1) := by decide +kernel
theorem dX9_sum_14 : decode cX9_sum 14 = .ok (.iload_n 3, 1) := by decide +kernel
theorem dX9_sum_15 : decode cX9_sum 15 = .ok (.iload_n 1, 1) := by decide +kernel
theorem dX9_sum_16 : decode cX9_sum 16 = .ok (.invokevirtual 26, 3) := by decide +kernel
theorem dX9_sum_19 : decode cX9_sum 19 = .ok (.iadd, 1) := by decide +kernel
theorem dX9_sum_20 : decode cX9_sum 20 = .ok (.istore_n 2, 1) := by decide +kernel
theorem dX9_sum_21 : decode cX9_sum 21 = .ok (.iinc 3 1, 3) := by decide +kernel
theorem dX9_sum_24 : decode cX9_sum 24 = .ok (.goto (-20), 3) := by decide +kernel
theorem dX9_sum_27 : decode cX9_sum 27 = .ok (.iload_n 2, 1) := by decide +kernel
theorem dX9_sum_28 : decode cX9_sum 28 = .ok (.ireturn, 1) := by decide +kernel
theorem dX9_copyFrom_0 : decode cX9_copyFrom 0 = .ok (.aload_n 0, 1) := by decide +kernel
theorem dX9_copyFrom_1 : decode cX9_copyFrom 1 = .ok (.aload_n 1, 1) := by decide +kernel
theorem dX9_copyFrom_2 : decode cX9_copyFrom 2 = .ok (.getfield 19, 3) := by decide +kernel
theorem dX9_copyFrom_5 : decode cX9_copyFrom 5 = .ok (.putfield 19, 3) := by decide +kernel
theorem dX9_copyFrom_8 : decode cX9_copyFrom 8 = .ok (.aload_n 1, 1) := by decide +kernel
theorem dX9_copyFrom_9 : decode cX9_copyFrom 9 = .ok (.getfield 9, 3) := by decide +kernel
theorem dX9_copyFrom_12 : decode cX9_copyFrom 12 = .ok (.iconst 0, 1) := by decide +kernel
theorem dX9_copyFrom_13 : decode cX9_copyFrom 13 = .ok (.aload_n 0, 1) := by decide +kernel
theorem dX9_copyFrom_14 : decode cX9_copyFrom 14 = .ok (.getfield 9, 3) := by decide +kernel
theorem dX9_copyFrom_17 : decode cX9_copyFrom 17 = .ok (.iconst 0, 1) := by decide +kernel
theorem dX9_copyFrom_18 : decode cX9_copyFrom 18 = .ok (.aload_n 1, 1) := by decide +kernel
theorem dX9_copyFrom_19 : decode cX9_copyFrom 19 = .ok (.getfield 9, 3) := by decide +kernel
theorem dX9_copyFrom_22 : decode cX9_copyFrom 22 = .ok (.arraylength, 1) := by decide +kernel
theorem dX9_copyFrom_23 : decode cX9_copyFrom 23 = .ok (.aload_n 0, 1) := by decide +kernel
theorem dX9_copyFrom_24 : decode cX9_copyFrom 24 = .ok (.getfield 9, 3) := by decide +kernel
theorem dX9_copyFrom_27 : decode cX9_copyFrom 27 = .ok (.arraylength, 1) := by decide +kernel
theorem dX9_copyFrom_28 : decode cX9_copyFrom 28 = .ok (.invokestatic 34, 3) := by decide +kernel
theorem dX9_copyFrom_31 : decode cX9_copyFrom 31 = .ok (.invokestatic 39, 3) := by decide +kernel
theorem dX9_copyFrom_34 : decode cX9_copyFrom 34 = .ok (.return_, 1) := by decide +kernel
theorem dX9_clear_0 : decode cX9_clear 0 = .ok (.aload_n 0, 1) := by decide +kernel
theorem dX9_clear_1 : decode cX9_clear 1 = .ok (.iconst 0, 1) := by decide +kernel
theorem dX9_clear_2 : decode cX9_clear 2 = .ok (.putfield 19, 3) := by decide +kernel
theorem dX9_clear_5 : decode cX9_clear 5 = .ok (.aload_n 0, 1) := by decide +kernel
theorem dX9_clear_6 : decode cX9_clear 6 = .ok (.getfield 9, 3) := by decide +kernel
theorem dX9_clear_9 : decode cX9_clear 9 = .ok (.iconst 0, 1) := by decide +kernel
theorem dX9_clear_10 : decode cX9_clear 10 = .ok (.invokestatic 45, 3) := by decide +kernel
theorem dX9_clear_13 : decode cX9_clear 13 = .ok (.return_, 1) := by decide +kernel
theorem dX10_init_0 : decode cX10_init 0 = .ok (.aload_n 0, 1) := by decide +kernel
theorem dX10_init_1 : decode cX10_init 1 = .ok (.invokespecial 3, 3) := by decide +kernel
theorem dX10_init_4 : decode cX10_init 4 = .ok (.aload_n 0, 1) := by decide +kernel
theorem dX10_init_5 : decode cX10_init 5 = .ok (.sipush 600, 3) := by decide +kernel
theorem dX10_init_8 : decode cX10_init 8 = .ok (.newarray .byte, 2) := by decide +kernel
theorem dX10_init_10 : decode cX10_init 10 = .ok (.putfield 9, 3) := by decide +kernel
theorem dX10_init_13 : decode cX10_init 13 = .ok (.return_, 1) := by decide +kernel
theorem dX10_append_0 : decode cX10_append 0 = .ok (.bipush 24, 2) := by decide +kernel
theorem dX10_append_2 : decode cX10_append 2 = .ok (.istore_n 2, 1) := by decide +kernel
theorem dX10_append_3 : decode cX10_append 3 = .ok (.iload_n 2, 1) := by decide +kernel
theorem dX10_append_4 : decode cX10_append 4 = .ok (.ifCond .lt 44, 3) := by decide +kernel
theorem dX10_append_7 : decode cX10_append 7 = .ok (.aload_n 0, 1) := by decide +kernel
theorem dX10_append_8 : decode cX10_append 8 = .ok (.getfield 15, 3) := by decide +kernel
theorem dX10_append_11 : decode cX10_append 11 = .ok (.aload_n 0, 1) := by decide +kernel
theorem dX10_append_12 : decode cX10_append 12 = .ok (.getfield 9, 3) := by decide +kernel
theorem dX10_append_15 : decode cX10_append 15 = .ok (.arraylength, 1) := by decide +kernel
theorem dX10_append_16 : decode cX10_append 16 = .ok (.if_icmp .ge 32, 3) := by decide +kernel
theorem dX10_append_19 : decode cX10_append 19 = .ok (.aload_n 0, 1) := by decide +kernel
theorem dX10_append_20 : decode cX10_append 20 = .ok (.getfield 9, 3) := by decide +kernel
theorem dX10_append_23 : decode cX10_append 23 = .ok (.aload_n 0, 1) := by decide +kernel
theorem dX10_append_24 : decode cX10_append 24 = .ok (.getfield 15, 3) := by decide +kernel
theorem dX10_append_27 : decode cX10_append 27 = .ok (.iload_n 1, 1) := by decide +kernel
theorem dX10_append_28 : decode cX10_append 28 = .ok (.iload_n 2, 1) := by decide +kernel
theorem dX10_append_29 : decode cX10_append 29 = .ok (.ishr, 1) := by decide +kernel
theorem dX10_append_30 : decode cX10_append 30 = .ok (.i2b, 1) := by decide +kernel
theorem dX10_append_31 : decode cX10_append 31 = .ok (.bastore, 1) := by decide +kernel
theorem dX10_append_32 : decode cX10_append 32 = .ok (.aload_n 0, 1) := by decide +kernel
theorem dX10_append_33 : decode cX10_append 33 = .ok (.dup, 1) := by decide +kernel
theorem dX10_append_34 : decode cX10_append 34 = .ok (.getfield 15, 3) := by decide +kernel
theorem dX10_append_37 : decode cX10_append 37 = .ok (.iconst 1, 1) := by decide +kernel
theorem dX10_append_38 : decode cX10_append 38 = .ok (.iadd, 1) := by decide +kernel
theorem dX10_append_39 : decode cX10_append 39 = .ok (.putfield 15, 3) := by decide +kernel
theorem dX10_append_42 : decode cX10_append 42 = .ok (.iinc 2 (-8), 3) := by decide +kernel
theorem dX10_append_45 : decode cX10_append 45 = .ok (.goto (-42), 3) := by decide +kernel
theorem dX10_append_48 : decode cX10_append 48 = .ok (.return_, 1) := by decide +kernel
theorem dX10_begin_0 : decode cX10_begin 0 = .ok (.aload_n 0, 1) := by decide +kernel
theorem dX10_begin_1 : decode cX10_begin 1 = .ok (.iload_n 1, 1) := by decide +kernel
theorem dX10_begin_2 : decode cX10_begin 2 = .ok (.aload_n 0, 1) := by decide +kernel
theorem dX10_begin_3 : decode cX10_begin 3 = .ok (.getfield 9, 3) := by decide +kernel
theorem dX10_begin_6 : decode cX10_begin 6 = .ok (.arraylength, 1) := by decide +kernel
theorem dX10_begin_7 : decode cX10_begin 7 = .ok (.invokestatic 19, 3) := by decide +kernel
theorem dX10_begin_10 : decode cX10_begin 10 = .ok (.putfield 25, 3) := by decide +kernel
theorem dX10_begin_13 : decode cX10_begin 13 = .ok (.aload_n 0, 1) := by decide +kernel
theorem dX10_begin_14 : decode cX10_begin 14 = .ok (.iconst 0, 1) := by decide +kernel
theorem dX10_begin_15 : decode cX10_begin 15 = .ok (.putfield 28, 3) := by decide +kernel
theorem dX10_begin_18 : decode cX10_begin 18 = .ok (.aload_n 0, 1) := by decide +kernel
theorem dX10_begin_19 : decode cX10_begin 19 = .ok (.iconst 0, 1) := by decide +kernel
theorem dX10_begin_20 : decode cX10_begin 20 = .ok (.putfield 31, 3) := by decide +kernel
theorem dX10_begin_23 : decode cX10_begin 23 = .ok (.aload_n 0, 1) := by decide +kernel
theorem dX10_begin_24 : decode cX10_begin 24 = .ok (.iconst 0, 1) := by decide +kernel
theorem dX10_begin_25 : decode cX10_begin 25 = .ok (.putfield 34, 3) := by decide +kernel
theorem dX10_begin_28 : decode cX10_begin 28 = .ok (.aload_n 0, 1) := by decide +kernel
theorem dX10_begin_29 : decode cX10_begin 29 = .ok (.iconst 0, 1) := by decide +kernel
theorem dX10_begin_30 : decode cX10_begin 30 = .ok (.putfield 37, 3) := by decide +kernel
theorem dX10_begin_33 : decode cX10_begin 33 = .ok (.return_, 1) := by decide +kernel
theorem dX10_isWell_0 : decode cX10_isWell 0 = .ok (.aload_n 0, 1) := by decide +kernel
theorem dX10_isWell_1 : decode cX10_isWell 1 = .ok (.getfield 34, 3) := by decide +kernel
theorem dX10_isWell_4 : decode cX10_isWell 4 = .ok (.ifCond .ne 7, 3) := by decide +kernel
theorem dX10_isWell_7 : decode cX10_isWell 7 = .ok (.iconst 1, 1) := by decide +kernel
theorem dX10_isWell_8 : decode cX10_isWell 8 = .ok (.goto 4, 3) := by decide +kernel
theorem dX10_isWell_11 : decode cX10_isWell 11 = .ok (.iconst 0, 1) := by decide +kernel
theorem dX10_isWell_12 : decode cX10_isWell 12 = .ok (.ireturn, 1) := by decide +kernel
theorem dX10_refuse_0 : decode cX10_refuse 0 = .ok (.aload_n 0, 1) := by decide +kernel
theorem dX10_refuse_1 : decode cX10_refuse 1 = .ok (.getfield 34, 3) := by decide +kernel
theorem dX10_refuse_4 : decode cX10_refuse 4 = .ok (.ifCond .ne 13, 3) := by decide +kernel
theorem dX10_refuse_7 : decode cX10_refuse 7 = .ok (.aload_n 0, 1) := by decide +kernel
theorem dX10_refuse_8 : decode cX10_refuse 8 = .ok (.iload_n 1, 1) := by decide +kernel
theorem dX10_refuse_9 : decode cX10_refuse 9 = .ok (.putfield 34, 3) := by decide +kernel
theorem dX10_refuse_12 : decode cX10_refuse 12 = .ok (.aload_n 0, 1) := by decide +kernel
theorem dX10_refuse_13 : decode cX10_refuse 13 = .ok (.iload_n 2, 1) := by decide +kernel
theorem dX10_refuse_14 : decode cX10_refuse 14 = .ok (.putfield 37, 3) := by decide +kernel
theorem dX10_refuse_17 : decode cX10_refuse 17 = .ok (.return_, 1) := by decide +kernel
theorem dX10_byteAt_0 : decode cX10_byteAt 0 = .ok (.iload_n 1, 1) := by decide +kernel
theorem dX10_byteAt_1 : decode cX10_byteAt 1 = .ok (.ifCond .lt 33, 3) := by decide +kernel
theorem dX10_byteAt_4 : decode cX10_byteAt 4 = .ok (.iload_n 1, 1) := by decide +kernel
theorem dX10_byteAt_5 : decode cX10_byteAt 5 = .ok (.aload_n 0, 1) := by decide +kernel
theorem dX10_byteAt_6 : decode cX10_byteAt 6 = .ok (.getfield 25, 3) := by decide +kernel
theorem dX10_byteAt_9 : decode cX10_byteAt 9 = .ok (.if_icmp .ge 25, 3) := by decide +kernel
theorem dX10_byteAt_12 : decode cX10_byteAt 12 = .ok (.iload_n 1, 1) := by decide +kernel
theorem dX10_byteAt_13 : decode cX10_byteAt 13 = .ok (.aload_n 0, 1) := by decide +kernel
theorem dX10_byteAt_14 : decode cX10_byteAt 14 = .ok (.getfield 9, 3) := by decide +kernel
theorem dX10_byteAt_17 : decode cX10_byteAt 17 = .ok (.arraylength, 1) := by decide +kernel
theorem dX10_byteAt_18 : decode cX10_byteAt 18 = .ok (.if_icmp .ge 16, 3) := by decide +kernel
theorem dX10_byteAt_21 : decode cX10_byteAt 21 = .ok (.aload_n 0, 1) := by decide +kernel
theorem dX10_byteAt_22 : decode cX10_byteAt 22 = .ok (.getfield 9, 3) := by decide +kernel
theorem dX10_byteAt_25 : decode cX10_byteAt 25 = .ok (.iload_n 1, 1) := by decide +kernel
theorem dX10_byteAt_26 : decode cX10_byteAt 26 = .ok (.baload, 1) := by decide +kernel
theorem dX10_byteAt_27 : decode cX10_byteAt 27 = .ok (.sipush 255, 3) := by decide +kernel
theorem dX10_byteAt_30 : decode cX10_byteAt 30 = .ok (.iand, 1) := by decide +kernel
theorem dX10_byteAt_31 : decode cX10_byteAt 31 = .ok (.goto 4, 3) := by decide +kernel
theorem dX10_byteAt_34 : decode cX10_byteAt 34 = .ok (.iconst (-1), 1) := by decide +kernel
theorem dX10_byteAt_35 : decode cX10_byteAt 35 = .ok (.ireturn, 1) := by decide +kernel
theorem dX10_next_0 : decode cX10_next 0 = .ok (.aload_n 0, 1) := by decide +kernel
theorem dX10_next_1 : decode cX10_next 1 = .ok (.getfield 28, 3) := by decide +kernel
theorem dX10_next_4 : decode cX10_next 4 = .ok (.aload_n 0, 1) := by decide +kernel
theorem dX10_next_5 : decode cX10_next 5 = .ok (.getfield 25, 3) := by decide +kernel
theorem dX10_next_8 : decode cX10_next 8 = .ok (.if_icmp .ge 42, 3) := by decide +kernel
theorem dX10_next_11 : decode cX10_next 11 = .ok (.aload_n 0, 1) := by decide +kernel
theorem dX10_next_12 : decode cX10_next 12 = .ok (.getfield 28, 3) := by decide +kernel
theorem dX10_next_15 : decode cX10_next 15 = .ok (.aload_n 0, 1) := by decide +kernel
theorem dX10_next_16 : decode cX10_next 16 = .ok (.getfield 9, 3) := by decide +kernel
theorem dX10_next_19 : decode cX10_next 19 = .ok (.arraylength, 1) := by decide +kernel
theorem dX10_next_20 : decode cX10_next 20 = .ok (.if_icmp .ge 30, 3) := by decide +kernel
theorem dX10_next_23 : decode cX10_next 23 = .ok (.aload_n 0, 1) := by decide +kernel
theorem dX10_next_24 : decode cX10_next 24 = .ok (.getfield 9, 3) := by decide +kernel
theorem dX10_next_27 : decode cX10_next 27 = .ok (.aload_n 0, 1) := by decide +kernel
theorem dX10_next_28 : decode cX10_next 28 = .ok (.getfield 28, 3) := by decide +kernel
theorem dX10_next_31 : decode cX10_next 31 = .ok (.baload, 1) := by decide +kernel
theorem dX10_next_32 : decode cX10_next 32 = .ok (.bipush 32, 2) := by decide +kernel
theorem dX10_next_34 : decode cX10_next 34 = .ok (.if_icmp .ne 16, 3) := by decide +kernel
theorem dX10_next_37 : decode cX10_next 37 = .ok (.aload_n 0, 1) := by decide +kernel
theorem dX10_next_38 : decode cX10_next 38 = .ok (.dup, 1) := by decide +kernel
theorem dX10_next_39 : decode cX10_next 39 = .ok (.getfield 28, 3) := by decide +kernel
theorem dX10_next_42 : decode cX10_next 42 = .ok (.iconst 1, 1) := by decide +kernel
theorem dX10_next_43 : decode cX10_next 43 = .ok (.iadd, 1) := by decide +kernel
theorem dX10_next_44 : decode cX10_next 44 = .ok (.putfield 28, 3) := by decide +kernel
theorem dX10_next_47 : decode cX10_next 47 = .ok (.goto (-47), 3) := by decide +kernel
theorem dX10_next_50 : decode cX10_next 50 = .ok (.aload_n 0, 1) := by decide +kernel
theorem dX10_next_51 : decode cX10_next 51 = .ok (.getfield 34, 3) := by decide +kernel
theorem dX10_next_54 : decode cX10_next 54 = .ok (.ifCond .ne 42, 3) := by decide +kernel
theorem dX10_next_57 : decode cX10_next 57 = .ok (.aload_n 0, 1) := by decide +kernel
theorem dX10_next_58 : decode cX10_next 58 = .ok (.getfield 28, 3) := by decide +kernel
theorem dX10_next_61 : decode cX10_next 61 = .ok (.aload_n 0, 1) := by decide +kernel
theorem dX10_next_62 : decode cX10_next 62 = .ok (.getfield 25, 3) := by decide +kernel
theorem dX10_next_65 : decode cX10_next 65 = .ok (.if_icmp .ge 31, 3) := by decide +kernel
theorem dX10_next_68 : decode cX10_next 68 = .ok (.aload_n 0, 1) := by decide +kernel
theorem dX10_next_69 : decode cX10_next 69 = .ok (.getfield 28, 3) := by decide +kernel
theorem dX10_next_72 : decode cX10_next 72 = .ok (.aload_n 0, 1) := by decide +kernel
theorem dX10_next_73 : decode cX10_next 73 = .ok (.getfield 9, 3) := by decide +kernel
theorem dX10_next_76 : decode cX10_next 76 = .ok (.arraylength, 1) := by decide +kernel
theorem dX10_next_77 : decode cX10_next 77 = .ok (.if_icmp .ge 19, 3) := by decide +kernel
theorem dX10_next_80 : decode cX10_next 80 = .ok (.aload_n 0, 1) := by decide +kernel
theorem dX10_next_81 : decode cX10_next 81 = .ok (.getfield 9, 3) := by decide +kernel
theorem dX10_next_84 : decode cX10_next 84 = .ok (.aload_n 0, 1) := by decide +kernel
theorem dX10_next_85 : decode cX10_next 85 = .ok (.getfield 28, 3) := by decide +kernel
theorem dX10_next_88 : decode cX10_next 88 = .ok (.baload, 1) := by decide +kernel
theorem dX10_next_89 : decode cX10_next 89 = .ok (.sipush 255, 3) := by decide +kernel
theorem dX10_next_92 : decode cX10_next 92 = .ok (.iand, 1) := by decide +kernel
theorem dX10_next_93 : decode cX10_next 93 = .ok (.goto 4, 3) := by decide +kernel
theorem dX10_next_96 : decode cX10_next 96 = .ok (.iconst (-1), 1) := by decide +kernel
theorem dX10_next_97 : decode cX10_next 97 = .ok (.ireturn, 1) := by decide +kernel
theorem dX10_takeSign_0 : decode cX10_takeSign 0 = .ok (.aload_n 0, 1) := by decide +kernel
theorem dX10_takeSign_1 : decode cX10_takeSign 1 = .ok (.invokevirtual 40, 3) := by decide +kernel
theorem dX10_takeSign_4 : decode cX10_takeSign 4 = .ok (.iload_n 1, 1) := by decide +kernel
theorem dX10_takeSign_5 : decode cX10_takeSign 5 = .ok (.if_icmp .ne 16, 3) := by decide +kernel
theorem dX10_takeSign_8 : decode cX10_takeSign 8 = .ok (.aload_n 0, 1) := by decide +kernel
theorem dX10_takeSign_9 : decode cX10_takeSign 9 = .ok (.dup, 1) := by decide +kernel
theorem dX10_takeSign_10 : decode cX10_takeSign 10 = .ok (.getfield 28, 3) := by decide +kernel
theorem dX10_takeSign_13 : decode cX10_takeSign 13 = .ok (.iconst 1, 1) := by decide +kernel
theorem dX10_takeSign_14 : decode cX10_takeSign 14 = .ok (.iadd, 1) := by decide +kernel
theorem dX10_takeSign_15 : decode cX10_takeSign 15 = .ok (.putfield 28, 3) := by decide +kernel
theorem dX10_takeSign_18 : decode cX10_takeSign 18 = .ok (.goto 12, 3) := by decide +kernel
theorem dX10_takeSign_21 : decode cX10_takeSign 21 = .ok (.aload_n 0, 1) := by decide +kernel
theorem dX10_takeSign_22 : decode cX10_takeSign 22 = .ok (.iconst 1, 1) := by decide +kernel
theorem dX10_takeSign_23 : decode cX10_takeSign 23 = .ok (.aload_n 0, 1) := by decide +kernel
theorem dX10_takeSign_24 : decode cX10_takeSign 24 = .ok (.getfield 28, 3) := by decide +kernel
theorem dX10_takeSign_27 : decode cX10_takeSign 27 = .ok (.invokevirtual 44, 3) := by decide +kernel
theorem dX10_takeSign_30 : decode cX10_takeSign 30 = .ok (.return_, 1) := by decide +kernel
theorem dX10_takeNumber_0 : decode cX10_takeNumber 0 = .ok (.aload_n 0, 1) := by decide +kernel
theorem dX10_takeNumber_1 : decode cX10_takeNumber 1 = .ok (.invokevirtual 40, 3) := by decide +kernel
theorem dX10_takeNumber_4 : decode cX10_takeNumber 4 = .ok (.bipush 48, 2) := by decide +kernel
theorem dX10_takeNumber_6 : decode cX10_takeNumber 6 = .ok (.bipush 57, 2) := by decide +kernel
theorem dX10_takeNumber_8 : decode cX10_takeNumber 8 = .ok (.invokestatic 48, 3) := by decide +kernel
theorem dX10_takeNumber_11 : decode cX10_takeNumber 11 = .ok (.ifCond .ne 14, 3) := by decide +kernel
theorem dX10_takeNumber_14 : decode cX10_takeNumber 14 = .ok (.aload_n 0, 1) := by decide +kernel
theorem dX10_takeNumber_15 : decode cX10_takeNumber 15 = .ok (.iconst 1, 1) := by decide +kernel
theorem dX10_takeNumber_16 : decode cX10_takeNumber 16 = .ok (.aload_n 0, 1) := by decide +kernel
theorem dX10_takeNumber_17 : decode cX10_takeNumber 17 = .ok (.getfield 28, 3) := by decide +kernel
theorem dX10_takeNumber_20 : decode cX10_takeNumber 20 = .ok (.invokevirtual 44, 3) := by decide +kernel
theorem dX10_takeNumber_23 : decode cX10_takeNumber 23 = .ok (.iconst 0, 1) := by decide +kernel
theorem dX10_takeNumber_24 : decode cX10_takeNumber 24 = .ok (.ireturn, 1) := by decide +kernel
theorem dX10_takeNumber_25 : decode cX10_takeNumber 25 = .ok (.aload_n 0, 1) := by decide +kernel
theorem dX10_takeNumber_26 : decode cX10_takeNumber 26 = .ok (.getfield 28, 3) := by decide +kernel
theorem dX10_takeNumber_29 : decode cX10_takeNumber 29 = .ok (.istore_n 3, 1) := by decide +kernel
theorem dX10_takeNumber_30 : decode cX10_takeNumber 30 = .ok (.iconst 0, 1) := by decide +kernel
theorem dX10_takeNumber_31 : decode cX10_takeNumber 31 = .ok (.istore 4, 2) := by decide +kernel
theorem dX10_takeNumber_33 : decode cX10_takeNumber 33 = .ok (.aload_n 0, 1) := by decide +kernel
theorem dX10_takeNumber_34 : decode cX10_takeNumber 34 = .ok (.getfield 28, 3) := by decide +kernel
theorem dX10_takeNumber_37 : decode cX10_takeNumber 37 = .ok (.aload_n 0, 1) := by decide +kernel
theorem dX10_takeNumber_38 : decode cX10_takeNumber 38 = .ok (.getfield 25, 3) := by decide +kernel
theorem dX10_takeNumber_41 : decode cX10_takeNumber 41 = .ok (.if_icmp .ge 58, 3) := by decide +kernel
theorem dX10_takeNumber_44 : decode cX10_takeNumber 44 = .ok (.aload_n 0, 1) := by decide +kernel
theorem dX10_takeNumber_45 : decode cX10_takeNumber 45 = .ok (.aload_n 0, 1) := by decide +kernel
theorem dX10_takeNumber_46 : decode cX10_takeNumber 46 = .ok (.getfield 28, 3) := by decide +kernel
theorem dX10_takeNumber_49 : decode cX10_takeNumber 49 = .ok (.invokevirtual 52, 3) := by decide +kernel
theorem dX10_takeNumber_52 : decode cX10_takeNumber 52 = .ok (.bipush 48, 2) := by decide +kernel
theorem dX10_takeNumber_54 : decode cX10_takeNumber 54 = .ok (.bipush 57, 2) := by decide +kernel
theorem dX10_takeNumber_56 : decode cX10_takeNumber 56 = .ok (.invokestatic 48, 3) := by decide +kernel
theorem dX10_takeNumber_59 : decode cX10_takeNumber 59 = .ok (.ifCond .eq 40, 3) := by decide +kernel
theorem dX10_takeNumber_62 : decode cX10_takeNumber 62 = .ok (.iload 4, 2) := by decide +kernel
theorem dX10_takeNumber_64 : decode cX10_takeNumber 64 = .ok (.bipush 10, 2) := by decide +kernel
theorem dX10_takeNumber_66 : decode cX10_takeNumber 66 = .ok (.imul, 1) := by decide +kernel
theorem dX10_takeNumber_67 : decode cX10_takeNumber 67 = .ok (.aload_n 0, 1) := by decide +kernel
theorem dX10_takeNumber_68 : decode cX10_takeNumber 68 = .ok (.aload_n 0, 1) := by decide +kernel
theorem dX10_takeNumber_69 : decode cX10_takeNumber 69 = .ok (.getfield 28, 3) := by decide +kernel
theorem dX10_takeNumber_72 : decode cX10_takeNumber 72 = .ok (.invokevirtual 52, 3) := by decide +kernel
theorem dX10_takeNumber_75 : decode cX10_takeNumber 75 = .ok (.iadd, 1) := by decide +kernel
theorem dX10_takeNumber_76 : decode cX10_takeNumber 76 = .ok (.bipush 48, 2) := by decide +kernel
theorem dX10_takeNumber_78 : decode cX10_takeNumber 78 = .ok (.isub, 1) := by decide +kernel
theorem dX10_takeNumber_79 : decode cX10_takeNumber 79 = .ok (.ldc 56, 2) := by decide +kernel
theorem dX10_takeNumber_81 : decode cX10_takeNumber 81 = .ok (.invokestatic 19, 3) := by decide +kernel
theorem dX10_takeNumber_84 : decode cX10_takeNumber 84 = .ok (.istore 4, 2) := by decide +kernel
theorem dX10_takeNumber_86 : decode cX10_takeNumber 86 = .ok (.aload_n 0, 1) := by decide +kernel
theorem dX10_takeNumber_87 : decode cX10_takeNumber 87 = .ok (.dup, 1) := by decide +kernel
theorem dX10_takeNumber_88 : decode cX10_takeNumber 88 = .ok (.getfield 28, 3) := by decide +kernel
theorem dX10_takeNumber_91 : decode cX10_takeNumber 91 = .ok (.iconst 1, 1) := by decide +kernel
theorem dX10_takeNumber_92 : decode cX10_takeNumber 92 = .ok (.iadd, 1) := by decide +kernel
theorem dX10_takeNumber_93 : decode cX10_takeNumber 93 = .ok (.putfield 28, 3) := by decide +kernel
theorem dX10_takeNumber_96 : decode cX10_takeNumber 96 = .ok (.goto (-63), 3) := by decide +kernel
theorem dX10_takeNumber_99 : decode cX10_takeNumber 99 = .ok (.iload 4, 2) := by decide +kernel
theorem dX10_takeNumber_101 : decode cX10_takeNumber 101 = .ok (.iload_n 1, 1) := by decide +kernel
theorem dX10_takeNumber_102 : decode cX10_takeNumber 102 = .ok (.iload_n 2, 1) := by decide +kernel
theorem dX10_takeNumber_103 : decode cX10_takeNumber 103 = .ok (.invokestatic 48, 3) := by decide +kernel
theorem dX10_takeNumber_106 : decode cX10_takeNumber 106 = .ok (.ifCond .ne 9, 3) := by decide +kernel
theorem dX10_takeNumber_109 : decode cX10_takeNumber 109 = .ok (.aload_n 0, 1) := by decide +kernel
theorem dX10_takeNumber_110 : decode cX10_takeNumber 110 = .ok (.iconst 2, 1) := by decide +kernel
theorem dX10_takeNumber_111 : decode cX10_takeNumber 111 = .ok (.iload_n 3, 1) := by decide +kernel
theorem dX10_takeNumber_112 : decode cX10_takeNumber 112 = .ok (.invokevirtual 44, 3) := by decide +kernel
theorem dX10_takeNumber_115 : decode cX10_takeNumber 115 = .ok (.iload 4, 2) := by decide +kernel
theorem dX10_takeNumber_117 : decode cX10_takeNumber 117 = .ok (.ireturn, 1) := by decide +kernel
theorem dX10_takeWord_0 : decode cX10_takeWord 0 = .ok (.aload_n 0, 1) := by decide +kernel
theorem dX10_takeWord_1 : decode cX10_takeWord 1 = .ok (.invokevirtual 40, 3) := by decide +kernel
theorem dX10_takeWord_4 : decode cX10_takeWord 4 = .ok (.bipush 97, 2) := by decide +kernel
theorem dX10_takeWord_6 : decode cX10_takeWord 6 = .ok (.bipush 122, 2) := by decide +kernel
theorem dX10_takeWord_8 : decode cX10_takeWord 8 = .ok (.invokestatic 48, 3) := by decide +kernel
theorem dX10_takeWord_11 : decode cX10_takeWord 11 = .ok (.ifCond .ne 12, 3) := by decide +kernel
theorem dX10_takeWord_14 : decode cX10_takeWord 14 = .ok (.aload_n 0, 1) := by decide +kernel
theorem dX10_takeWord_15 : decode cX10_takeWord 15 = .ok (.iconst 1, 1) := by decide +kernel
theorem dX10_takeWord_16 : decode cX10_takeWord 16 = .ok (.aload_n 0, 1) := by decide +kernel
theorem dX10_takeWord_17 : decode cX10_takeWord 17 = .ok (.getfield 28, 3) := by decide +kernel
theorem dX10_takeWord_20 : decode cX10_takeWord 20 = .ok (.invokevirtual 44, 3) := by decide +kernel
theorem dX10_takeWord_23 : decode cX10_takeWord 23 = .ok (.aload_n 0, 1) := by decide +kernel
theorem dX10_takeWord_24 : decode cX10_takeWord 24 = .ok (.aload_n 0, 1) := by decide +kernel
theorem dX10_takeWord_25 : decode cX10_takeWord 25 = .ok (.getfield 28, 3) := by decide +kernel
theorem dX10_takeWord_28 : decode cX10_takeWord 28 = .ok (.putfield 31, 3) := by decide +kernel
theorem dX10_takeWord_31 : decode cX10_takeWord 31 = .ok (.aload_n 0, 1) := by decide +kernel
theorem dX10_takeWord_32 : decode cX10_takeWord 32 = .ok (.getfield 28, 3) := by decide +kernel
theorem dX10_takeWord_35 : decode cX10_takeWord 35 = .ok (.aload_n 0, 1) := by decide +kernel
theorem dX10_takeWord_36 : decode cX10_takeWord 36 = .ok (.getfield 25, 3) := by decide +kernel
theorem dX10_takeWord_39 : decode cX10_takeWord 39 = .ok (.if_icmp .ge 34, 3) := by decide +kernel
theorem dX10_takeWord_42 : decode cX10_takeWord 42 = .ok (.aload_n 0, 1) := by decide +kernel
theorem dX10_takeWord_43 : decode cX10_takeWord 43 = .ok (.aload_n 0, 1) := by decide +kernel
theorem dX10_takeWord_44 : decode cX10_takeWord 44 = .ok (.getfield 28, 3) := by decide +kernel
theorem dX10_takeWord_47 : decode cX10_takeWord 47 = .ok (.invokevirtual 52, 3) := by decide +kernel
theorem dX10_takeWord_50 : decode cX10_takeWord 50 = .ok (.bipush 97, 2) := by decide +kernel
theorem dX10_takeWord_52 : decode cX10_takeWord 52 = .ok (.bipush 122, 2) := by decide +kernel
theorem dX10_takeWord_54 : decode cX10_takeWord 54 = .ok (.invokestatic 48, 3) := by decide +kernel
theorem dX10_takeWord_57 : decode cX10_takeWord 57 = .ok (.ifCond .eq 16, 3) := by decide +kernel
theorem dX10_takeWord_60 : decode cX10_takeWord 60 = .ok (.aload_n 0, 1) := by decide +kernel
theorem dX10_takeWord_61 : decode cX10_takeWord 61 = .ok (.dup, 1) := by decide +kernel
theorem dX10_takeWord_62 : decode cX10_takeWord 62 = .ok (.getfield 28, 3) := by decide +kernel
theorem dX10_takeWord_65 : decode cX10_takeWord 65 = .ok (.iconst 1, 1) := by decide +kernel
theorem dX10_takeWord_66 : decode cX10_takeWord 66 = .ok (.iadd, 1) := by decide +kernel
theorem dX10_takeWord_67 : decode cX10_takeWord 67 = .ok (.putfield 28, 3) := by decide +kernel
theorem dX10_takeWord_70 : decode cX10_takeWord 70 = .ok (.goto (-39), 3) := by decide +kernel
theorem dX10_takeWord_73 : decode cX10_takeWord 73 = .ok (.return_, 1) := by decide +kernel
theorem dX10_isWord_0 : decode cX10_isWord 0 = .ok (.aload_n 0, 1) := by decide +kernel
theorem dX10_isWord_1 : decode cX10_isWord 1 = .ok (.getfield 28, 3) := by decide +kernel
theorem dX10_isWord_4 : decode cX10_isWord 4 = .ok (.aload_n 0, 1) := by decide +kernel
theorem dX10_isWord_5 : decode cX10_isWord 5 = .ok (.getfield 31, 3) := by decide +kernel
theorem dX10_isWord_8 : decode cX10_isWord 8 = .ok (.isub, 1) := by decide +kernel
theorem dX10_isWord_9 : decode cX10_isWord 9 = .ok (.aload_n 1, 1) := by decide +kernel
theorem dX10_isWord_10 : decode cX10_isWord 10 = .ok (.invokevirtual 57, 3) := by decide +kernel
theorem dX10_isWord_13 : decode cX10_isWord 13 = .ok (.if_icmp .eq 5, 3) := by decide +kernel
theorem dX10_isWord_16 : decode cX10_isWord 16 = .ok (.iconst 0, 1) := by decide +kernel
theorem dX10_isWord_17 : decode cX10_isWord 17 = .ok (.ireturn, 1) := by decide +kernel
theorem dX10_isWord_18 : decode cX10_isWord 18 = .ok (.iconst 0, 1) := by decide +kernel
theorem dX10_isWord_19 : decode cX10_isWord 19 = .ok (.istore_n 2, 1) := by decide +kernel
theorem dX10_isWord_20 : decode cX10_isWord 20 = .ok (.iload_n 2, 1) := by decide +kernel
theorem dX10_isWord_21 : decode cX10_isWord 21 = .ok (.aload_n 1, 1) := by decide +kernel
theorem dX10_isWord_22 : decode cX10_isWord 22 = .ok (.invokevirtual 57, 3) := by decide +kernel
theorem dX10_isWord_25 : decode cX10_isWord 25 = .ok (.if_icmp .ge 29, 3) := by decide +kernel
theorem dX10_isWord_28 : decode cX10_isWord 28 = .ok (.aload_n 0, 1) := by decide +kernel
theorem dX10_isWord_29 : decode cX10_isWord 29 = .ok (.aload_n 0, 1) := by decide +kernel
theorem dX10_isWord_30 : decode cX10_isWord 30 = .ok (.getfield 31, 3) := by decide +kernel
theorem dX10_isWord_33 : decode cX10_isWord 33 = .ok (.iload_n 2, 1) := by decide +kernel
theorem dX10_isWord_34 : decode cX10_isWord 34 = .ok (.iadd, 1) := by decide +kernel
theorem dX10_isWord_35 : decode cX10_isWord 35 = .ok (.invokevirtual 52, 3) := by decide +kernel
theorem dX10_isWord_38 : decode cX10_isWord 38 = .ok (.aload_n 1, 1) := by decide +kernel
theorem dX10_isWord_39 : decode cX10_isWord 39 = .ok (.iload_n 2, 1) := by decide +kernel
theorem dX10_isWord_40 : decode cX10_isWord 40 = .ok (.invokevirtual 62, 3) := by decide +kernel
theorem dX10_isWord_43 : decode cX10_isWord 43 = .ok (.if_icmp .eq 5, 3) := by decide +kernel
theorem dX10_isWord_46 : decode cX10_isWord 46 = .ok (.iconst 0, 1) := by decide +kernel
theorem dX10_isWord_47 : decode cX10_isWord 47 = .ok (.ireturn, 1) := by decide +kernel
theorem dX10_isWord_48 : decode cX10_isWord 48 = .ok (.iinc 2 1, 3) := by decide +kernel
theorem dX10_isWord_51 : decode cX10_isWord 51 = .ok (.goto (-31), 3) := by decide +kernel
theorem dX10_isWord_54 : decode cX10_isWord 54 = .ok (.iconst 1, 1) := by decide +kernel
theorem dX10_isWord_55 : decode cX10_isWord 55 = .ok (.ireturn, 1) := by decide +kernel
theorem dX11_init_0 : decode cX11_init 0 = .ok (.aload_n 0, 1) := by decide +kernel
theorem dX11_init_1 : decode cX11_init 1 = .ok (.invokespecial 1, 3) := by decide +kernel
theorem dX11_init_4 : decode cX11_init 4 = .ok (.aload_n 0, 1) := by decide +kernel
theorem dX11_init_5 : decode cX11_init 5 = .ok (.new 7, 3) := by decide +kernel
theorem dX11_init_8 : decode cX11_init 8 = .ok (.dup, 1) := by decide +kernel
theorem dX11_init_9 : decode cX11_init 9 = .ok (.invokespecial 9, 3) := by decide +kernel
theorem dX11_init_12 : decode cX11_init 12 = .ok (.putfield 10, 3) := by decide +kernel
theorem dX11_init_15 : decode cX11_init 15 = .ok (.aload_n 0, 1) := by decide +kernel
theorem dX11_init_16 : decode cX11_init 16 = .ok (.new 16, 3) := by decide +kernel
theorem dX11_init_19 : decode cX11_init 19 = .ok (.dup, 1) := by decide +kernel
theorem dX11_init_20 : decode cX11_init 20 = .ok (.invokespecial 18, 3) := by decide +kernel
theorem dX11_init_23 : decode cX11_init 23 = .ok (.putfield 19, 3) := by decide +kernel
theorem dX11_init_26 : decode cX11_init 26 = .ok (.aload_n 0, 1) := by decide +kernel
theorem dX11_init_27 : decode cX11_init 27 = .ok (.new 23, 3) := by decide +kernel
theorem dX11_init_30 : decode cX11_init 30 = .ok (.dup, 1) := by decide +kernel
theorem dX11_init_31 : decode cX11_init 31 = .ok (.aload_n 0, 1) := by decide +kernel
theorem dX11_init_32 : decode cX11_init 32 = .ok (.getfield 19, 3) := by decide +kernel
theorem dX11_init_35 : decode cX11_init 35 = .ok (.invokespecial 25, 3) := by decide +kernel
theorem dX11_init_38 : decode cX11_init 38 = .ok (.putfield 28, 3) := by decide +kernel
theorem dX11_init_41 : decode cX11_init 41 = .ok (.aload_n 0, 1) := by decide +kernel
theorem dX11_init_42 : decode cX11_init 42 = .ok (.new 32, 3) := by decide +kernel
theorem dX11_init_45 : decode cX11_init 45 = .ok (.dup, 1) := by decide +kernel
theorem dX11_init_46 : decode cX11_init 46 = .ok (.aload_n 0, 1) := by decide +kernel
theorem dX11_init_47 : decode cX11_init 47 = .ok (.getfield 19, 3) := by decide +kernel
theorem dX11_init_50 : decode cX11_init 50 = .ok (.invokespecial 34, 3) := by decide +kernel
theorem dX11_init_53 : decode cX11_init 53 = .ok (.putfield 35, 3) := by decide +kernel
theorem dX11_init_56 : decode cX11_init 56 = .ok (.aload_n 0, 1) := by decide +kernel
theorem dX11_init_57 : decode cX11_init 57 = .ok (.new 39, 3) := by decide +kernel
theorem dX11_init_60 : decode cX11_init 60 = .ok (.dup, 1) := by decide +kernel
theorem dX11_init_61 : decode cX11_init 61 = .ok (.invokespecial 41, 3) := by decide +kernel
theorem dX11_init_64 : decode cX11_init 64 = .ok (.putfield 42, 3) := by decide +kernel
theorem dX11_init_67 : decode cX11_init 67 = .ok (.aload_n 0, 1) := by decide +kernel
theorem dX11_init_68 : decode cX11_init 68 = .ok (.new 46, 3) := by decide +kernel
theorem dX11_init_71 : decode cX11_init 71 = .ok (.dup, 1) := by decide +kernel
theorem dX11_init_72 : decode cX11_init 72 = .ok (.invokespecial 48, 3) := by decide +kernel
theorem dX11_init_75 : decode cX11_init 75 = .ok (.putfield 49, 3) := by decide +kernel
theorem dX11_init_78 : decode cX11_init 78 = .ok (.aload_n 0, 1) := by decide +kernel
theorem dX11_init_79 : decode cX11_init 79 = .ok (.new 53, 3) := by decide +kernel
theorem dX11_init_82 : decode cX11_init 82 = .ok (.dup, 1) := by decide +kernel
theorem dX11_init_83 : decode cX11_init 83 = .ok (.invokespecial 55, 3) := by decide +kernel
theorem dX11_init_86 : decode cX11_init 86 = .ok (.putfield 56, 3) := by decide +kernel
theorem dX11_init_89 : decode cX11_init 89 = .ok (.aload_n 0, 1) := by decide +kernel
theorem dX11_init_90 : decode cX11_init 90 = .ok (.new 60, 3) := by decide +kernel
theorem dX11_init_93 : decode cX11_init 93 = .ok (.dup, 1) := by decide +kernel
theorem dX11_init_94 : decode cX11_init 94 = .ok (.invokespecial 62, 3) := by decide +kernel
theorem dX11_init_97 : decode cX11_init 97 = .ok (.putfield 63, 3) := by decide +kernel
theorem dX11_init_100 : decode cX11_init 100 = .ok (.aload_n 0, 1) := by decide +kernel
theorem dX11_init_101 : decode cX11_init 101 = .ok (.new 60, 3) := by decide +kernel
theorem dX11_init_104 : decode cX11_init 104 = .ok (.dup, 1) := by decide +kernel
theorem dX11_init_105 : decode cX11_init 105 = .ok (.invokespecial 62, 3) := by decide +kernel
theorem dX11_init_108 : decode cX11_init 108 = .ok (.putfield 67, 3) := by decide +kernel
theorem dX11_init_111 : decode cX11_init 111 = .ok (.aload_n 0, 1) := by decide +kernel
theorem dX11_init_112 : decode cX11_init 112 = .ok (.new 70, 3) := by decide +kernel
theorem dX11_init_115 : decode cX11_init 115 = .ok (.dup, 1) := by decide +kernel
theorem dX11_init_116 : decode cX11_init 116 = .ok (.invokespecial 72, 3) := by decide +kernel
theorem dX11_init_119 : decode cX11_init 119 = .ok (.putfield 73, 3) := by decide +kernel
theorem dX11_init_122 : decode cX11_init 122 = .ok (.aload_n 0, 1) := by decide +kernel
theorem dX11_init_123 : decode cX11_init 123 = .ok (.iconst 3, 1) := by decide +kernel
theorem dX11_init_124 : decode cX11_init 124 = .ok (.anewarray 70, 3) := by decide +kernel
theorem dX11_init_127 : decode cX11_init 127 = .ok (.putfield 77, 3) := by decide +kernel
theorem dX11_init_130 : decode cX11_init 130 = .ok (.aload_n 0, 1) := by decide +kernel
theorem dX11_init_131 : decode cX11_init 131 = .ok (.bipush 41, 2) := by decide +kernel
theorem dX11_init_133 : decode cX11_init 133 = .ok (.newarray .int, 2) := by decide +kernel
theorem dX11_init_135 : decode cX11_init 135 = .ok (.putfield 81, 3) := by decide +kernel
theorem dX11_init_138 : decode cX11_init 138 = .ok (.aload_n 0, 1) := by decide +kernel
theorem dX11_init_139 : decode cX11_init 139 = .ok (.iconst (-1), 1) := by decide +kernel
theorem dX11_init_140 : decode cX11_init 140 = .ok (.putfield 85, 3) := by decide +kernel
theorem dX11_init_143 : decode cX11_init 143 = .ok (.return_, 1) := by decide +kernel
theorem dX11_feed_0 : decode cX11_feed 0 = .ok (.aload_n 0, 1) := by decide +kernel
theorem dX11_feed_1 : decode cX11_feed 1 = .ok (.getfield 10, 3) := by decide +kernel
theorem dX11_feed_4 : decode cX11_feed 4 = .ok (.getfield 89, 3) := by decide +kernel
theorem dX11_feed_7 : decode cX11_feed 7 = .ok (.bipush 20, 2) := by decide +kernel
theorem dX11_feed_9 : decode cX11_feed 9 = .ok (.iadd, 1) := by decide +kernel
theorem dX11_feed_10 : decode cX11_feed 10 = .ok (.sipush 600, 3) := by decide +kernel
theorem dX11_feed_13 : decode cX11_feed 13 = .ok (.if_icmp .le 5, 3) := by decide +kernel
theorem dX11_feed_16 : decode cX11_feed 16 = .ok (.iconst (-1), 1) := by decide +kernel
theorem dX11_feed_17 : decode cX11_feed 17 = .ok (.ireturn, 1) := by decide +kernel
theorem dX11_feed_18 : decode cX11_feed 18 = .ok (.aload_n 0, 1) := by decide +kernel
theorem dX11_feed_19 : decode cX11_feed 19 = .ok (.getfield 10, 3) := by decide +kernel
theorem dX11_feed_22 : decode cX11_feed 22 = .ok (.iload_n 1, 1) := by decide +kernel
theorem dX11_feed_23 : decode cX11_feed 23 = .ok (.invokevirtual 92, 3) := by decide +kernel
theorem dX11_feed_26 : decode cX11_feed 26 = .ok (.aload_n 0, 1) := by decide +kernel
theorem dX11_feed_27 : decode cX11_feed 27 = .ok (.getfield 10, 3) := by decide +kernel
theorem dX11_feed_30 : decode cX11_feed 30 = .ok (.iload_n 2, 1) := by decide +kernel
theorem dX11_feed_31 : decode cX11_feed 31 = .ok (.invokevirtual 92, 3) := by decide +kernel
theorem dX11_feed_34 : decode cX11_feed 34 = .ok (.aload_n 0, 1) := by decide +kernel
theorem dX11_feed_35 : decode cX11_feed 35 = .ok (.getfield 10, 3) := by decide +kernel
theorem dX11_feed_38 : decode cX11_feed 38 = .ok (.iload_n 3, 1) := by decide +kernel
theorem dX11_feed_39 : decode cX11_feed 39 = .ok (.invokevirtual 92, 3) := by decide +kernel
theorem dX11_feed_42 : decode cX11_feed 42 = .ok (.aload_n 0, 1) := by decide +kernel
theorem dX11_feed_43 : decode cX11_feed 43 = .ok (.getfield 10, 3) := by decide +kernel
theorem dX11_feed_46 : decode cX11_feed 46 = .ok (.iload 4, 2) := by decide +kernel
theorem dX11_feed_48 : decode cX11_feed 48 = .ok (.invokevirtual 92, 3) := by decide +kernel
theorem dX11_feed_51 : decode cX11_feed 51 = .ok (.aload_n 0, 1) := by decide +kernel
theorem dX11_feed_52 : decode cX11_feed 52 = .ok (.getfield 10, 3) := by decide +kernel
theorem dX11_feed_55 : decode cX11_feed 55 = .ok (.iload 5, 2) := by decide +kernel
theorem dX11_feed_57 : decode cX11_feed 57 = .ok (.invokevirtual 92, 3) := by decide +kernel
theorem dX11_feed_60 : decode cX11_feed 60 = .ok (.aload_n 0, 1) := by decide +kernel
theorem dX11_feed_61 : decode cX11_feed 61 = .ok (.getfield 10, 3) := by decide +kernel
theorem dX11_feed_64 : decode cX11_feed 64 = .ok (.getfield 89, 3) := by decide +kernel
theorem dX11_feed_67 : decode cX11_feed 67 = .ok (.ireturn, 1) := by decide +kernel
theorem dX11_coast_0 : decode cX11_coast 0 = .ok (.aload_n 0, 1) := by decide +kernel
theorem dX11_coast_1 : decode cX11_coast 1 = .ok (.aload_n 0, 1) := by decide +kernel
theorem dX11_coast_2 : decode cX11_coast 2 = .ok (.iload_n 1, 1) := by decide +kernel
theorem dX11_coast_3 : decode cX11_coast 3 = .ok (.sipush 600, 3) := by decide +kernel
theorem dX11_coast_6 : decode cX11_coast 6 = .ok (.invokevirtual 96, 3) := by decide +kernel
theorem dX11_coast_9 : decode cX11_coast 9 = .ok (.invokevirtual 100, 3) := by decide +kernel
theorem dX11_coast_12 : decode cX11_coast 12 = .ok (.aload_n 0, 1) := by decide +kernel
theorem dX11_coast_13 : decode cX11_coast 13 = .ok (.getfield 10, 3) := by decide +kernel
theorem dX11_coast_16 : decode cX11_coast 16 = .ok (.iload_n 1, 1) := by decide +kernel
theorem dX11_coast_17 : decode cX11_coast 17 = .ok (.invokevirtual 104, 3) := by decide +kernel
theorem dX11_coast_20 : decode cX11_coast 20 = .ok (.aload_n 0, 1) := by decide +kernel
theorem dX11_coast_21 : decode cX11_coast 21 = .ok (.getfield 49, 3) := by decide +kernel
theorem dX11_coast_24 : decode cX11_coast 24 = .ok (.aload_n 0, 1) := by decide +kernel
theorem dX11_coast_25 : decode cX11_coast 25 = .ok (.getfield 10, 3) := by decide +kernel
theorem dX11_coast_28 : decode cX11_coast 28 = .ok (.invokevirtual 107, 3) := by decide +kernel
theorem dX11_coast_31 : decode cX11_coast 31 = .ok (.aload_n 0, 1) := by decide +kernel
theorem dX11_coast_32 : decode cX11_coast 32 = .ok (.invokevirtual 111, 3) := by decide +kernel
theorem dX11_coast_35 : decode cX11_coast 35 = .ok (.istore_n 2, 1) := by decide +kernel
theorem dX11_coast_36 : decode cX11_coast 36 = .ok (.iload_n 2, 1) := by decide +kernel
theorem dX11_coast_37 : decode cX11_coast 37 = .ok (.ifCond .eq 5, 3) := by decide +kernel
theorem dX11_coast_40 : decode cX11_coast 40 = .ok (.iload_n 2, 1) := by decide +kernel
theorem dX11_coast_41 : decode cX11_coast 41 = .ok (.ireturn, 1) := by decide +kernel
theorem dX11_coast_42 : decode cX11_coast 42 = .ok (.aload_n 0, 1) := by decide +kernel
theorem dX11_coast_43 : decode cX11_coast 43 = .ok (.getfield 19, 3) := by decide +kernel
theorem dX11_coast_46 : decode cX11_coast 46 = .ok (.aload_n 0, 1) := by decide +kernel
theorem dX11_coast_47 : decode cX11_coast 47 = .ok (.getfield 49, 3) := by decide +kernel
theorem dX11_coast_50 : decode cX11_coast 50 = .ok (.invokevirtual 115, 3) := by decide +kernel
theorem dX11_coast_53 : decode cX11_coast 53 = .ok (.aload_n 0, 1) := by decide +kernel
theorem dX11_coast_54 : decode cX11_coast 54 = .ok (.getfield 63, 3) := by decide +kernel
theorem dX11_coast_57 : decode cX11_coast 57 = .ok (.invokevirtual 118, 3) := by decide +kernel
theorem dX11_coast_60 : decode cX11_coast 60 = .ok (.aload_n 0, 1) := by decide +kernel
theorem dX11_coast_61 : decode cX11_coast 61 = .ok (.getfield 73, 3) := by decide +kernel
theorem dX11_coast_64 : decode cX11_coast 64 = .ok (.iconst 0, 1) := by decide +kernel
theorem dX11_coast_65 : decode cX11_coast 65 = .ok (.putfield 121, 3) := by decide +kernel
theorem dX11_coast_68 : decode cX11_coast 68 = .ok (.aload_n 0, 1) := by decide +kernel
theorem dX11_coast_69 : decode cX11_coast 69 = .ok (.iconst 0, 1) := by decide +kernel
theorem dX11_coast_70 : decode cX11_coast 70 = .ok (.putfield 122, 3) := by decide +kernel
theorem dX11_coast_73 : decode cX11_coast 73 = .ok (.aload_n 0, 1) := by decide +kernel
theorem dX11_coast_74 : decode cX11_coast 74 = .ok (.iconst 0, 1) := by decide +kernel
theorem dX11_coast_75 : decode cX11_coast 75 = .ok (.putfield 125, 3) := by decide +kernel
theorem dX11_coast_78 : decode cX11_coast 78 = .ok (.aload_n 0, 1) := by decide +kernel
theorem dX11_coast_79 : decode cX11_coast 79 = .ok (.getfield 19, 3) := by decide +kernel
theorem dX11_coast_82 : decode cX11_coast 82 = .ok (.getfield 128, 3) := by decide +kernel
theorem dX11_coast_85 : decode cX11_coast 85 = .ok (.getfield 131, 3) := by decide +kernel
theorem dX11_coast_88 : decode cX11_coast 88 = .ok (.getfield 135, 3) := by decide +kernel
theorem dX11_coast_91 : decode cX11_coast 91 = .ok (.ireturn, 1) := by decide +kernel
theorem dX11_law_0 : decode cX11_law 0 = .ok (.aload_n 0, 1) := by decide +kernel
theorem dX11_law_1 : decode cX11_law 1 = .ok (.iload_n 1, 1) := by decide +kernel
theorem dX11_law_2 : decode cX11_law 2 = .ok (.iconst 0, 1) := by decide +kernel
theorem dX11_law_3 : decode cX11_law 3 = .ok (.iconst 1, 1) := by decide +kernel
theorem dX11_law_4 : decode cX11_law 4 = .ok (.invokestatic 140, 3) := by decide +kernel
theorem dX11_law_7 : decode cX11_law 7 = .ok (.ifCond .eq 18, 3) := by decide +kernel
theorem dX11_law_10 : decode cX11_law 10 = .ok (.aload_n 0, 1) := by decide +kernel
theorem dX11_law_11 : decode cX11_law 11 = .ok (.iload_n 2, 1) := by decide +kernel
theorem dX11_law_12 : decode cX11_law 12 = .ok (.sipush 150, 3) := by decide +kernel
theorem dX11_law_15 : decode cX11_law 15 = .ok (.invokevirtual 96, 3) := by decide +kernel
theorem dX11_law_18 : decode cX11_law 18 = .ok (.ifCond .eq 7, 3) := by decide +kernel
theorem dX11_law_21 : decode cX11_law 21 = .ok (.iconst 1, 1) := by decide +kernel
theorem dX11_law_22 : decode cX11_law 22 = .ok (.goto 4, 3) := by decide +kernel
theorem dX11_law_25 : decode cX11_law 25 = .ok (.iconst 0, 1) := by decide +kernel
theorem dX11_law_26 : decode cX11_law 26 = .ok (.invokevirtual 100, 3) := by decide +kernel
theorem dX11_law_29 : decode cX11_law 29 = .ok (.aload_n 0, 1) := by decide +kernel
theorem dX11_law_30 : decode cX11_law 30 = .ok (.getfield 10, 3) := by decide +kernel
theorem dX11_law_33 : decode cX11_law 33 = .ok (.iload_n 2, 1) := by decide +kernel
theorem dX11_law_34 : decode cX11_law 34 = .ok (.invokevirtual 104, 3) := by decide +kernel
theorem dX11_law_37 : decode cX11_law 37 = .ok (.aload_n 0, 1) := by decide +kernel
theorem dX11_law_38 : decode cX11_law 38 = .ok (.getfield 56, 3) := by decide +kernel
theorem dX11_law_41 : decode cX11_law 41 = .ok (.aload_n 0, 1) := by decide +kernel
theorem dX11_law_42 : decode cX11_law 42 = .ok (.getfield 10, 3) := by decide +kernel
theorem dX11_law_45 : decode cX11_law 45 = .ok (.invokevirtual 144, 3) := by decide +kernel
theorem dX11_law_48 : decode cX11_law 48 = .ok (.aload_n 0, 1) := by decide +kernel
theorem dX11_law_49 : decode cX11_law 49 = .ok (.invokevirtual 111, 3) := by decide +kernel
theorem dX11_law_52 : decode cX11_law 52 = .ok (.istore_n 3, 1) := by decide +kernel
theorem dX11_law_53 : decode cX11_law 53 = .ok (.iload_n 3, 1) := by decide +kernel
theorem dX11_law_54 : decode cX11_law 54 = .ok (.ifCond .eq 5, 3) := by decide +kernel
theorem dX11_law_57 : decode cX11_law 57 = .ok (.iload_n 3, 1) := by decide +kernel
theorem dX11_law_58 : decode cX11_law 58 = .ok (.ireturn, 1) := by decide +kernel
theorem dX11_law_59 : decode cX11_law 59 = .ok (.iload_n 1, 1) := by decide +kernel
theorem dX11_law_60 : decode cX11_law 60 = .ok (.ifCond .ne 13, 3) := by decide +kernel
theorem dX11_law_63 : decode cX11_law 63 = .ok (.aload_n 0, 1) := by decide +kernel
theorem dX11_law_64 : decode cX11_law 64 = .ok (.getfield 19, 3) := by decide +kernel
theorem dX11_law_67 : decode cX11_law 67 = .ok (.getfield 145, 3) := by decide +kernel
theorem dX11_law_70 : decode cX11_law 70 = .ok (.goto 10, 3) := by decide +kernel
theorem dX11_law_73 : decode cX11_law 73 = .ok (.aload_n 0, 1) := by decide +kernel
theorem dX11_law_74 : decode cX11_law 74 = .ok (.getfield 19, 3) := by decide +kernel
theorem dX11_law_77 : decode cX11_law 77 = .ok (.getfield 148, 3) := by decide +kernel
theorem dX11_law_80 : decode cX11_law 80 = .ok (.astore 4, 2) := by decide +kernel
theorem dX11_law_82 : decode cX11_law 82 = .ok (.aload 4, 2) := by decide +kernel
theorem dX11_law_84 : decode cX11_law 84 = .ok (.aload_n 0, 1) := by decide +kernel
theorem dX11_law_85 : decode cX11_law 85 = .ok (.getfield 56, 3) := by decide +kernel
theorem dX11_law_88 : decode cX11_law 88 = .ok (.invokevirtual 151, 3) := by decide +kernel
theorem dX11_law_91 : decode cX11_law 91 = .ok (.iconst 1, 1) := by decide +kernel
theorem dX11_law_92 : decode cX11_law 92 = .ok (.ireturn, 1) := by decide +kernel
theorem dX11_work_0 : decode cX11_work 0 = .ok (.aload_n 0, 1) := by decide +kernel
theorem dX11_work_1 : decode cX11_work 1 = .ok (.aload_n 0, 1) := by decide +kernel
theorem dX11_work_2 : decode cX11_work 2 = .ok (.iload_n 1, 1) := by decide +kernel
theorem dX11_work_3 : decode cX11_work 3 = .ok (.sipush 150, 3) := by decide +kernel
theorem dX11_work_6 : decode cX11_work 6 = .ok (.invokevirtual 96, 3) := by decide +kernel
theorem dX11_work_9 : decode cX11_work 9 = .ok (.invokevirtual 100, 3) := by decide +kernel
theorem dX11_work_12 : decode cX11_work 12 = .ok (.aload_n 0, 1) := by decide +kernel
theorem dX11_work_13 : decode cX11_work 13 = .ok (.getfield 10, 3) := by decide +kernel
theorem dX11_work_16 : decode cX11_work 16 = .ok (.iload_n 1, 1) := by decide +kernel
theorem dX11_work_17 : decode cX11_work 17 = .ok (.invokevirtual 104, 3) := by decide +kernel
theorem dX11_work_20 : decode cX11_work 20 = .ok (.aload_n 0, 1) := by decide +kernel
theorem dX11_work_21 : decode cX11_work 21 = .ok (.getfield 73, 3) := by decide +kernel
theorem dX11_work_24 : decode cX11_work 24 = .ok (.getfield 121, 3) := by decide +kernel
theorem dX11_work_27 : decode cX11_work 27 = .ok (.bipush 16, 2) := by decide +kernel
theorem dX11_work_29 : decode cX11_work 29 = .ok (.if_icmp .lt 11, 3) := by decide +kernel
theorem dX11_work_32 : decode cX11_work 32 = .ok (.aload_n 0, 1) := by decide +kernel
theorem dX11_work_33 : decode cX11_work 33 = .ok (.invokevirtual 111, 3) := by decide +kernel
theorem dX11_work_36 : decode cX11_work 36 = .ok (.pop, 1) := by decide +kernel
theorem dX11_work_37 : decode cX11_work 37 = .ok (.bipush (-20), 2) := by decide +kernel
theorem dX11_work_39 : decode cX11_work 39 = .ok (.ireturn, 1) := by decide +kernel
theorem dX11_work_40 : decode cX11_work 40 = .ok (.aload_n 0, 1) := by decide +kernel
theorem dX11_work_41 : decode cX11_work 41 = .ok (.getfield 42, 3) := by decide +kernel
theorem dX11_work_44 : decode cX11_work 44 = .ok (.aload_n 0, 1) := by decide +kernel
theorem dX11_work_45 : decode cX11_work 45 = .ok (.getfield 10, 3) := by decide +kernel
theorem dX11_work_48 : decode cX11_work 48 = .ok (.aload_n 0, 1) := by decide +kernel
theorem dX11_work_49 : decode cX11_work 49 = .ok (.getfield 19, 3) := by decide +kernel
theorem dX11_work_52 : decode cX11_work 52 = .ok (.getfield 128, 3) := by decide +kernel
theorem dX11_work_55 : decode cX11_work 55 = .ok (.invokevirtual 155, 3) := by decide +kernel
theorem dX11_work_58 : decode cX11_work 58 = .ok (.aload_n 0, 1) := by decide +kernel
theorem dX11_work_59 : decode cX11_work 59 = .ok (.invokevirtual 111, 3) := by decide +kernel
theorem dX11_work_62 : decode cX11_work 62 = .ok (.istore_n 2, 1) := by decide +kernel
theorem dX11_work_63 : decode cX11_work 63 = .ok (.iload_n 2, 1) := by decide +kernel
theorem dX11_work_64 : decode cX11_work 64 = .ok (.ifCond .eq 5, 3) := by decide +kernel
theorem dX11_work_67 : decode cX11_work 67 = .ok (.iload_n 2, 1) := by decide +kernel
theorem dX11_work_68 : decode cX11_work 68 = .ok (.ireturn, 1) := by decide +kernel
theorem dX11_work_69 : decode cX11_work 69 = .ok (.aload_n 0, 1) := by decide +kernel
theorem dX11_work_70 : decode cX11_work 70 = .ok (.getfield 73, 3) := by decide +kernel
theorem dX11_work_73 : decode cX11_work 73 = .ok (.aload_n 0, 1) := by decide +kernel
theorem dX11_work_74 : decode cX11_work 74 = .ok (.getfield 19, 3) := by decide +kernel
theorem dX11_work_77 : decode cX11_work 77 = .ok (.getfield 158, 3) := by decide +kernel
theorem dX11_work_80 : decode cX11_work 80 = .ok (.invokevirtual 162, 3) := by decide +kernel
theorem dX11_work_83 : decode cX11_work 83 = .ok (.aload_n 0, 1) := by decide +kernel
theorem dX11_work_84 : decode cX11_work 84 = .ok (.getfield 42, 3) := by decide +kernel
theorem dX11_work_87 : decode cX11_work 87 = .ok (.aload_n 0, 1) := by decide +kernel
theorem dX11_work_88 : decode cX11_work 88 = .ok (.getfield 19, 3) := by decide +kernel
theorem dX11_work_91 : decode cX11_work 91 = .ok (.iconst 0, 1) := by decide +kernel
theorem dX11_work_92 : decode cX11_work 92 = .ok (.aload_n 0, 1) := by decide +kernel
theorem dX11_work_93 : decode cX11_work 93 = .ok (.getfield 42, 3) := by decide +kernel
theorem dX11_work_96 : decode cX11_work 96 = .ok (.getfield 166, 3) := by decide +kernel
theorem dX11_work_99 : decode cX11_work 99 = .ok (.getfield 135, 3) := by decide +kernel
theorem dX11_work_102 : decode cX11_work 102 = .ok (.iconst 0, 1) := by decide +kernel
theorem dX11_work_103 : decode cX11_work 103 = .ok (.invokevirtual 169, 3) := by decide +kernel
theorem dX11_work_106 : decode cX11_work 106 = .ok (.aload_n 0, 1) := by decide +kernel
theorem dX11_work_107 : decode cX11_work 107 = .ok (.aload_n 0, 1) := by decide +kernel
theorem dX11_work_108 : decode cX11_work 108 = .ok (.getfield 42, 3) := by decide +kernel
theorem dX11_work_111 : decode cX11_work 111 = .ok (.getfield 173, 3) := by decide +kernel
theorem dX11_work_114 : decode cX11_work 114 = .ok (.putfield 125, 3) := by decide +kernel
theorem dX11_work_117 : decode cX11_work 117 = .ok (.aload_n 0, 1) := by decide +kernel
theorem dX11_work_118 : decode cX11_work 118 = .ok (.getfield 42, 3) := by decide +kernel
theorem dX11_work_121 : decode cX11_work 121 = .ok (.getfield 176, 3) := by decide +kernel
theorem dX11_work_124 : decode cX11_work 124 = .ok (.ireturn, 1) := by decide +kernel
theorem dX11_book_0 : decode cX11_book 0 = .ok (.aload_n 0, 1) := by decide +kernel
theorem dX11_book_1 : decode cX11_book 1 = .ok (.aload_n 0, 1) := by decide +kernel
theorem dX11_book_2 : decode cX11_book 2 = .ok (.iload_n 1, 1) := by decide +kernel
theorem dX11_book_3 : decode cX11_book 3 = .ok (.bipush 100, 2) := by decide +kernel
theorem dX11_book_5 : decode cX11_book 5 = .ok (.invokevirtual 96, 3) := by decide +kernel
theorem dX11_book_8 : decode cX11_book 8 = .ok (.invokevirtual 100, 3) := by decide +kernel
theorem dX11_book_11 : decode cX11_book 11 = .ok (.aload_n 0, 1) := by decide +kernel
theorem dX11_book_12 : decode cX11_book 12 = .ok (.getfield 10, 3) := by decide +kernel
theorem dX11_book_15 : decode cX11_book 15 = .ok (.iload_n 1, 1) := by decide +kernel
theorem dX11_book_16 : decode cX11_book 16 = .ok (.invokevirtual 104, 3) := by decide +kernel
theorem dX11_book_19 : decode cX11_book 19 = .ok (.aload_n 0, 1) := by decide +kernel
theorem dX11_book_20 : decode cX11_book 20 = .ok (.getfield 67, 3) := by decide +kernel
theorem dX11_book_23 : decode cX11_book 23 = .ok (.aload_n 0, 1) := by decide +kernel
theorem dX11_book_24 : decode cX11_book 24 = .ok (.getfield 10, 3) := by decide +kernel
theorem dX11_book_27 : decode cX11_book 27 = .ok (.aload_n 0, 1) := by decide +kernel
theorem dX11_book_28 : decode cX11_book 28 = .ok (.getfield 19, 3) := by decide +kernel
theorem dX11_book_31 : decode cX11_book 31 = .ok (.getfield 128, 3) := by decide +kernel
theorem dX11_book_34 : decode cX11_book 34 = .ok (.getfield 131, 3) := by decide +kernel
theorem dX11_book_37 : decode cX11_book 37 = .ok (.getfield 135, 3) := by decide +kernel
theorem dX11_book_40 : decode cX11_book 40 = .ok (.invokevirtual 179, 3) := by decide +kernel
theorem dX11_book_43 : decode cX11_book 43 = .ok (.aload_n 0, 1) := by decide +kernel
theorem dX11_book_44 : decode cX11_book 44 = .ok (.invokevirtual 111, 3) := by decide +kernel
theorem dX11_book_47 : decode cX11_book 47 = .ok (.istore_n 2, 1) := by decide +kernel
theorem dX11_book_48 : decode cX11_book 48 = .ok (.iload_n 2, 1) := by decide +kernel
theorem dX11_book_49 : decode cX11_book 49 = .ok (.ifCond .eq 5, 3) := by decide +kernel
theorem dX11_book_52 : decode cX11_book 52 = .ok (.iload_n 2, 1) := by decide +kernel
theorem dX11_book_53 : decode cX11_book 53 = .ok (.ireturn, 1) := by decide +kernel
theorem dX11_book_54 : decode cX11_book 54 = .ok (.aload_n 0, 1) := by decide +kernel
theorem dX11_book_55 : decode cX11_book 55 = .ok (.getfield 63, 3) := by decide +kernel
theorem dX11_book_58 : decode cX11_book 58 = .ok (.aload_n 0, 1) := by decide +kernel
theorem dX11_book_59 : decode cX11_book 59 = .ok (.getfield 67, 3) := by decide +kernel
theorem dX11_book_62 : decode cX11_book 62 = .ok (.invokevirtual 182, 3) := by decide +kernel
theorem dX11_book_65 : decode cX11_book 65 = .ok (.aload_n 0, 1) := by decide +kernel
theorem dX11_book_66 : decode cX11_book 66 = .ok (.getfield 63, 3) := by decide +kernel
theorem dX11_book_69 : decode cX11_book 69 = .ok (.getfield 185, 3) := by decide +kernel
theorem dX11_book_72 : decode cX11_book 72 = .ok (.ireturn, 1) := by decide +kernel
theorem dX11_fault_0 : decode cX11_fault 0 = .ok (.aload_n 0, 1) := by decide +kernel
theorem dX11_fault_1 : decode cX11_fault 1 = .ok (.getfield 85, 3) := by decide +kernel
theorem dX11_fault_4 : decode cX11_fault 4 = .ok (.ireturn, 1) := by decide +kernel
theorem dX11_undo_0 : decode cX11_undo 0 = .ok (.aload_n 0, 1) := by decide +kernel
theorem dX11_undo_1 : decode cX11_undo 1 = .ok (.getfield 73, 3) := by decide +kernel
theorem dX11_undo_4 : decode cX11_undo 4 = .ok (.getfield 121, 3) := by decide +kernel
theorem dX11_undo_7 : decode cX11_undo 7 = .ok (.ifCond .ne 5, 3) := by decide +kernel
theorem dX11_undo_10 : decode cX11_undo 10 = .ok (.iconst (-1), 1) := by decide +kernel
theorem dX11_undo_11 : decode cX11_undo 11 = .ok (.ireturn, 1) := by decide +kernel
theorem dX11_undo_12 : decode cX11_undo 12 = .ok (.aload_n 0, 1) := by decide +kernel
theorem dX11_undo_13 : decode cX11_undo 13 = .ok (.getfield 73, 3) := by decide +kernel
theorem dX11_undo_16 : decode cX11_undo 16 = .ok (.aload_n 0, 1) := by decide +kernel
theorem dX11_undo_17 : decode cX11_undo 17 = .ok (.getfield 19, 3) := by decide +kernel
theorem dX11_undo_20 : decode cX11_undo 20 = .ok (.getfield 158, 3) := by decide +kernel
theorem dX11_undo_23 : decode cX11_undo 23 = .ok (.invokevirtual 188, 3) := by decide +kernel
theorem dX11_undo_26 : decode cX11_undo 26 = .ok (.aload_n 0, 1) := by decide +kernel
theorem dX11_undo_27 : decode cX11_undo 27 = .ok (.iconst 0, 1) := by decide +kernel
theorem dX11_undo_28 : decode cX11_undo 28 = .ok (.putfield 125, 3) := by decide +kernel
theorem dX11_undo_31 : decode cX11_undo 31 = .ok (.aload_n 0, 1) := by decide +kernel
theorem dX11_undo_32 : decode cX11_undo 32 = .ok (.getfield 73, 3) := by decide +kernel
theorem dX11_undo_35 : decode cX11_undo 35 = .ok (.getfield 121, 3) := by decide +kernel
theorem dX11_undo_38 : decode cX11_undo 38 = .ok (.ireturn, 1) := by decide +kernel
theorem dX11_told_0 : decode cX11_told 0 = .ok (.iload_n 1, 1) := by decide +kernel
theorem dX11_told_1 : decode cX11_told 1 = .ok (.tableswitch 176 0 9 #[55, 69, 83, 97, 111, 122, 133, 148, 163, 171], 55) := by decide +kernel
theorem dX11_told_56 : decode cX11_told 56 = .ok (.aload_n 0, 1) := by decide +kernel
theorem dX11_told_57 : decode cX11_told 57 = .ok (.getfield 19, 3) := by decide +kernel
theorem dX11_told_60 : decode cX11_told 60 = .ok (.getfield 128, 3) := by decide +kernel
theorem dX11_told_63 : decode cX11_told 63 = .ok (.getfield 131, 3) := by decide +kernel
theorem dX11_told_66 : decode cX11_told 66 = .ok (.getfield 135, 3) := by decide +kernel
theorem dX11_told_69 : decode cX11_told 69 = .ok (.ireturn, 1) := by decide +kernel
theorem dX11_told_70 : decode cX11_told 70 = .ok (.aload_n 0, 1) := by decide +kernel
theorem dX11_told_71 : decode cX11_told 71 = .ok (.getfield 19, 3) := by decide +kernel
theorem dX11_told_74 : decode cX11_told 74 = .ok (.getfield 128, 3) := by decide +kernel
theorem dX11_told_77 : decode cX11_told 77 = .ok (.getfield 191, 3) := by decide +kernel
theorem dX11_told_80 : decode cX11_told 80 = .ok (.getfield 135, 3) := by decide +kernel
theorem dX11_told_83 : decode cX11_told 83 = .ok (.ireturn, 1) := by decide +kernel
theorem dX11_told_84 : decode cX11_told 84 = .ok (.aload_n 0, 1) := by decide +kernel
theorem dX11_told_85 : decode cX11_told 85 = .ok (.getfield 19, 3) := by decide +kernel
theorem dX11_told_88 : decode cX11_told 88 = .ok (.getfield 128, 3) := by decide +kernel
theorem dX11_told_91 : decode cX11_told 91 = .ok (.getfield 194, 3) := by decide +kernel
theorem dX11_told_94 : decode cX11_told 94 = .ok (.getfield 135, 3) := by decide +kernel
theorem dX11_told_97 : decode cX11_told 97 = .ok (.ireturn, 1) := by decide +kernel
theorem dX11_told_98 : decode cX11_told 98 = .ok (.aload_n 0, 1) := by decide +kernel
theorem dX11_told_99 : decode cX11_told 99 = .ok (.getfield 19, 3) := by decide +kernel
theorem dX11_told_102 : decode cX11_told 102 = .ok (.getfield 128, 3) := by decide +kernel
theorem dX11_told_105 : decode cX11_told 105 = .ok (.getfield 197, 3) := by decide +kernel
theorem dX11_told_108 : decode cX11_told 108 = .ok (.getfield 135, 3) := by decide +kernel
theorem dX11_told_111 : decode cX11_told 111 = .ok (.ireturn, 1) := by decide +kernel
theorem dX11_told_112 : decode cX11_told 112 = .ok (.aload_n 0, 1) := by decide +kernel
theorem dX11_told_113 : decode cX11_told 113 = .ok (.getfield 19, 3) := by decide +kernel
theorem dX11_told_116 : decode cX11_told 116 = .ok (.getfield 158, 3) := by decide +kernel
theorem dX11_told_119 : decode cX11_told 119 = .ok (.getfield 200, 3) := by decide +kernel
theorem dX11_told_122 : decode cX11_told 122 = .ok (.ireturn, 1) := by decide +kernel
theorem dX11_told_123 : decode cX11_told 123 = .ok (.aload_n 0, 1) := by decide +kernel
theorem dX11_told_124 : decode cX11_told 124 = .ok (.getfield 19, 3) := by decide +kernel
theorem dX11_told_127 : decode cX11_told 127 = .ok (.getfield 158, 3) := by decide +kernel
theorem dX11_told_130 : decode cX11_told 130 = .ok (.getfield 205, 3) := by decide +kernel
theorem dX11_told_133 : decode cX11_told 133 = .ok (.ireturn, 1) := by decide +kernel
theorem dX11_told_134 : decode cX11_told 134 = .ok (.aload_n 0, 1) := by decide +kernel
theorem dX11_told_135 : decode cX11_told 135 = .ok (.getfield 19, 3) := by decide +kernel
theorem dX11_told_138 : decode cX11_told 138 = .ok (.getfield 158, 3) := by decide +kernel
theorem dX11_told_141 : decode cX11_told 141 = .ok (.getfield 208, 3) := by decide +kernel
theorem dX11_told_144 : decode cX11_told 144 = .ok (.iconst 0, 1) := by decide +kernel
theorem dX11_told_145 : decode cX11_told 145 = .ok (.invokevirtual 211, 3) := by decide +kernel
theorem dX11_told_148 : decode cX11_told 148 = .ok (.ireturn, 1) := by decide +kernel
theorem dX11_told_149 : decode cX11_told 149 = .ok (.aload_n 0, 1) := by decide +kernel
theorem dX11_told_150 : decode cX11_told 150 = .ok (.getfield 19, 3) := by decide +kernel
theorem dX11_told_153 : decode cX11_told 153 = .ok (.getfield 158, 3) := by decide +kernel
theorem dX11_told_156 : decode cX11_told 156 = .ok (.getfield 208, 3) := by decide +kernel
theorem dX11_told_159 : decode cX11_told 159 = .ok (.iconst 1, 1) := by decide +kernel
theorem dX11_told_160 : decode cX11_told 160 = .ok (.invokevirtual 211, 3) := by decide +kernel
theorem dX11_told_163 : decode cX11_told 163 = .ok (.ireturn, 1) := by decide +kernel
theorem dX11_told_164 : decode cX11_told 164 = .ok (.aload_n 0, 1) := by decide +kernel
theorem dX11_told_165 : decode cX11_told 165 = .ok (.getfield 63, 3) := by decide +kernel
theorem dX11_told_168 : decode cX11_told 168 = .ok (.getfield 185, 3) := by decide +kernel
theorem dX11_told_171 : decode cX11_told 171 = .ok (.ireturn, 1) := by decide +kernel
theorem dX11_told_172 : decode cX11_told 172 = .ok (.aload_n 0, 1) := by decide +kernel
theorem dX11_told_173 : decode cX11_told 173 = .ok (.getfield 125, 3) := by decide +kernel
theorem dX11_told_176 : decode cX11_told 176 = .ok (.ireturn, 1) := by decide +kernel
theorem dX11_told_177 : decode cX11_told 177 = .ok (.aload_n 0, 1) := by decide +kernel
theorem dX11_told_178 : decode cX11_told 178 = .ok (.iconst 0, 1) := by decide +kernel
theorem dX11_told_179 : decode cX11_told 179 = .ok (.invokevirtual 100, 3) := by decide +kernel
theorem dX11_told_182 : decode cX11_told 182 = .ok (.iconst (-1), 1) := by decide +kernel
theorem dX11_told_183 : decode cX11_told 183 = .ok (.ireturn, 1) := by decide +kernel
theorem dX11_place_0 : decode cX11_place 0 = .ok (.aload_n 0, 1) := by decide +kernel
theorem dX11_place_1 : decode cX11_place 1 = .ok (.iload_n 1, 1) := by decide +kernel
theorem dX11_place_2 : decode cX11_place 2 = .ok (.invokevirtual 215, 3) := by decide +kernel
theorem dX11_place_5 : decode cX11_place 5 = .ok (.iload_n 2, 1) := by decide +kernel
theorem dX11_place_6 : decode cX11_place 6 = .ok (.tableswitch 128 0 5 #[38, 54, 70, 86, 102, 118], 38) := by decide +kernel
theorem dX11_place_44 : decode cX11_place 44 = .ok (.aload_n 0, 1) := by decide +kernel
theorem dX11_place_45 : decode cX11_place 45 = .ok (.getfield 19, 3) := by decide +kernel
theorem dX11_place_48 : decode cX11_place 48 = .ok (.getfield 128, 3) := by decide +kernel
theorem dX11_place_51 : decode cX11_place 51 = .ok (.getfield 131, 3) := by decide +kernel
theorem dX11_place_54 : decode cX11_place 54 = .ok (.iload_n 1, 1) := by decide +kernel
theorem dX11_place_55 : decode cX11_place 55 = .ok (.iconst 0, 1) := by decide +kernel
theorem dX11_place_56 : decode cX11_place 56 = .ok (.invokevirtual 218, 3) := by decide +kernel
theorem dX11_place_59 : decode cX11_place 59 = .ok (.ireturn, 1) := by decide +kernel
theorem dX11_place_60 : decode cX11_place 60 = .ok (.aload_n 0, 1) := by decide +kernel
theorem dX11_place_61 : decode cX11_place 61 = .ok (.getfield 19, 3) := by decide +kernel
theorem dX11_place_64 : decode cX11_place 64 = .ok (.getfield 158, 3) := by decide +kernel
theorem dX11_place_67 : decode cX11_place 67 = .ok (.getfield 208, 3) := by decide +kernel
theorem dX11_place_70 : decode cX11_place 70 = .ok (.iload_n 1, 1) := by decide +kernel
theorem dX11_place_71 : decode cX11_place 71 = .ok (.iconst 0, 1) := by decide +kernel
theorem dX11_place_72 : decode cX11_place 72 = .ok (.invokevirtual 218, 3) := by decide +kernel
theorem dX11_place_75 : decode cX11_place 75 = .ok (.ireturn, 1) := by decide +kernel
theorem dX11_place_76 : decode cX11_place 76 = .ok (.aload_n 0, 1) := by decide +kernel
theorem dX11_place_77 : decode cX11_place 77 = .ok (.getfield 19, 3) := by decide +kernel
theorem dX11_place_80 : decode cX11_place 80 = .ok (.getfield 158, 3) := by decide +kernel
theorem dX11_place_83 : decode cX11_place 83 = .ok (.getfield 208, 3) := by decide +kernel
theorem dX11_place_86 : decode cX11_place 86 = .ok (.iload_n 1, 1) := by decide +kernel
theorem dX11_place_87 : decode cX11_place 87 = .ok (.iconst 1, 1) := by decide +kernel
theorem dX11_place_88 : decode cX11_place 88 = .ok (.invokevirtual 218, 3) := by decide +kernel
theorem dX11_place_91 : decode cX11_place 91 = .ok (.ireturn, 1) := by decide +kernel
theorem dX11_place_92 : decode cX11_place 92 = .ok (.aload_n 0, 1) := by decide +kernel
theorem dX11_place_93 : decode cX11_place 93 = .ok (.getfield 19, 3) := by decide +kernel
theorem dX11_place_96 : decode cX11_place 96 = .ok (.getfield 128, 3) := by decide +kernel
theorem dX11_place_99 : decode cX11_place 99 = .ok (.getfield 131, 3) := by decide +kernel
theorem dX11_place_102 : decode cX11_place 102 = .ok (.iload_n 1, 1) := by decide +kernel
theorem dX11_place_103 : decode cX11_place 103 = .ok (.iconst 3, 1) := by decide +kernel
theorem dX11_place_104 : decode cX11_place 104 = .ok (.invokevirtual 218, 3) := by decide +kernel
theorem dX11_place_107 : decode cX11_place 107 = .ok (.ireturn, 1) := by decide +kernel
theorem dX11_place_108 : decode cX11_place 108 = .ok (.aload_n 0, 1) := by decide +kernel
theorem dX11_place_109 : decode cX11_place 109 = .ok (.getfield 19, 3) := by decide +kernel
theorem dX11_place_112 : decode cX11_place 112 = .ok (.getfield 158, 3) := by decide +kernel
theorem dX11_place_115 : decode cX11_place 115 = .ok (.getfield 208, 3) := by decide +kernel
theorem dX11_place_118 : decode cX11_place 118 = .ok (.iload_n 1, 1) := by decide +kernel
theorem dX11_place_119 : decode cX11_place 119 = .ok (.iconst 2, 1) := by decide +kernel
theorem dX11_place_120 : decode cX11_place 120 = .ok (.invokevirtual 218, 3) := by decide +kernel
theorem dX11_place_123 : decode cX11_place 123 = .ok (.ireturn, 1) := by decide +kernel
theorem dX11_place_124 : decode cX11_place 124 = .ok (.aload_n 0, 1) := by decide +kernel
theorem dX11_place_125 : decode cX11_place 125 = .ok (.getfield 19, 3) := by decide +kernel
theorem dX11_place_128 : decode cX11_place 128 = .ok (.iload_n 1, 1) := by decide +kernel
theorem dX11_place_129 : decode cX11_place 129 = .ok (.iconst 0, 1) := by decide +kernel
theorem dX11_place_130 : decode cX11_place 130 = .ok (.invokevirtual 222, 3) := by decide +kernel
theorem dX11_place_133 : decode cX11_place 133 = .ok (.ireturn, 1) := by decide +kernel
theorem dX11_place_134 : decode cX11_place 134 = .ok (.aload_n 0, 1) := by decide +kernel
theorem dX11_place_135 : decode cX11_place 135 = .ok (.iconst 0, 1) := by decide +kernel
theorem dX11_place_136 : decode cX11_place 136 = .ok (.invokevirtual 100, 3) := by decide +kernel
theorem dX11_place_139 : decode cX11_place 139 = .ok (.iconst (-1), 1) := by decide +kernel
theorem dX11_place_140 : decode cX11_place 140 = .ok (.ireturn, 1) := by decide +kernel
theorem dX11_want_0 : decode cX11_want 0 = .ok (.aload_n 0, 1) := by decide +kernel
theorem dX11_want_1 : decode cX11_want 1 = .ok (.iload_n 1, 1) := by decide +kernel
theorem dX11_want_2 : decode cX11_want 2 = .ok (.invokevirtual 225, 3) := by decide +kernel
theorem dX11_want_5 : decode cX11_want 5 = .ok (.iload_n 2, 1) := by decide +kernel
theorem dX11_want_6 : decode cX11_want 6 = .ok (.tableswitch 134 0 5 #[38, 54, 70, 86, 102, 118], 38) := by decide +kernel
theorem dX11_want_44 : decode cX11_want 44 = .ok (.aload_n 0, 1) := by decide +kernel
theorem dX11_want_45 : decode cX11_want 45 = .ok (.getfield 19, 3) := by decide +kernel
theorem dX11_want_48 : decode cX11_want 48 = .ok (.getfield 128, 3) := by decide +kernel
theorem dX11_want_51 : decode cX11_want 51 = .ok (.getfield 191, 3) := by decide +kernel
theorem dX11_want_54 : decode cX11_want 54 = .ok (.iload_n 1, 1) := by decide +kernel
theorem dX11_want_55 : decode cX11_want 55 = .ok (.iconst 0, 1) := by decide +kernel
theorem dX11_want_56 : decode cX11_want 56 = .ok (.invokevirtual 218, 3) := by decide +kernel
theorem dX11_want_59 : decode cX11_want 59 = .ok (.ireturn, 1) := by decide +kernel
theorem dX11_want_60 : decode cX11_want 60 = .ok (.aload_n 0, 1) := by decide +kernel
theorem dX11_want_61 : decode cX11_want 61 = .ok (.getfield 19, 3) := by decide +kernel
theorem dX11_want_64 : decode cX11_want 64 = .ok (.getfield 128, 3) := by decide +kernel
theorem dX11_want_67 : decode cX11_want 67 = .ok (.getfield 191, 3) := by decide +kernel
theorem dX11_want_70 : decode cX11_want 70 = .ok (.iload_n 1, 1) := by decide +kernel
theorem dX11_want_71 : decode cX11_want 71 = .ok (.iconst 1, 1) := by decide +kernel
theorem dX11_want_72 : decode cX11_want 72 = .ok (.invokevirtual 218, 3) := by decide +kernel
theorem dX11_want_75 : decode cX11_want 75 = .ok (.ireturn, 1) := by decide +kernel
theorem dX11_want_76 : decode cX11_want 76 = .ok (.aload_n 0, 1) := by decide +kernel
theorem dX11_want_77 : decode cX11_want 77 = .ok (.getfield 19, 3) := by decide +kernel
theorem dX11_want_80 : decode cX11_want 80 = .ok (.getfield 128, 3) := by decide +kernel
theorem dX11_want_83 : decode cX11_want 83 = .ok (.getfield 191, 3) := by decide +kernel
theorem dX11_want_86 : decode cX11_want 86 = .ok (.iload_n 1, 1) := by decide +kernel
theorem dX11_want_87 : decode cX11_want 87 = .ok (.iconst 2, 1) := by decide +kernel
theorem dX11_want_88 : decode cX11_want 88 = .ok (.invokevirtual 218, 3) := by decide +kernel
theorem dX11_want_91 : decode cX11_want 91 = .ok (.ireturn, 1) := by decide +kernel
theorem dX11_want_92 : decode cX11_want 92 = .ok (.aload_n 0, 1) := by decide +kernel
theorem dX11_want_93 : decode cX11_want 93 = .ok (.getfield 19, 3) := by decide +kernel
theorem dX11_want_96 : decode cX11_want 96 = .ok (.getfield 128, 3) := by decide +kernel
theorem dX11_want_99 : decode cX11_want 99 = .ok (.getfield 191, 3) := by decide +kernel
theorem dX11_want_102 : decode cX11_want 102 = .ok (.iload_n 1, 1) := by decide +kernel
theorem dX11_want_103 : decode cX11_want 103 = .ok (.iconst 3, 1) := by decide +kernel
theorem dX11_want_104 : decode cX11_want 104 = .ok (.invokevirtual 218, 3) := by decide +kernel
theorem dX11_want_107 : decode cX11_want 107 = .ok (.ireturn, 1) := by decide +kernel
theorem dX11_want_108 : decode cX11_want 108 = .ok (.aload_n 0, 1) := by decide +kernel
theorem dX11_want_109 : decode cX11_want 109 = .ok (.getfield 19, 3) := by decide +kernel
theorem dX11_want_112 : decode cX11_want 112 = .ok (.getfield 158, 3) := by decide +kernel
theorem dX11_want_115 : decode cX11_want 115 = .ok (.getfield 228, 3) := by decide +kernel
theorem dX11_want_118 : decode cX11_want 118 = .ok (.iload_n 1, 1) := by decide +kernel
theorem dX11_want_119 : decode cX11_want 119 = .ok (.iconst 0, 1) := by decide +kernel
theorem dX11_want_120 : decode cX11_want 120 = .ok (.invokevirtual 218, 3) := by decide +kernel
theorem dX11_want_123 : decode cX11_want 123 = .ok (.ireturn, 1) := by decide +kernel
theorem dX11_want_124 : decode cX11_want 124 = .ok (.aload_n 0, 1) := by decide +kernel
theorem dX11_want_125 : decode cX11_want 125 = .ok (.getfield 19, 3) := by decide +kernel
theorem dX11_want_128 : decode cX11_want 128 = .ok (.getfield 158, 3) := by decide +kernel
theorem dX11_want_131 : decode cX11_want 131 = .ok (.getfield 228, 3) := by decide +kernel
theorem dX11_want_134 : decode cX11_want 134 = .ok (.iload_n 1, 1) := by decide +kernel
theorem dX11_want_135 : decode cX11_want 135 = .ok (.iconst 1, 1) := by decide +kernel
theorem dX11_want_136 : decode cX11_want 136 = .ok (.invokevirtual 218, 3) := by decide +kernel
theorem dX11_want_139 : decode cX11_want 139 = .ok (.ireturn, 1) := by decide +kernel
theorem dX11_want_140 : decode cX11_want 140 = .ok (.aload_n 0, 1) := by decide +kernel
theorem dX11_want_141 : decode cX11_want 141 = .ok (.iconst 0, 1) := by decide +kernel
theorem dX11_want_142 : decode cX11_want 142 = .ok (.invokevirtual 100, 3) := by decide +kernel
theorem dX11_want_145 : decode cX11_want 145 = .ok (.iconst (-1), 1) := by decide +kernel
theorem dX11_want_146 : decode cX11_want 146 = .ok (.ireturn, 1) := by decide +kernel
theorem dX11_mine_0 : decode cX11_mine 0 = .ok (.aload_n 0, 1) := by decide +kernel
theorem dX11_mine_1 : decode cX11_mine 1 = .ok (.iload_n 1, 1) := by decide +kernel
theorem dX11_mine_2 : decode cX11_mine 2 = .ok (.invokevirtual 229, 3) := by decide +kernel
theorem dX11_mine_5 : decode cX11_mine 5 = .ok (.iload_n 2, 1) := by decide +kernel
theorem dX11_mine_6 : decode cX11_mine 6 = .ok (.tableswitch 125 0 4 #[34, 50, 66, 82, 109], 34) := by decide +kernel
theorem dX11_mine_40 : decode cX11_mine 40 = .ok (.aload_n 0, 1) := by decide +kernel
theorem dX11_mine_41 : decode cX11_mine 41 = .ok (.getfield 19, 3) := by decide +kernel
theorem dX11_mine_44 : decode cX11_mine 44 = .ok (.getfield 128, 3) := by decide +kernel
theorem dX11_mine_47 : decode cX11_mine 47 = .ok (.getfield 194, 3) := by decide +kernel
theorem dX11_mine_50 : decode cX11_mine 50 = .ok (.iload_n 1, 1) := by decide +kernel
theorem dX11_mine_51 : decode cX11_mine 51 = .ok (.iconst 0, 1) := by decide +kernel
theorem dX11_mine_52 : decode cX11_mine 52 = .ok (.invokevirtual 218, 3) := by decide +kernel
theorem dX11_mine_55 : decode cX11_mine 55 = .ok (.ireturn, 1) := by decide +kernel
theorem dX11_mine_56 : decode cX11_mine 56 = .ok (.aload_n 0, 1) := by decide +kernel
theorem dX11_mine_57 : decode cX11_mine 57 = .ok (.getfield 19, 3) := by decide +kernel
theorem dX11_mine_60 : decode cX11_mine 60 = .ok (.getfield 158, 3) := by decide +kernel
theorem dX11_mine_63 : decode cX11_mine 63 = .ok (.getfield 232, 3) := by decide +kernel
theorem dX11_mine_66 : decode cX11_mine 66 = .ok (.iload_n 1, 1) := by decide +kernel
theorem dX11_mine_67 : decode cX11_mine 67 = .ok (.iconst 0, 1) := by decide +kernel
theorem dX11_mine_68 : decode cX11_mine 68 = .ok (.invokevirtual 218, 3) := by decide +kernel
theorem dX11_mine_71 : decode cX11_mine 71 = .ok (.ireturn, 1) := by decide +kernel
theorem dX11_mine_72 : decode cX11_mine 72 = .ok (.aload_n 0, 1) := by decide +kernel
theorem dX11_mine_73 : decode cX11_mine 73 = .ok (.getfield 19, 3) := by decide +kernel
theorem dX11_mine_76 : decode cX11_mine 76 = .ok (.getfield 128, 3) := by decide +kernel
theorem dX11_mine_79 : decode cX11_mine 79 = .ok (.getfield 194, 3) := by decide +kernel
theorem dX11_mine_82 : decode cX11_mine 82 = .ok (.iload_n 1, 1) := by decide +kernel
theorem dX11_mine_83 : decode cX11_mine 83 = .ok (.iconst 2, 1) := by decide +kernel
theorem dX11_mine_84 : decode cX11_mine 84 = .ok (.invokevirtual 218, 3) := by decide +kernel
theorem dX11_mine_87 : decode cX11_mine 87 = .ok (.ireturn, 1) := by decide +kernel
theorem dX11_mine_88 : decode cX11_mine 88 = .ok (.aload_n 0, 1) := by decide +kernel
theorem dX11_mine_89 : decode cX11_mine 89 = .ok (.getfield 19, 3) := by decide +kernel
theorem dX11_mine_92 : decode cX11_mine 92 = .ok (.iload_n 1, 1) := by decide +kernel
theorem dX11_mine_93 : decode cX11_mine 93 = .ok (.aload_n 0, 1) := by decide +kernel
theorem dX11_mine_94 : decode cX11_mine 94 = .ok (.getfield 19, 3) := by decide +kernel
theorem dX11_mine_97 : decode cX11_mine 97 = .ok (.getfield 158, 3) := by decide +kernel
theorem dX11_mine_100 : decode cX11_mine 100 = .ok (.getfield 200, 3) := by decide +kernel
theorem dX11_mine_103 : decode cX11_mine 103 = .ok (.invokevirtual 235, 3) := by decide +kernel
theorem dX11_mine_106 : decode cX11_mine 106 = .ok (.ifCond .eq 7, 3) := by decide +kernel
theorem dX11_mine_109 : decode cX11_mine 109 = .ok (.iconst 1, 1) := by decide +kernel
theorem dX11_mine_110 : decode cX11_mine 110 = .ok (.goto 4, 3) := by decide +kernel
theorem dX11_mine_113 : decode cX11_mine 113 = .ok (.iconst 0, 1) := by decide +kernel
theorem dX11_mine_114 : decode cX11_mine 114 = .ok (.ireturn, 1) := by decide +kernel
theorem dX11_mine_115 : decode cX11_mine 115 = .ok (.aload_n 0, 1) := by decide +kernel
theorem dX11_mine_116 : decode cX11_mine 116 = .ok (.getfield 19, 3) := by decide +kernel
theorem dX11_mine_119 : decode cX11_mine 119 = .ok (.getfield 158, 3) := by decide +kernel
theorem dX11_mine_122 : decode cX11_mine 122 = .ok (.getfield 232, 3) := by decide +kernel
theorem dX11_mine_125 : decode cX11_mine 125 = .ok (.iload_n 1, 1) := by decide +kernel
theorem dX11_mine_126 : decode cX11_mine 126 = .ok (.iconst 1, 1) := by decide +kernel
theorem dX11_mine_127 : decode cX11_mine 127 = .ok (.invokevirtual 218, 3) := by decide +kernel
theorem dX11_mine_130 : decode cX11_mine 130 = .ok (.ireturn, 1) := by decide +kernel
theorem dX11_mine_131 : decode cX11_mine 131 = .ok (.aload_n 0, 1) := by decide +kernel
theorem dX11_mine_132 : decode cX11_mine 132 = .ok (.iconst 0, 1) := by decide +kernel
theorem dX11_mine_133 : decode cX11_mine 133 = .ok (.invokevirtual 100, 3) := by decide +kernel
theorem dX11_mine_136 : decode cX11_mine 136 = .ok (.iconst (-1), 1) := by decide +kernel
theorem dX11_mine_137 : decode cX11_mine 137 = .ok (.ireturn, 1) := by decide +kernel
theorem dX11_arrives_0 : decode cX11_arrives 0 = .ok (.aload_n 0, 1) := by decide +kernel
theorem dX11_arrives_1 : decode cX11_arrives 1 = .ok (.iload_n 1, 1) := by decide +kernel
theorem dX11_arrives_2 : decode cX11_arrives 2 = .ok (.invokevirtual 215, 3) := by decide +kernel
theorem dX11_arrives_5 : decode cX11_arrives 5 = .ok (.aload_n 0, 1) := by decide +kernel
theorem dX11_arrives_6 : decode cX11_arrives 6 = .ok (.iload_n 2, 1) := by decide +kernel
theorem dX11_arrives_7 : decode cX11_arrives 7 = .ok (.invokevirtual 215, 3) := by decide +kernel
theorem dX11_arrives_10 : decode cX11_arrives 10 = .ok (.aload_n 0, 1) := by decide +kernel
theorem dX11_arrives_11 : decode cX11_arrives 11 = .ok (.iload_n 1, 1) := by decide +kernel
theorem dX11_arrives_12 : decode cX11_arrives 12 = .ok (.iload_n 2, 1) := by decide +kernel
theorem dX11_arrives_13 : decode cX11_arrives 13 = .ok (.if_icmp .eq 28, 3) := by decide +kernel
theorem dX11_arrives_16 : decode cX11_arrives 16 = .ok (.iload_n 3, 1) := by decide +kernel
theorem dX11_arrives_17 : decode cX11_arrives 17 = .ok (.iconst 0, 1) := by decide +kernel
theorem dX11_arrives_18 : decode cX11_arrives 18 = .ok (.sipush 999, 3) := by decide +kernel
theorem dX11_arrives_21 : decode cX11_arrives 21 = .ok (.invokestatic 140, 3) := by decide +kernel
theorem dX11_arrives_24 : decode cX11_arrives 24 = .ok (.ifCond .eq 17, 3) := by decide +kernel
theorem dX11_arrives_27 : decode cX11_arrives 27 = .ok (.iload 4, 2) := by decide +kernel
theorem dX11_arrives_29 : decode cX11_arrives 29 = .ok (.iconst 0, 1) := by decide +kernel
theorem dX11_arrives_30 : decode cX11_arrives 30 = .ok (.iconst 1, 1) := by decide +kernel
theorem dX11_arrives_31 : decode cX11_arrives 31 = .ok (.invokestatic 140, 3) := by decide +kernel
theorem dX11_arrives_34 : decode cX11_arrives 34 = .ok (.ifCond .eq 7, 3) := by decide +kernel
theorem dX11_arrives_37 : decode cX11_arrives 37 = .ok (.iconst 1, 1) := by decide +kernel
theorem dX11_arrives_38 : decode cX11_arrives 38 = .ok (.goto 4, 3) := by decide +kernel
theorem dX11_arrives_41 : decode cX11_arrives 41 = .ok (.iconst 0, 1) := by decide +kernel
theorem dX11_arrives_42 : decode cX11_arrives 42 = .ok (.invokevirtual 100, 3) := by decide +kernel
theorem dX11_arrives_45 : decode cX11_arrives 45 = .ok (.aload_n 0, 1) := by decide +kernel
theorem dX11_arrives_46 : decode cX11_arrives 46 = .ok (.getfield 19, 3) := by decide +kernel
theorem dX11_arrives_49 : decode cX11_arrives 49 = .ok (.iload_n 1, 1) := by decide +kernel
theorem dX11_arrives_50 : decode cX11_arrives 50 = .ok (.iload_n 2, 1) := by decide +kernel
theorem dX11_arrives_51 : decode cX11_arrives 51 = .ok (.iload_n 3, 1) := by decide +kernel
theorem dX11_arrives_52 : decode cX11_arrives 52 = .ok (.iload 4, 2) := by decide +kernel
theorem dX11_arrives_54 : decode cX11_arrives 54 = .ok (.invokevirtual 238, 3) := by decide +kernel
theorem dX11_arrives_57 : decode cX11_arrives 57 = .ok (.ireturn, 1) := by decide +kernel
theorem dX11_digs_0 : decode cX11_digs 0 = .ok (.aload_n 0, 1) := by decide +kernel
theorem dX11_digs_1 : decode cX11_digs 1 = .ok (.iload_n 1, 1) := by decide +kernel
theorem dX11_digs_2 : decode cX11_digs 2 = .ok (.invokevirtual 229, 3) := by decide +kernel
theorem dX11_digs_5 : decode cX11_digs 5 = .ok (.aload_n 0, 1) := by decide +kernel
theorem dX11_digs_6 : decode cX11_digs 6 = .ok (.iload_n 2, 1) := by decide +kernel
theorem dX11_digs_7 : decode cX11_digs 7 = .ok (.iconst 0, 1) := by decide +kernel
theorem dX11_digs_8 : decode cX11_digs 8 = .ok (.bipush 9, 2) := by decide +kernel
theorem dX11_digs_10 : decode cX11_digs 10 = .ok (.invokestatic 140, 3) := by decide +kernel
theorem dX11_digs_13 : decode cX11_digs 13 = .ok (.invokevirtual 100, 3) := by decide +kernel
theorem dX11_digs_16 : decode cX11_digs 16 = .ok (.aload_n 0, 1) := by decide +kernel
theorem dX11_digs_17 : decode cX11_digs 17 = .ok (.getfield 19, 3) := by decide +kernel
theorem dX11_digs_20 : decode cX11_digs 20 = .ok (.iload_n 2, 1) := by decide +kernel
theorem dX11_digs_21 : decode cX11_digs 21 = .ok (.aload_n 0, 1) := by decide +kernel
theorem dX11_digs_22 : decode cX11_digs 22 = .ok (.getfield 19, 3) := by decide +kernel
theorem dX11_digs_25 : decode cX11_digs 25 = .ok (.getfield 158, 3) := by decide +kernel
theorem dX11_digs_28 : decode cX11_digs 28 = .ok (.getfield 232, 3) := by decide +kernel
theorem dX11_digs_31 : decode cX11_digs 31 = .ok (.iload_n 1, 1) := by decide +kernel
theorem dX11_digs_32 : decode cX11_digs 32 = .ok (.iconst 0, 1) := by decide +kernel
theorem dX11_digs_33 : decode cX11_digs 33 = .ok (.invokevirtual 218, 3) := by decide +kernel
theorem dX11_digs_36 : decode cX11_digs 36 = .ok (.aload_n 0, 1) := by decide +kernel
theorem dX11_digs_37 : decode cX11_digs 37 = .ok (.getfield 19, 3) := by decide +kernel
theorem dX11_digs_40 : decode cX11_digs 40 = .ok (.getfield 158, 3) := by decide +kernel
theorem dX11_digs_43 : decode cX11_digs 43 = .ok (.getfield 200, 3) := by decide +kernel
theorem dX11_digs_46 : decode cX11_digs 46 = .ok (.invokevirtual 242, 3) := by decide +kernel
theorem dX11_digs_49 : decode cX11_digs 49 = .ok (.ireturn, 1) := by decide +kernel
