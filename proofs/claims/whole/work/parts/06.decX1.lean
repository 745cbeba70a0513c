theorem dX1_init_0 : decode cX1_init 0 = .ok (.aload_n 0, 1) := by decide +kernel
theorem dX1_init_1 : decode cX1_init 1 = .ok (.invokespecial 1, 3) := by decide +kernel
theorem dX1_init_4 : decode cX1_init 4 = .ok (.aload_n 0, 1) := by decide +kernel
theorem dX1_init_5 : decode cX1_init 5 = .ok (.bipush 120, 2) := by decide +kernel
theorem dX1_init_7 : decode cX1_init 7 = .ok (.newarray .int, 2) := by decide +kernel
theorem dX1_init_9 : decode cX1_init 9 = .ok (.putfield 7, 3) := by decide +kernel
theorem dX1_init_12 : decode cX1_init 12 = .ok (.aload_n 0, 1) := by decide +kernel
theorem dX1_init_13 : decode cX1_init 13 = .ok (.bipush 120, 2) := by decide +kernel
theorem dX1_init_15 : decode cX1_init 15 = .ok (.newarray .int, 2) := by decide +kernel
theorem dX1_init_17 : decode cX1_init 17 = .ok (.putfield 13, 3) := by decide +kernel
theorem dX1_init_20 : decode cX1_init 20 = .ok (.aload_n 0, 1) := by decide +kernel
theorem dX1_init_21 : decode cX1_init 21 = .ok (.bipush 120, 2) := by decide +kernel
theorem dX1_init_23 : decode cX1_init 23 = .ok (.newarray .long, 2) := by decide +kernel
theorem dX1_init_25 : decode cX1_init 25 = .ok (.putfield 16, 3) := by decide +kernel
theorem dX1_init_28 : decode cX1_init 28 = .ok (.aload_n 0, 1) := by decide +kernel
theorem dX1_init_29 : decode cX1_init 29 = .ok (.bipush 120, 2) := by decide +kernel
theorem dX1_init_31 : decode cX1_init 31 = .ok (.newarray .boolean, 2) := by decide +kernel
theorem dX1_init_33 : decode cX1_init 33 = .ok (.putfield 20, 3) := by decide +kernel
theorem dX1_init_36 : decode cX1_init 36 = .ok (.aload_n 0, 1) := by decide +kernel
theorem dX1_init_37 : decode cX1_init 37 = .ok (.bipush 24, 2) := by decide +kernel
theorem dX1_init_39 : decode cX1_init 39 = .ok (.newarray .int, 2) := by decide +kernel
theorem dX1_init_41 : decode cX1_init 41 = .ok (.putfield 24, 3) := by decide +kernel
theorem dX1_init_44 : decode cX1_init 44 = .ok (.aload_n 0, 1) := by decide +kernel
theorem dX1_init_45 : decode cX1_init 45 = .ok (.sipush 420, 3) := by decide +kernel
theorem dX1_init_48 : decode cX1_init 48 = .ok (.newarray .long, 2) := by decide +kernel
theorem dX1_init_50 : decode cX1_init 50 = .ok (.putfield 27, 3) := by decide +kernel
theorem dX1_init_53 : decode cX1_init 53 = .ok (.return_, 1) := by decide +kernel
theorem dX1_thrown_0 : decode cX1_thrown 0 = .ok (.aload_n 0, 1) := by decide +kernel
theorem dX1_thrown_1 : decode cX1_thrown 1 = .ok (.getfield 30, 3) := by decide +kernel
theorem dX1_thrown_4 : decode cX1_thrown 4 = .ok (.ireturn, 1) := by decide +kernel
theorem dX1_isPoint_0 : decode cX1_isPoint 0 = .ok (.iload_n 0, 1) := by decide +kernel
theorem dX1_isPoint_1 : decode cX1_isPoint 1 = .ok (.ifCond .lt 13, 3) := by decide +kernel
theorem dX1_isPoint_4 : decode cX1_isPoint 4 = .ok (.iload_n 0, 1) := by decide +kernel
theorem dX1_isPoint_5 : decode cX1_isPoint 5 = .ok (.bipush 20, 2) := by decide +kernel
theorem dX1_isPoint_7 : decode cX1_isPoint 7 = .ok (.if_icmp .ge 7, 3) := by decide +kernel
theorem dX1_isPoint_10 : decode cX1_isPoint 10 = .ok (.iconst 1, 1) := by decide +kernel
theorem dX1_isPoint_11 : decode cX1_isPoint 11 = .ok (.goto 4, 3) := by decide +kernel
theorem dX1_isPoint_14 : decode cX1_isPoint 14 = .ok (.iconst 0, 1) := by decide +kernel
theorem dX1_isPoint_15 : decode cX1_isPoint 15 = .ok (.ireturn, 1) := by decide +kernel
theorem dX1_isThere_0 : decode cX1_isThere 0 = .ok (.iload_n 1, 1) := by decide +kernel
theorem dX1_isThere_1 : decode cX1_isThere 1 = .ok (.ifCond .lt 15, 3) := by decide +kernel
theorem dX1_isThere_4 : decode cX1_isThere 4 = .ok (.iload_n 1, 1) := by decide +kernel
theorem dX1_isThere_5 : decode cX1_isThere 5 = .ok (.aload_n 0, 1) := by decide +kernel
theorem dX1_isThere_6 : decode cX1_isThere 6 = .ok (.getfield 34, 3) := by decide +kernel
theorem dX1_isThere_9 : decode cX1_isThere 9 = .ok (.if_icmp .ge 7, 3) := by decide +kernel
theorem dX1_isThere_12 : decode cX1_isThere 12 = .ok (.iconst 1, 1) := by decide +kernel
theorem dX1_isThere_13 : decode cX1_isThere 13 = .ok (.goto 4, 3) := by decide +kernel
theorem dX1_isThere_16 : decode cX1_isThere 16 = .ok (.iconst 0, 1) := by decide +kernel
theorem dX1_isThere_17 : decode cX1_isThere 17 = .ok (.ireturn, 1) := by decide +kernel
theorem dX1_step_0 : decode cX1_step 0 = .ok (.ldc2_w 37, 3) := by decide +kernel
theorem dX1_step_3 : decode cX1_step 3 = .ok (.lstore_n 3, 1) := by decide +kernel
theorem dX1_step_4 : decode cX1_step 4 = .ok (.iconst 0, 1) := by decide +kernel
theorem dX1_step_5 : decode cX1_step 5 = .ok (.istore 5, 2) := by decide +kernel
theorem dX1_step_7 : decode cX1_step 7 = .ok (.iload 5, 2) := by decide +kernel
theorem dX1_step_9 : decode cX1_step 9 = .ok (.aload_n 0, 1) := by decide +kernel
theorem dX1_step_10 : decode cX1_step 10 = .ok (.getfield 34, 3) := by decide +kernel
theorem dX1_step_13 : decode cX1_step 13 = .ok (.if_icmp .ge 65, 3) := by decide +kernel
theorem dX1_step_16 : decode cX1_step 16 = .ok (.aload_n 0, 1) := by decide +kernel
theorem dX1_step_17 : decode cX1_step 17 = .ok (.getfield 20, 3) := by decide +kernel
theorem dX1_step_20 : decode cX1_step 20 = .ok (.iload 5, 2) := by decide +kernel
theorem dX1_step_22 : decode cX1_step 22 = .ok (.baload, 1) := by decide +kernel
theorem dX1_step_23 : decode cX1_step 23 = .ok (.ifCond .eq 47, 3) := by decide +kernel
theorem dX1_step_26 : decode cX1_step 26 = .ok (.aload_n 0, 1) := by decide +kernel
theorem dX1_step_27 : decode cX1_step 27 = .ok (.getfield 7, 3) := by decide +kernel
theorem dX1_step_30 : decode cX1_step 30 = .ok (.iload 5, 2) := by decide +kernel
theorem dX1_step_32 : decode cX1_step 32 = .ok (.iaload, 1) := by decide +kernel
theorem dX1_step_33 : decode cX1_step 33 = .ok (.iload_n 1, 1) := by decide +kernel
theorem dX1_step_34 : decode cX1_step 34 = .ok (.if_icmp .ne 36, 3) := by decide +kernel
theorem dX1_step_37 : decode cX1_step 37 = .ok (.aload_n 0, 1) := by decide +kernel
theorem dX1_step_38 : decode cX1_step 38 = .ok (.getfield 13, 3) := by decide +kernel
theorem dX1_step_41 : decode cX1_step 41 = .ok (.iload 5, 2) := by decide +kernel
theorem dX1_step_43 : decode cX1_step 43 = .ok (.iaload, 1) := by decide +kernel
theorem dX1_step_44 : decode cX1_step 44 = .ok (.iload_n 2, 1) := by decide +kernel
theorem dX1_step_45 : decode cX1_step 45 = .ok (.if_icmp .ne 25, 3) := by decide +kernel
theorem dX1_step_48 : decode cX1_step 48 = .ok (.aload_n 0, 1) := by decide +kernel
theorem dX1_step_49 : decode cX1_step 49 = .ok (.getfield 16, 3) := by decide +kernel
theorem dX1_step_52 : decode cX1_step 52 = .ok (.iload 5, 2) := by decide +kernel
theorem dX1_step_54 : decode cX1_step 54 = .ok (.laload, 1) := by decide +kernel
theorem dX1_step_55 : decode cX1_step 55 = .ok (.lload_n 3, 1) := by decide +kernel
theorem dX1_step_56 : decode cX1_step 56 = .ok (.lcmp, 1) := by decide +kernel
theorem dX1_step_57 : decode cX1_step 57 = .ok (.ifCond .ge 13, 3) := by decide +kernel
theorem dX1_step_60 : decode cX1_step 60 = .ok (.aload_n 0, 1) := by decide +kernel
theorem dX1_step_61 : decode cX1_step 61 = .ok (.getfield 16, 3) := by decide +kernel
theorem dX1_step_64 : decode cX1_step 64 = .ok (.iload 5, 2) := by decide +kernel
theorem dX1_step_66 : decode cX1_step 66 = .ok (.laload, 1) := by decide +kernel
theorem dX1_step_67 : decode cX1_step 67 = .ok (.goto 4, 3) := by decide +kernel
theorem dX1_step_70 : decode cX1_step 70 = .ok (.lload_n 3, 1) := by decide +kernel
theorem dX1_step_71 : decode cX1_step 71 = .ok (.lstore_n 3, 1) := by decide +kernel
theorem dX1_step_72 : decode cX1_step 72 = .ok (.iinc 5 1, 3) := by decide +kernel
theorem dX1_step_75 : decode cX1_step 75 = .ok (.goto (-68), 3) := by decide +kernel
theorem dX1_step_78 : decode cX1_step 78 = .ok (.lload_n 3, 1) := by decide +kernel
theorem dX1_step_79 : decode cX1_step 79 = .ok (.lreturn, 1) := by decide +kernel
theorem dX1_best_0 : decode cX1_best 0 = .ok (.iconst 0, 1) := by decide +kernel
theorem dX1_best_1 : decode cX1_best 1 = .ok (.istore_n 3, 1) := by decide +kernel
theorem dX1_best_2 : decode cX1_best 2 = .ok (.iload_n 3, 1) := by decide +kernel
theorem dX1_best_3 : decode cX1_best 3 = .ok (.bipush 20, 2) := by decide +kernel
theorem dX1_best_5 : decode cX1_best 5 = .ok (.if_icmp .ge 27, 3) := by decide +kernel
theorem dX1_best_8 : decode cX1_best 8 = .ok (.aload_n 0, 1) := by decide +kernel
theorem dX1_best_9 : decode cX1_best 9 = .ok (.getfield 27, 3) := by decide +kernel
theorem dX1_best_12 : decode cX1_best 12 = .ok (.iload_n 3, 1) := by decide +kernel
theorem dX1_best_13 : decode cX1_best 13 = .ok (.iload_n 3, 1) := by decide +kernel
theorem dX1_best_14 : decode cX1_best 14 = .ok (.iload_n 2, 1) := by decide +kernel
theorem dX1_best_15 : decode cX1_best 15 = .ok (.if_icmp .ne 7, 3) := by decide +kernel
theorem dX1_best_18 : decode cX1_best 18 = .ok (.lconst 0, 1) := by decide +kernel
theorem dX1_best_19 : decode cX1_best 19 = .ok (.goto 6, 3) := by decide +kernel
theorem dX1_best_22 : decode cX1_best 22 = .ok (.ldc2_w 37, 3) := by decide +kernel
theorem dX1_best_25 : decode cX1_best 25 = .ok (.lastore, 1) := by decide +kernel
theorem dX1_best_26 : decode cX1_best 26 = .ok (.iinc 3 1, 3) := by decide +kernel
theorem dX1_best_29 : decode cX1_best 29 = .ok (.goto (-27), 3) := by decide +kernel
theorem dX1_best_32 : decode cX1_best 32 = .ok (.iconst 1, 1) := by decide +kernel
theorem dX1_best_33 : decode cX1_best 33 = .ok (.istore_n 3, 1) := by decide +kernel
theorem dX1_best_34 : decode cX1_best 34 = .ok (.iload_n 3, 1) := by decide +kernel
theorem dX1_best_35 : decode cX1_best 35 = .ok (.bipush 20, 2) := by decide +kernel
theorem dX1_best_37 : decode cX1_best 37 = .ok (.if_icmp .gt 160, 3) := by decide +kernel
theorem dX1_best_40 : decode cX1_best 40 = .ok (.iconst 0, 1) := by decide +kernel
theorem dX1_best_41 : decode cX1_best 41 = .ok (.istore 4, 2) := by decide +kernel
theorem dX1_best_43 : decode cX1_best 43 = .ok (.iload 4, 2) := by decide +kernel
theorem dX1_best_45 : decode cX1_best 45 = .ok (.bipush 20, 2) := by decide +kernel
theorem dX1_best_47 : decode cX1_best 47 = .ok (.if_icmp .ge 24, 3) := by decide +kernel
theorem dX1_best_50 : decode cX1_best 50 = .ok (.aload_n 0, 1) := by decide +kernel
theorem dX1_best_51 : decode cX1_best 51 = .ok (.getfield 27, 3) := by decide +kernel
theorem dX1_best_54 : decode cX1_best 54 = .ok (.bipush 20, 2) := by decide +kernel
theorem dX1_best_56 : decode cX1_best 56 = .ok (.iload_n 3, 1) := by decide +kernel
theorem dX1_best_57 : decode cX1_best 57 = .ok (.imul, 1) := by decide +kernel
theorem dX1_best_58 : decode cX1_best 58 = .ok (.iload 4, 2) := by decide +kernel
theorem dX1_best_60 : decode cX1_best 60 = .ok (.iadd, 1) := by decide +kernel
theorem dX1_best_61 : decode cX1_best 61 = .ok (.ldc2_w 37, 3) := by decide +kernel
theorem dX1_best_64 : decode cX1_best 64 = .ok (.lastore, 1) := by decide +kernel
theorem dX1_best_65 : decode cX1_best 65 = .ok (.iinc 4 1, 3) := by decide +kernel
theorem dX1_best_68 : decode cX1_best 68 = .ok (.goto (-25), 3) := by decide +kernel
theorem dX1_best_71 : decode cX1_best 71 = .ok (.iconst 0, 1) := by decide +kernel
theorem dX1_best_72 : decode cX1_best 72 = .ok (.istore 4, 2) := by decide +kernel
theorem dX1_best_74 : decode cX1_best 74 = .ok (.iload 4, 2) := by decide +kernel
theorem dX1_best_76 : decode cX1_best 76 = .ok (.aload_n 0, 1) := by decide +kernel
theorem dX1_best_77 : decode cX1_best 77 = .ok (.getfield 34, 3) := by decide +kernel
theorem dX1_best_80 : decode cX1_best 80 = .ok (.if_icmp .ge 111, 3) := by decide +kernel
theorem dX1_best_83 : decode cX1_best 83 = .ok (.bipush 20, 2) := by decide +kernel
theorem dX1_best_85 : decode cX1_best 85 = .ok (.iload_n 3, 1) := by decide +kernel
theorem dX1_best_86 : decode cX1_best 86 = .ok (.iconst 1, 1) := by decide +kernel
theorem dX1_best_87 : decode cX1_best 87 = .ok (.isub, 1) := by decide +kernel
theorem dX1_best_88 : decode cX1_best 88 = .ok (.imul, 1) := by decide +kernel
theorem dX1_best_89 : decode cX1_best 89 = .ok (.aload_n 0, 1) := by decide +kernel
theorem dX1_best_90 : decode cX1_best 90 = .ok (.getfield 13, 3) := by decide +kernel
theorem dX1_best_93 : decode cX1_best 93 = .ok (.iload 4, 2) := by decide +kernel
theorem dX1_best_95 : decode cX1_best 95 = .ok (.iaload, 1) := by decide +kernel
theorem dX1_best_96 : decode cX1_best 96 = .ok (.iadd, 1) := by decide +kernel
theorem dX1_best_97 : decode cX1_best 97 = .ok (.istore 5, 2) := by decide +kernel
theorem dX1_best_99 : decode cX1_best 99 = .ok (.bipush 20, 2) := by decide +kernel
theorem dX1_best_101 : decode cX1_best 101 = .ok (.iload_n 3, 1) := by decide +kernel
theorem dX1_best_102 : decode cX1_best 102 = .ok (.imul, 1) := by decide +kernel
theorem dX1_best_103 : decode cX1_best 103 = .ok (.aload_n 0, 1) := by decide +kernel
theorem dX1_best_104 : decode cX1_best 104 = .ok (.getfield 7, 3) := by decide +kernel
theorem dX1_best_107 : decode cX1_best 107 = .ok (.iload 4, 2) := by decide +kernel
theorem dX1_best_109 : decode cX1_best 109 = .ok (.iaload, 1) := by decide +kernel
theorem dX1_best_110 : decode cX1_best 110 = .ok (.iadd, 1) := by decide +kernel
theorem dX1_best_111 : decode cX1_best 111 = .ok (.istore 6, 2) := by decide +kernel
theorem dX1_best_113 : decode cX1_best 113 = .ok (.aload_n 0, 1) := by decide +kernel
theorem dX1_best_114 : decode cX1_best 114 = .ok (.getfield 20, 3) := by decide +kernel
theorem dX1_best_117 : decode cX1_best 117 = .ok (.iload 4, 2) := by decide +kernel
theorem dX1_best_119 : decode cX1_best 119 = .ok (.baload, 1) := by decide +kernel
theorem dX1_best_120 : decode cX1_best 120 = .ok (.ifCond .eq 65, 3) := by decide +kernel
theorem dX1_best_123 : decode cX1_best 123 = .ok (.aload_n 0, 1) := by decide +kernel
theorem dX1_best_124 : decode cX1_best 124 = .ok (.getfield 27, 3) := by decide +kernel
theorem dX1_best_127 : decode cX1_best 127 = .ok (.iload 5, 2) := by decide +kernel
theorem dX1_best_129 : decode cX1_best 129 = .ok (.laload, 1) := by decide +kernel
theorem dX1_best_130 : decode cX1_best 130 = .ok (.ldc2_w 37, 3) := by decide +kernel
theorem dX1_best_133 : decode cX1_best 133 = .ok (.lcmp, 1) := by decide +kernel
theorem dX1_best_134 : decode cX1_best 134 = .ok (.ifCond .eq 51, 3) := by decide +kernel
theorem dX1_best_137 : decode cX1_best 137 = .ok (.aload_n 0, 1) := by decide +kernel
theorem dX1_best_138 : decode cX1_best 138 = .ok (.getfield 16, 3) := by decide +kernel
theorem dX1_best_141 : decode cX1_best 141 = .ok (.iload 4, 2) := by decide +kernel
theorem dX1_best_143 : decode cX1_best 143 = .ok (.laload, 1) := by decide +kernel
theorem dX1_best_144 : decode cX1_best 144 = .ok (.aload_n 0, 1) := by decide +kernel
theorem dX1_best_145 : decode cX1_best 145 = .ok (.getfield 27, 3) := by decide +kernel
theorem dX1_best_148 : decode cX1_best 148 = .ok (.iload 5, 2) := by decide +kernel
theorem dX1_best_150 : decode cX1_best 150 = .ok (.laload, 1) := by decide +kernel
theorem dX1_best_151 : decode cX1_best 151 = .ok (.ladd, 1) := by decide +kernel
theorem dX1_best_152 : decode cX1_best 152 = .ok (.aload_n 0, 1) := by decide +kernel
theorem dX1_best_153 : decode cX1_best 153 = .ok (.getfield 27, 3) := by decide +kernel
theorem dX1_best_156 : decode cX1_best 156 = .ok (.iload 6, 2) := by decide +kernel
theorem dX1_best_158 : decode cX1_best 158 = .ok (.laload, 1) := by decide +kernel
theorem dX1_best_159 : decode cX1_best 159 = .ok (.lcmp, 1) := by decide +kernel
theorem dX1_best_160 : decode cX1_best 160 = .ok (.ifCond .ge 25, 3) := by decide +kernel
theorem dX1_best_163 : decode cX1_best 163 = .ok (.aload_n 0, 1) := by decide +kernel
theorem dX1_best_164 : decode cX1_best 164 = .ok (.getfield 27, 3) := by decide +kernel
theorem dX1_best_167 : decode cX1_best 167 = .ok (.iload 6, 2) := by decide +kernel
theorem dX1_best_169 : decode cX1_best 169 = .ok (.aload_n 0, 1) := by decide +kernel
theorem dX1_best_170 : decode cX1_best 170 = .ok (.getfield 16, 3) := by decide +kernel
theorem dX1_best_173 : decode cX1_best 173 = .ok (.iload 4, 2) := by decide +kernel
theorem dX1_best_175 : decode cX1_best 175 = .ok (.laload, 1) := by decide +kernel
theorem dX1_best_176 : decode cX1_best 176 = .ok (.aload_n 0, 1) := by decide +kernel
theorem dX1_best_177 : decode cX1_best 177 = .ok (.getfield 27, 3) := by decide +kernel
theorem dX1_best_180 : decode cX1_best 180 = .ok (.iload 5, 2) := by decide +kernel
theorem dX1_best_182 : decode cX1_best 182 = .ok (.laload, 1) := by decide +kernel
theorem dX1_best_183 : decode cX1_best 183 = .ok (.ladd, 1) := by decide +kernel
theorem dX1_best_184 : decode cX1_best 184 = .ok (.lastore, 1) := by decide +kernel
theorem dX1_best_185 : decode cX1_best 185 = .ok (.iinc 4 1, 3) := by decide +kernel
theorem dX1_best_188 : decode cX1_best 188 = .ok (.goto (-114), 3) := by decide +kernel
theorem dX1_best_191 : decode cX1_best 191 = .ok (.iinc 3 1, 3) := by decide +kernel
theorem dX1_best_194 : decode cX1_best 194 = .ok (.goto (-160), 3) := by decide +kernel
theorem dX1_best_197 : decode cX1_best 197 = .ok (.aload_n 0, 1) := by decide +kernel
theorem dX1_best_198 : decode cX1_best 198 = .ok (.iconst (-1), 1) := by decide +kernel
theorem dX1_best_199 : decode cX1_best 199 = .ok (.putfield 39, 3) := by decide +kernel
theorem dX1_best_202 : decode cX1_best 202 = .ok (.aload_n 0, 1) := by decide +kernel
theorem dX1_best_203 : decode cX1_best 203 = .ok (.ldc2_w 37, 3) := by decide +kernel
theorem dX1_best_206 : decode cX1_best 206 = .ok (.putfield 42, 3) := by decide +kernel
theorem dX1_best_209 : decode cX1_best 209 = .ok (.iconst 0, 1) := by decide +kernel
theorem dX1_best_210 : decode cX1_best 210 = .ok (.istore_n 3, 1) := by decide +kernel
theorem dX1_best_211 : decode cX1_best 211 = .ok (.iload_n 3, 1) := by decide +kernel
theorem dX1_best_212 : decode cX1_best 212 = .ok (.bipush 20, 2) := by decide +kernel
theorem dX1_best_214 : decode cX1_best 214 = .ok (.if_icmp .gt 48, 3) := by decide +kernel
theorem dX1_best_217 : decode cX1_best 217 = .ok (.aload_n 0, 1) := by decide +kernel
theorem dX1_best_218 : decode cX1_best 218 = .ok (.getfield 27, 3) := by decide +kernel
theorem dX1_best_221 : decode cX1_best 221 = .ok (.bipush 20, 2) := by decide +kernel
theorem dX1_best_223 : decode cX1_best 223 = .ok (.iload_n 3, 1) := by decide +kernel
theorem dX1_best_224 : decode cX1_best 224 = .ok (.imul, 1) := by decide +kernel
theorem dX1_best_225 : decode cX1_best 225 = .ok (.iload_n 1, 1) := by decide +kernel
theorem dX1_best_226 : decode cX1_best 226 = .ok (.iadd, 1) := by decide +kernel
theorem dX1_best_227 : decode cX1_best 227 = .ok (.laload, 1) := by decide +kernel
theorem dX1_best_228 : decode cX1_best 228 = .ok (.aload_n 0, 1) := by decide +kernel
theorem dX1_best_229 : decode cX1_best 229 = .ok (.getfield 42, 3) := by decide +kernel
theorem dX1_best_232 : decode cX1_best 232 = .ok (.lcmp, 1) := by decide +kernel
theorem dX1_best_233 : decode cX1_best 233 = .ok (.ifCond .ge 23, 3) := by decide +kernel
theorem dX1_best_236 : decode cX1_best 236 = .ok (.aload_n 0, 1) := by decide +kernel
theorem dX1_best_237 : decode cX1_best 237 = .ok (.aload_n 0, 1) := by decide +kernel
theorem dX1_best_238 : decode cX1_best 238 = .ok (.getfield 27, 3) := by decide +kernel
theorem dX1_best_241 : decode cX1_best 241 = .ok (.bipush 20, 2) := by decide +kernel
theorem dX1_best_243 : decode cX1_best 243 = .ok (.iload_n 3, 1) := by decide +kernel
theorem dX1_best_244 : decode cX1_best 244 = .ok (.imul, 1) := by decide +kernel
theorem dX1_best_245 : decode cX1_best 245 = .ok (.iload_n 1, 1) := by decide +kernel
theorem dX1_best_246 : decode cX1_best 246 = .ok (.iadd, 1) := by decide +kernel
theorem dX1_best_247 : decode cX1_best 247 = .ok (.laload, 1) := by decide +kernel
theorem dX1_best_248 : decode cX1_best 248 = .ok (.putfield 42, 3) := by decide +kernel
theorem dX1_best_251 : decode cX1_best 251 = .ok (.aload_n 0, 1) := by decide +kernel
theorem dX1_best_252 : decode cX1_best 252 = .ok (.iload_n 3, 1) := by decide +kernel
theorem dX1_best_253 : decode cX1_best 253 = .ok (.putfield 39, 3) := by decide +kernel
theorem dX1_best_256 : decode cX1_best 256 = .ok (.iinc 3 1, 3) := by decide +kernel
theorem dX1_best_259 : decode cX1_best 259 = .ok (.goto (-48), 3) := by decide +kernel
theorem dX1_best_262 : decode cX1_best 262 = .ok (.aload_n 0, 1) := by decide +kernel
theorem dX1_best_263 : decode cX1_best 263 = .ok (.getfield 39, 3) := by decide +kernel
theorem dX1_best_266 : decode cX1_best 266 = .ok (.ifCond .lt 7, 3) := by decide +kernel
theorem dX1_best_269 : decode cX1_best 269 = .ok (.iconst 1, 1) := by decide +kernel
theorem dX1_best_270 : decode cX1_best 270 = .ok (.goto 4, 3) := by decide +kernel
theorem dX1_best_273 : decode cX1_best 273 = .ok (.iconst 0, 1) := by decide +kernel
theorem dX1_best_274 : decode cX1_best 274 = .ok (.ireturn, 1) := by decide +kernel
theorem dX1_walk_0 : decode cX1_walk 0 = .ok (.iload_n 1, 1) := by decide +kernel
theorem dX1_walk_1 : decode cX1_walk 1 = .ok (.istore_n 2, 1) := by decide +kernel
theorem dX1_walk_2 : decode cX1_walk 2 = .ok (.aload_n 0, 1) := by decide +kernel
theorem dX1_walk_3 : decode cX1_walk 3 = .ok (.getfield 39, 3) := by decide +kernel
theorem dX1_walk_6 : decode cX1_walk 6 = .ok (.istore_n 3, 1) := by decide +kernel
theorem dX1_walk_7 : decode cX1_walk 7 = .ok (.iload_n 3, 1) := by decide +kernel
theorem dX1_walk_8 : decode cX1_walk 8 = .ok (.ifCond .le 114, 3) := by decide +kernel
theorem dX1_walk_11 : decode cX1_walk 11 = .ok (.iconst 0, 1) := by decide +kernel
theorem dX1_walk_12 : decode cX1_walk 12 = .ok (.istore 4, 2) := by decide +kernel
theorem dX1_walk_14 : decode cX1_walk 14 = .ok (.aload_n 0, 1) := by decide +kernel
theorem dX1_walk_15 : decode cX1_walk 15 = .ok (.iload_n 2, 1) := by decide +kernel
theorem dX1_walk_16 : decode cX1_walk 16 = .ok (.iload 4, 2) := by decide +kernel
theorem dX1_walk_18 : decode cX1_walk 18 = .ok (.invokevirtual 46, 3) := by decide +kernel
theorem dX1_walk_21 : decode cX1_walk 21 = .ok (.ldc2_w 37, 3) := by decide +kernel
theorem dX1_walk_24 : decode cX1_walk 24 = .ok (.lcmp, 1) := by decide +kernel
theorem dX1_walk_25 : decode cX1_walk 25 = .ok (.ifCond .eq 61, 3) := by decide +kernel
theorem dX1_walk_28 : decode cX1_walk 28 = .ok (.aload_n 0, 1) := by decide +kernel
theorem dX1_walk_29 : decode cX1_walk 29 = .ok (.getfield 27, 3) := by decide +kernel
theorem dX1_walk_32 : decode cX1_walk 32 = .ok (.bipush 20, 2) := by decide +kernel
theorem dX1_walk_34 : decode cX1_walk 34 = .ok (.iload_n 3, 1) := by decide +kernel
theorem dX1_walk_35 : decode cX1_walk 35 = .ok (.iconst 1, 1) := by decide +kernel
theorem dX1_walk_36 : decode cX1_walk 36 = .ok (.isub, 1) := by decide +kernel
theorem dX1_walk_37 : decode cX1_walk 37 = .ok (.imul, 1) := by decide +kernel
theorem dX1_walk_38 : decode cX1_walk 38 = .ok (.iload 4, 2) := by decide +kernel
theorem dX1_walk_40 : decode cX1_walk 40 = .ok (.iadd, 1) := by decide +kernel
theorem dX1_walk_41 : decode cX1_walk 41 = .ok (.laload, 1) := by decide +kernel
theorem dX1_walk_42 : decode cX1_walk 42 = .ok (.ldc2_w 37, 3) := by decide +kernel
theorem dX1_walk_45 : decode cX1_walk 45 = .ok (.lcmp, 1) := by decide +kernel
theorem dX1_walk_46 : decode cX1_walk 46 = .ok (.ifCond .eq 40, 3) := by decide +kernel
theorem dX1_walk_49 : decode cX1_walk 49 = .ok (.aload_n 0, 1) := by decide +kernel
theorem dX1_walk_50 : decode cX1_walk 50 = .ok (.iload_n 2, 1) := by decide +kernel
theorem dX1_walk_51 : decode cX1_walk 51 = .ok (.iload 4, 2) := by decide +kernel
theorem dX1_walk_53 : decode cX1_walk 53 = .ok (.invokevirtual 46, 3) := by decide +kernel
theorem dX1_walk_56 : decode cX1_walk 56 = .ok (.aload_n 0, 1) := by decide +kernel
theorem dX1_walk_57 : decode cX1_walk 57 = .ok (.getfield 27, 3) := by decide +kernel
theorem dX1_walk_60 : decode cX1_walk 60 = .ok (.bipush 20, 2) := by decide +kernel
theorem dX1_walk_62 : decode cX1_walk 62 = .ok (.iload_n 3, 1) := by decide +kernel
theorem dX1_walk_63 : decode cX1_walk 63 = .ok (.iconst 1, 1) := by decide +kernel
theorem dX1_walk_64 : decode cX1_walk 64 = .ok (.isub, 1) := by decide +kernel
theorem dX1_walk_65 : decode cX1_walk 65 = .ok (.imul, 1) := by decide +kernel
theorem dX1_walk_66 : decode cX1_walk 66 = .ok (.iload 4, 2) := by decide +kernel
theorem dX1_walk_68 : decode cX1_walk 68 = .ok (.iadd, 1) := by decide +kernel
theorem dX1_walk_69 : decode cX1_walk 69 = .ok (.laload, 1) := by decide +kernel
theorem dX1_walk_70 : decode cX1_walk 70 = .ok (.ladd, 1) := by decide +kernel
theorem dX1_walk_71 : decode cX1_walk 71 = .ok (.aload_n 0, 1) := by decide +kernel
theorem dX1_walk_72 : decode cX1_walk 72 = .ok (.getfield 27, 3) := by decide +kernel
theorem dX1_walk_75 : decode cX1_walk 75 = .ok (.bipush 20, 2) := by decide +kernel
theorem dX1_walk_77 : decode cX1_walk 77 = .ok (.iload_n 3, 1) := by decide +kernel
theorem dX1_walk_78 : decode cX1_walk 78 = .ok (.imul, 1) := by decide +kernel
theorem dX1_walk_79 : decode cX1_walk 79 = .ok (.iload_n 2, 1) := by decide +kernel
theorem dX1_walk_80 : decode cX1_walk 80 = .ok (.iadd, 1) := by decide +kernel
theorem dX1_walk_81 : decode cX1_walk 81 = .ok (.laload, 1) := by decide +kernel
theorem dX1_walk_82 : decode cX1_walk 82 = .ok (.lcmp, 1) := by decide +kernel
theorem dX1_walk_83 : decode cX1_walk 83 = .ok (.ifCond .eq 9, 3) := by decide +kernel
theorem dX1_walk_86 : decode cX1_walk 86 = .ok (.iinc 4 1, 3) := by decide +kernel
theorem dX1_walk_89 : decode cX1_walk 89 = .ok (.goto (-75), 3) := by decide +kernel
theorem dX1_walk_92 : decode cX1_walk 92 = .ok (.aload_n 0, 1) := by decide +kernel
theorem dX1_walk_93 : decode cX1_walk 93 = .ok (.getfield 24, 3) := by decide +kernel
theorem dX1_walk_96 : decode cX1_walk 96 = .ok (.aload_n 0, 1) := by decide +kernel
theorem dX1_walk_97 : decode cX1_walk 97 = .ok (.getfield 50, 3) := by decide +kernel
theorem dX1_walk_100 : decode cX1_walk 100 = .ok (.iload 4, 2) := by decide +kernel
theorem dX1_walk_102 : decode cX1_walk 102 = .ok (.iastore, 1) := by decide +kernel
theorem dX1_walk_103 : decode cX1_walk 103 = .ok (.aload_n 0, 1) := by decide +kernel
theorem dX1_walk_104 : decode cX1_walk 104 = .ok (.dup, 1) := by decide +kernel
theorem dX1_walk_105 : decode cX1_walk 105 = .ok (.getfield 50, 3) := by decide +kernel
theorem dX1_walk_108 : decode cX1_walk 108 = .ok (.iconst 1, 1) := by decide +kernel
theorem dX1_walk_109 : decode cX1_walk 109 = .ok (.iadd, 1) := by decide +kernel
theorem dX1_walk_110 : decode cX1_walk 110 = .ok (.putfield 50, 3) := by decide +kernel
theorem dX1_walk_113 : decode cX1_walk 113 = .ok (.iload 4, 2) := by decide +kernel
theorem dX1_walk_115 : decode cX1_walk 115 = .ok (.istore_n 2, 1) := by decide +kernel
theorem dX1_walk_116 : decode cX1_walk 116 = .ok (.iinc 3 (-1), 3) := by decide +kernel
theorem dX1_walk_119 : decode cX1_walk 119 = .ok (.goto (-112), 3) := by decide +kernel
theorem dX1_walk_122 : decode cX1_walk 122 = .ok (.return_, 1) := by decide +kernel
theorem dX1_isBad_0 : decode cX1_isBad 0 = .ok (.aload_n 0, 1) := by decide +kernel
theorem dX1_isBad_1 : decode cX1_isBad 1 = .ok (.iload_n 2, 1) := by decide +kernel
theorem dX1_isBad_2 : decode cX1_isBad 2 = .ok (.iload_n 1, 1) := by decide +kernel
theorem dX1_isBad_3 : decode cX1_isBad 3 = .ok (.invokevirtual 53, 3) := by decide +kernel
theorem dX1_isBad_6 : decode cX1_isBad 6 = .ok (.ifCond .eq 14, 3) := by decide +kernel
theorem dX1_isBad_9 : decode cX1_isBad 9 = .ok (.lload_n 3, 1) := by decide +kernel
theorem dX1_isBad_10 : decode cX1_isBad 10 = .ok (.aload_n 0, 1) := by decide +kernel
theorem dX1_isBad_11 : decode cX1_isBad 11 = .ok (.getfield 42, 3) := by decide +kernel
theorem dX1_isBad_14 : decode cX1_isBad 14 = .ok (.ladd, 1) := by decide +kernel
theorem dX1_isBad_15 : decode cX1_isBad 15 = .ok (.lconst 0, 1) := by decide +kernel
theorem dX1_isBad_16 : decode cX1_isBad 16 = .ok (.lcmp, 1) := by decide +kernel
theorem dX1_isBad_17 : decode cX1_isBad 17 = .ok (.ifCond .lt 5, 3) := by decide +kernel
theorem dX1_isBad_20 : decode cX1_isBad 20 = .ok (.iconst 0, 1) := by decide +kernel
theorem dX1_isBad_21 : decode cX1_isBad 21 = .ok (.ireturn, 1) := by decide +kernel
theorem dX1_isBad_22 : decode cX1_isBad 22 = .ok (.aload_n 0, 1) := by decide +kernel
theorem dX1_isBad_23 : decode cX1_isBad 23 = .ok (.getfield 24, 3) := by decide +kernel
theorem dX1_isBad_26 : decode cX1_isBad 26 = .ok (.iconst 0, 1) := by decide +kernel
theorem dX1_isBad_27 : decode cX1_isBad 27 = .ok (.iload_n 1, 1) := by decide +kernel
theorem dX1_isBad_28 : decode cX1_isBad 28 = .ok (.iastore, 1) := by decide +kernel
theorem dX1_isBad_29 : decode cX1_isBad 29 = .ok (.aload_n 0, 1) := by decide +kernel
theorem dX1_isBad_30 : decode cX1_isBad 30 = .ok (.getfield 24, 3) := by decide +kernel
theorem dX1_isBad_33 : decode cX1_isBad 33 = .ok (.iconst 1, 1) := by decide +kernel
theorem dX1_isBad_34 : decode cX1_isBad 34 = .ok (.iload_n 2, 1) := by decide +kernel
theorem dX1_isBad_35 : decode cX1_isBad 35 = .ok (.iastore, 1) := by decide +kernel
theorem dX1_isBad_36 : decode cX1_isBad 36 = .ok (.aload_n 0, 1) := by decide +kernel
theorem dX1_isBad_37 : decode cX1_isBad 37 = .ok (.iconst 2, 1) := by decide +kernel
theorem dX1_isBad_38 : decode cX1_isBad 38 = .ok (.putfield 50, 3) := by decide +kernel
theorem dX1_isBad_41 : decode cX1_isBad 41 = .ok (.aload_n 0, 1) := by decide +kernel
theorem dX1_isBad_42 : decode cX1_isBad 42 = .ok (.iload_n 2, 1) := by decide +kernel
theorem dX1_isBad_43 : decode cX1_isBad 43 = .ok (.invokevirtual 57, 3) := by decide +kernel
theorem dX1_isBad_46 : decode cX1_isBad 46 = .ok (.aload_n 0, 1) := by decide +kernel
theorem dX1_isBad_47 : decode cX1_isBad 47 = .ok (.lload_n 3, 1) := by decide +kernel
theorem dX1_isBad_48 : decode cX1_isBad 48 = .ok (.aload_n 0, 1) := by decide +kernel
theorem dX1_isBad_49 : decode cX1_isBad 49 = .ok (.getfield 42, 3) := by decide +kernel
theorem dX1_isBad_52 : decode cX1_isBad 52 = .ok (.ladd, 1) := by decide +kernel
theorem dX1_isBad_53 : decode cX1_isBad 53 = .ok (.putfield 61, 3) := by decide +kernel
theorem dX1_isBad_56 : decode cX1_isBad 56 = .ok (.iconst 1, 1) := by decide +kernel
theorem dX1_isBad_57 : decode cX1_isBad 57 = .ok (.ireturn, 1) := by decide +kernel
theorem dX1_add_0 : decode cX1_add 0 = .ok (.aload_n 0, 1) := by decide +kernel
theorem dX1_add_1 : decode cX1_add 1 = .ok (.iconst 0, 1) := by decide +kernel
theorem dX1_add_2 : decode cX1_add 2 = .ok (.putfield 30, 3) := by decide +kernel
theorem dX1_add_5 : decode cX1_add 5 = .ok (.iload_n 1, 1) := by decide +kernel
theorem dX1_add_6 : decode cX1_add 6 = .ok (.invokestatic 64, 3) := by decide +kernel
theorem dX1_add_9 : decode cX1_add 9 = .ok (.ifCond .eq 40, 3) := by decide +kernel
theorem dX1_add_12 : decode cX1_add 12 = .ok (.iload_n 2, 1) := by decide +kernel
theorem dX1_add_13 : decode cX1_add 13 = .ok (.invokestatic 64, 3) := by decide +kernel
theorem dX1_add_16 : decode cX1_add 16 = .ok (.ifCond .eq 33, 3) := by decide +kernel
theorem dX1_add_19 : decode cX1_add 19 = .ok (.iload_n 1, 1) := by decide +kernel
theorem dX1_add_20 : decode cX1_add 20 = .ok (.iload_n 2, 1) := by decide +kernel
theorem dX1_add_21 : decode cX1_add 21 = .ok (.if_icmp .eq 28, 3) := by decide +kernel
theorem dX1_add_24 : decode cX1_add 24 = .ok (.lload_n 3, 1) := by decide +kernel
theorem dX1_add_25 : decode cX1_add 25 = .ok (.ldc2_w 68, 3) := by decide +kernel
theorem dX1_add_28 : decode cX1_add 28 = .ok (.lcmp, 1) := by decide +kernel
theorem dX1_add_29 : decode cX1_add 29 = .ok (.ifCond .lt 20, 3) := by decide +kernel
theorem dX1_add_32 : decode cX1_add 32 = .ok (.lload_n 3, 1) := by decide +kernel
theorem dX1_add_33 : decode cX1_add 33 = .ok (.ldc2_w 70, 3) := by decide +kernel
theorem dX1_add_36 : decode cX1_add 36 = .ok (.lcmp, 1) := by decide +kernel
theorem dX1_add_37 : decode cX1_add 37 = .ok (.ifCond .gt 12, 3) := by decide +kernel
theorem dX1_add_40 : decode cX1_add 40 = .ok (.aload_n 0, 1) := by decide +kernel
theorem dX1_add_41 : decode cX1_add 41 = .ok (.getfield 34, 3) := by decide +kernel
theorem dX1_add_44 : decode cX1_add 44 = .ok (.bipush 120, 2) := by decide +kernel
theorem dX1_add_46 : decode cX1_add 46 = .ok (.if_icmp .ne 5, 3) := by decide +kernel
theorem dX1_add_49 : decode cX1_add 49 = .ok (.iconst (-1), 1) := by decide +kernel
theorem dX1_add_50 : decode cX1_add 50 = .ok (.ireturn, 1) := by decide +kernel
theorem dX1_add_51 : decode cX1_add 51 = .ok (.aload_n 0, 1) := by decide +kernel
theorem dX1_add_52 : decode cX1_add 52 = .ok (.iload_n 1, 1) := by decide +kernel
theorem dX1_add_53 : decode cX1_add 53 = .ok (.iload_n 2, 1) := by decide +kernel
theorem dX1_add_54 : decode cX1_add 54 = .ok (.lload_n 3, 1) := by decide +kernel
theorem dX1_add_55 : decode cX1_add 55 = .ok (.invokevirtual 72, 3) := by decide +kernel
theorem dX1_add_58 : decode cX1_add 58 = .ok (.ifCond .eq 6, 3) := by decide +kernel
theorem dX1_add_61 : decode cX1_add 61 = .ok (.bipush (-2), 2) := by decide +kernel
theorem dX1_add_63 : decode cX1_add 63 = .ok (.ireturn, 1) := by decide +kernel
theorem dX1_add_64 : decode cX1_add 64 = .ok (.aload_n 0, 1) := by decide +kernel
theorem dX1_add_65 : decode cX1_add 65 = .ok (.getfield 7, 3) := by decide +kernel
theorem dX1_add_68 : decode cX1_add 68 = .ok (.aload_n 0, 1) := by decide +kernel
theorem dX1_add_69 : decode cX1_add 69 = .ok (.getfield 34, 3) := by decide +kernel
theorem dX1_add_72 : decode cX1_add 72 = .ok (.iload_n 1, 1) := by decide +kernel
theorem dX1_add_73 : decode cX1_add 73 = .ok (.iastore, 1) := by decide +kernel
theorem dX1_add_74 : decode cX1_add 74 = .ok (.aload_n 0, 1) := by decide +kernel
theorem dX1_add_75 : decode cX1_add 75 = .ok (.getfield 13, 3) := by decide +kernel
theorem dX1_add_78 : decode cX1_add 78 = .ok (.aload_n 0, 1) := by decide +kernel
theorem dX1_add_79 : decode cX1_add 79 = .ok (.getfield 34, 3) := by decide +kernel
theorem dX1_add_82 : decode cX1_add 82 = .ok (.iload_n 2, 1) := by decide +kernel
theorem dX1_add_83 : decode cX1_add 83 = .ok (.iastore, 1) := by decide +kernel
theorem dX1_add_84 : decode cX1_add 84 = .ok (.aload_n 0, 1) := by decide +kernel
theorem dX1_add_85 : decode cX1_add 85 = .ok (.getfield 16, 3) := by decide +kernel
theorem dX1_add_88 : decode cX1_add 88 = .ok (.aload_n 0, 1) := by decide +kernel
theorem dX1_add_89 : decode cX1_add 89 = .ok (.getfield 34, 3) := by decide +kernel
theorem dX1_add_92 : decode cX1_add 92 = .ok (.lload_n 3, 1) := by decide +kernel
theorem dX1_add_93 : decode cX1_add 93 = .ok (.lastore, 1) := by decide +kernel
theorem dX1_add_94 : decode cX1_add 94 = .ok (.aload_n 0, 1) := by decide +kernel
theorem dX1_add_95 : decode cX1_add 95 = .ok (.getfield 20, 3) := by decide +kernel
theorem dX1_add_98 : decode cX1_add 98 = .ok (.aload_n 0, 1) := by decide +kernel
theorem dX1_add_99 : decode cX1_add 99 = .ok (.getfield 34, 3) := by decide +kernel
theorem dX1_add_102 : decode cX1_add 102 = .ok (.iconst 1, 1) := by decide +kernel
theorem dX1_add_103 : decode cX1_add 103 = .ok (.bastore, 1) := by decide +kernel
theorem dX1_add_104 : decode cX1_add 104 = .ok (.aload_n 0, 1) := by decide +kernel
theorem dX1_add_105 : decode cX1_add 105 = .ok (.dup, 1) := by decide +kernel
theorem dX1_add_106 : decode cX1_add 106 = .ok (.getfield 34, 3) := by decide +kernel
theorem dX1_add_109 : decode cX1_add 109 = .ok (.iconst 1, 1) := by decide +kernel
theorem dX1_add_110 : decode cX1_add 110 = .ok (.iadd, 1) := by decide +kernel
theorem dX1_add_111 : decode cX1_add 111 = .ok (.putfield 34, 3) := by decide +kernel
theorem dX1_add_114 : decode cX1_add 114 = .ok (.aload_n 0, 1) := by decide +kernel
theorem dX1_add_115 : decode cX1_add 115 = .ok (.getfield 34, 3) := by decide +kernel
theorem dX1_add_118 : decode cX1_add 118 = .ok (.iconst 1, 1) := by decide +kernel
theorem dX1_add_119 : decode cX1_add 119 = .ok (.isub, 1) := by decide +kernel
theorem dX1_add_120 : decode cX1_add 120 = .ok (.ireturn, 1) := by decide +kernel
theorem dX1_off_0 : decode cX1_off 0 = .ok (.aload_n 0, 1) := by decide +kernel
theorem dX1_off_1 : decode cX1_off 1 = .ok (.iconst 0, 1) := by decide +kernel
theorem dX1_off_2 : decode cX1_off 2 = .ok (.putfield 30, 3) := by decide +kernel
theorem dX1_off_5 : decode cX1_off 5 = .ok (.aload_n 0, 1) := by decide +kernel
theorem dX1_off_6 : decode cX1_off 6 = .ok (.iload_n 1, 1) := by decide +kernel
theorem dX1_off_7 : decode cX1_off 7 = .ok (.invokevirtual 76, 3) := by decide +kernel
theorem dX1_off_10 : decode cX1_off 10 = .ok (.ifCond .eq 12, 3) := by decide +kernel
theorem dX1_off_13 : decode cX1_off 13 = .ok (.aload_n 0, 1) := by decide +kernel
theorem dX1_off_14 : decode cX1_off 14 = .ok (.getfield 20, 3) := by decide +kernel
theorem dX1_off_17 : decode cX1_off 17 = .ok (.iload_n 1, 1) := by decide +kernel
theorem dX1_off_18 : decode cX1_off 18 = .ok (.baload, 1) := by decide +kernel
theorem dX1_off_19 : decode cX1_off 19 = .ok (.ifCond .ne 5, 3) := by decide +kernel
theorem dX1_off_22 : decode cX1_off 22 = .ok (.iconst 0, 1) := by decide +kernel
theorem dX1_off_23 : decode cX1_off 23 = .ok (.ireturn, 1) := by decide +kernel
theorem dX1_off_24 : decode cX1_off 24 = .ok (.aload_n 0, 1) := by decide +kernel
theorem dX1_off_25 : decode cX1_off 25 = .ok (.getfield 20, 3) := by decide +kernel
theorem dX1_off_28 : decode cX1_off 28 = .ok (.iload_n 1, 1) := by decide +kernel
theorem dX1_off_29 : decode cX1_off 29 = .ok (.iconst 0, 1) := by decide +kernel
theorem dX1_off_30 : decode cX1_off 30 = .ok (.bastore, 1) := by decide +kernel
theorem dX1_off_31 : decode cX1_off 31 = .ok (.iconst 1, 1) := by decide +kernel
theorem dX1_off_32 : decode cX1_off 32 = .ok (.ireturn, 1) := by decide +kernel
theorem dX1_on_0 : decode cX1_on 0 = .ok (.aload_n 0, 1) := by decide +kernel
theorem dX1_on_1 : decode cX1_on 1 = .ok (.iconst 0, 1) := by decide +kernel
theorem dX1_on_2 : decode cX1_on 2 = .ok (.putfield 30, 3) := by decide +kernel
theorem dX1_on_5 : decode cX1_on 5 = .ok (.aload_n 0, 1) := by decide +kernel
theorem dX1_on_6 : decode cX1_on 6 = .ok (.iload_n 1, 1) := by decide +kernel
theorem dX1_on_7 : decode cX1_on 7 = .ok (.invokevirtual 76, 3) := by decide +kernel
theorem dX1_on_10 : decode cX1_on 10 = .ok (.ifCond .eq 12, 3) := by decide +kernel
theorem dX1_on_13 : decode cX1_on 13 = .ok (.aload_n 0, 1) := by decide +kernel
theorem dX1_on_14 : decode cX1_on 14 = .ok (.getfield 20, 3) := by decide +kernel
theorem dX1_on_17 : decode cX1_on 17 = .ok (.iload_n 1, 1) := by decide +kernel
theorem dX1_on_18 : decode cX1_on 18 = .ok (.baload, 1) := by decide +kernel
theorem dX1_on_19 : decode cX1_on 19 = .ok (.ifCond .eq 5, 3) := by decide +kernel
theorem dX1_on_22 : decode cX1_on 22 = .ok (.iconst (-1), 1) := by decide +kernel
theorem dX1_on_23 : decode cX1_on 23 = .ok (.ireturn, 1) := by decide +kernel
theorem dX1_on_24 : decode cX1_on 24 = .ok (.aload_n 0, 1) := by decide +kernel
theorem dX1_on_25 : decode cX1_on 25 = .ok (.aload_n 0, 1) := by decide +kernel
theorem dX1_on_26 : decode cX1_on 26 = .ok (.getfield 7, 3) := by decide +kernel
theorem dX1_on_29 : decode cX1_on 29 = .ok (.iload_n 1, 1) := by decide +kernel
theorem dX1_on_30 : decode cX1_on 30 = .ok (.iaload, 1) := by decide +kernel
theorem dX1_on_31 : decode cX1_on 31 = .ok (.aload_n 0, 1) := by decide +kernel
theorem dX1_on_32 : decode cX1_on 32 = .ok (.getfield 13, 3) := by decide +kernel
theorem dX1_on_35 : decode cX1_on 35 = .ok (.iload_n 1, 1) := by decide +kernel
theorem dX1_on_36 : decode cX1_on 36 = .ok (.iaload, 1) := by decide +kernel
theorem dX1_on_37 : decode cX1_on 37 = .ok (.aload_n 0, 1) := by decide +kernel
theorem dX1_on_38 : decode cX1_on 38 = .ok (.getfield 16, 3) := by decide +kernel
theorem dX1_on_41 : decode cX1_on 41 = .ok (.iload_n 1, 1) := by decide +kernel
theorem dX1_on_42 : decode cX1_on 42 = .ok (.laload, 1) := by decide +kernel
theorem dX1_on_43 : decode cX1_on 43 = .ok (.invokevirtual 72, 3) := by decide +kernel
theorem dX1_on_46 : decode cX1_on 46 = .ok (.ifCond .eq 6, 3) := by decide +kernel
theorem dX1_on_49 : decode cX1_on 49 = .ok (.bipush (-2), 2) := by decide +kernel
theorem dX1_on_51 : decode cX1_on 51 = .ok (.ireturn, 1) := by decide +kernel
theorem dX1_on_52 : decode cX1_on 52 = .ok (.aload_n 0, 1) := by decide +kernel
theorem dX1_on_53 : decode cX1_on 53 = .ok (.getfield 20, 3) := by decide +kernel
theorem dX1_on_56 : decode cX1_on 56 = .ok (.iload_n 1, 1) := by decide +kernel
theorem dX1_on_57 : decode cX1_on 57 = .ok (.iconst 1, 1) := by decide +kernel
theorem dX1_on_58 : decode cX1_on 58 = .ok (.bastore, 1) := by decide +kernel
theorem dX1_on_59 : decode cX1_on 59 = .ok (.iload_n 1, 1) := by decide +kernel
theorem dX1_on_60 : decode cX1_on 60 = .ok (.ireturn, 1) := by decide +kernel
theorem dX1_bound_0 : decode cX1_bound 0 = .ok (.aload_n 0, 1) := by decide +kernel
theorem dX1_bound_1 : decode cX1_bound 1 = .ok (.iload_n 1, 1) := by decide +kernel
theorem dX1_bound_2 : decode cX1_bound 2 = .ok (.invokestatic 64, 3) := by decide +kernel
theorem dX1_bound_5 : decode cX1_bound 5 = .ok (.ifCond .eq 14, 3) := by decide +kernel
theorem dX1_bound_8 : decode cX1_bound 8 = .ok (.iload_n 2, 1) := by decide +kernel
theorem dX1_bound_9 : decode cX1_bound 9 = .ok (.invokestatic 64, 3) := by decide +kernel
theorem dX1_bound_12 : decode cX1_bound 12 = .ok (.ifCond .eq 7, 3) := by decide +kernel
theorem dX1_bound_15 : decode cX1_bound 15 = .ok (.iconst 0, 1) := by decide +kernel
theorem dX1_bound_16 : decode cX1_bound 16 = .ok (.goto 4, 3) := by decide +kernel
theorem dX1_bound_19 : decode cX1_bound 19 = .ok (.iconst 1, 1) := by decide +kernel
theorem dX1_bound_20 : decode cX1_bound 20 = .ok (.putfield 30, 3) := by decide +kernel
theorem dX1_bound_23 : decode cX1_bound 23 = .ok (.aload_n 0, 1) := by decide +kernel
theorem dX1_bound_24 : decode cX1_bound 24 = .ok (.getfield 30, 3) := by decide +kernel
theorem dX1_bound_27 : decode cX1_bound 27 = .ok (.ifCond .le 5, 3) := by decide +kernel
theorem dX1_bound_30 : decode cX1_bound 30 = .ok (.lconst 0, 1) := by decide +kernel
theorem dX1_bound_31 : decode cX1_bound 31 = .ok (.lreturn, 1) := by decide +kernel
theorem dX1_bound_32 : decode cX1_bound 32 = .ok (.aload_n 0, 1) := by decide +kernel
theorem dX1_bound_33 : decode cX1_bound 33 = .ok (.iload_n 1, 1) := by decide +kernel
theorem dX1_bound_34 : decode cX1_bound 34 = .ok (.iload_n 2, 1) := by decide +kernel
theorem dX1_bound_35 : decode cX1_bound 35 = .ok (.invokevirtual 53, 3) := by decide +kernel
theorem dX1_bound_38 : decode cX1_bound 38 = .ok (.ifCond .eq 10, 3) := by decide +kernel
theorem dX1_bound_41 : decode cX1_bound 41 = .ok (.aload_n 0, 1) := by decide +kernel
theorem dX1_bound_42 : decode cX1_bound 42 = .ok (.getfield 42, 3) := by decide +kernel
theorem dX1_bound_45 : decode cX1_bound 45 = .ok (.goto 6, 3) := by decide +kernel
theorem dX1_bound_48 : decode cX1_bound 48 = .ok (.ldc2_w 37, 3) := by decide +kernel
theorem dX1_bound_51 : decode cX1_bound 51 = .ok (.lreturn, 1) := by decide +kernel
theorem dX1_steps_0 : decode cX1_steps 0 = .ok (.aload_n 0, 1) := by decide +kernel
theorem dX1_steps_1 : decode cX1_steps 1 = .ok (.iconst 0, 1) := by decide +kernel
theorem dX1_steps_2 : decode cX1_steps 2 = .ok (.putfield 30, 3) := by decide +kernel
theorem dX1_steps_5 : decode cX1_steps 5 = .ok (.iload_n 1, 1) := by decide +kernel
theorem dX1_steps_6 : decode cX1_steps 6 = .ok (.invokestatic 64, 3) := by decide +kernel
theorem dX1_steps_9 : decode cX1_steps 9 = .ok (.ifCond .eq 26, 3) := by decide +kernel
theorem dX1_steps_12 : decode cX1_steps 12 = .ok (.iload_n 2, 1) := by decide +kernel
theorem dX1_steps_13 : decode cX1_steps 13 = .ok (.invokestatic 64, 3) := by decide +kernel
theorem dX1_steps_16 : decode cX1_steps 16 = .ok (.ifCond .eq 19, 3) := by decide +kernel
theorem dX1_steps_19 : decode cX1_steps 19 = .ok (.aload_n 0, 1) := by decide +kernel
theorem dX1_steps_20 : decode cX1_steps 20 = .ok (.iload_n 1, 1) := by decide +kernel
theorem dX1_steps_21 : decode cX1_steps 21 = .ok (.iload_n 2, 1) := by decide +kernel
theorem dX1_steps_22 : decode cX1_steps 22 = .ok (.invokevirtual 53, 3) := by decide +kernel
theorem dX1_steps_25 : decode cX1_steps 25 = .ok (.ifCond .eq 10, 3) := by decide +kernel
theorem dX1_steps_28 : decode cX1_steps 28 = .ok (.aload_n 0, 1) := by decide +kernel
theorem dX1_steps_29 : decode cX1_steps 29 = .ok (.getfield 39, 3) := by decide +kernel
theorem dX1_steps_32 : decode cX1_steps 32 = .ok (.goto 4, 3) := by decide +kernel
theorem dX1_steps_35 : decode cX1_steps 35 = .ok (.iconst (-1), 1) := by decide +kernel
theorem dX1_steps_36 : decode cX1_steps 36 = .ok (.ireturn, 1) := by decide +kernel
theorem dX1_path_0 : decode cX1_path 0 = .ok (.aload_n 0, 1) := by decide +kernel
theorem dX1_path_1 : decode cX1_path 1 = .ok (.iconst 0, 1) := by decide +kernel
theorem dX1_path_2 : decode cX1_path 2 = .ok (.putfield 30, 3) := by decide +kernel
theorem dX1_path_5 : decode cX1_path 5 = .ok (.iload_n 1, 1) := by decide +kernel
theorem dX1_path_6 : decode cX1_path 6 = .ok (.invokestatic 64, 3) := by decide +kernel
theorem dX1_path_9 : decode cX1_path 9 = .ok (.ifCond .eq 19, 3) := by decide +kernel
theorem dX1_path_12 : decode cX1_path 12 = .ok (.iload_n 2, 1) := by decide +kernel
theorem dX1_path_13 : decode cX1_path 13 = .ok (.invokestatic 64, 3) := by decide +kernel
theorem dX1_path_16 : decode cX1_path 16 = .ok (.ifCond .eq 12, 3) := by decide +kernel
theorem dX1_path_19 : decode cX1_path 19 = .ok (.aload_n 0, 1) := by decide +kernel
theorem dX1_path_20 : decode cX1_path 20 = .ok (.iload_n 1, 1) := by decide +kernel
theorem dX1_path_21 : decode cX1_path 21 = .ok (.iload_n 2, 1) := by decide +kernel
theorem dX1_path_22 : decode cX1_path 22 = .ok (.invokevirtual 53, 3) := by decide +kernel
theorem dX1_path_25 : decode cX1_path 25 = .ok (.ifCond .ne 5, 3) := by decide +kernel
theorem dX1_path_28 : decode cX1_path 28 = .ok (.iconst (-1), 1) := by decide +kernel
theorem dX1_path_29 : decode cX1_path 29 = .ok (.ireturn, 1) := by decide +kernel
theorem dX1_path_30 : decode cX1_path 30 = .ok (.aload_n 0, 1) := by decide +kernel
theorem dX1_path_31 : decode cX1_path 31 = .ok (.getfield 24, 3) := by decide +kernel
theorem dX1_path_34 : decode cX1_path 34 = .ok (.iconst 0, 1) := by decide +kernel
theorem dX1_path_35 : decode cX1_path 35 = .ok (.iload_n 1, 1) := by decide +kernel
theorem dX1_path_36 : decode cX1_path 36 = .ok (.iastore, 1) := by decide +kernel
theorem dX1_path_37 : decode cX1_path 37 = .ok (.aload_n 0, 1) := by decide +kernel
theorem dX1_path_38 : decode cX1_path 38 = .ok (.iconst 1, 1) := by decide +kernel
theorem dX1_path_39 : decode cX1_path 39 = .ok (.putfield 50, 3) := by decide +kernel
theorem dX1_path_42 : decode cX1_path 42 = .ok (.aload_n 0, 1) := by decide +kernel
theorem dX1_path_43 : decode cX1_path 43 = .ok (.iload_n 1, 1) := by decide +kernel
theorem dX1_path_44 : decode cX1_path 44 = .ok (.invokevirtual 57, 3) := by decide +kernel
theorem dX1_path_47 : decode cX1_path 47 = .ok (.aload_n 0, 1) := by decide +kernel
theorem dX1_path_48 : decode cX1_path 48 = .ok (.aload_n 0, 1) := by decide +kernel
theorem dX1_path_49 : decode cX1_path 49 = .ok (.getfield 42, 3) := by decide +kernel
theorem dX1_path_52 : decode cX1_path 52 = .ok (.putfield 61, 3) := by decide +kernel
theorem dX1_path_55 : decode cX1_path 55 = .ok (.aload_n 0, 1) := by decide +kernel
theorem dX1_path_56 : decode cX1_path 56 = .ok (.getfield 50, 3) := by decide +kernel
theorem dX1_path_59 : decode cX1_path 59 = .ok (.ireturn, 1) := by decide +kernel
theorem dX1_row_0 : decode cX1_row 0 = .ok (.aload_n 0, 1) := by decide +kernel
theorem dX1_row_1 : decode cX1_row 1 = .ok (.iconst 0, 1) := by decide +kernel
theorem dX1_row_2 : decode cX1_row 2 = .ok (.putfield 30, 3) := by decide +kernel
theorem dX1_row_5 : decode cX1_row 5 = .ok (.aload_n 0, 1) := by decide +kernel
theorem dX1_row_6 : decode cX1_row 6 = .ok (.getfield 50, 3) := by decide +kernel
theorem dX1_row_9 : decode cX1_row 9 = .ok (.ireturn, 1) := by decide +kernel
theorem dX1_rowAt_0 : decode cX1_rowAt 0 = .ok (.aload_n 0, 1) := by decide +kernel
theorem dX1_rowAt_1 : decode cX1_rowAt 1 = .ok (.iconst 0, 1) := by decide +kernel
theorem dX1_rowAt_2 : decode cX1_rowAt 2 = .ok (.putfield 30, 3) := by decide +kernel
theorem dX1_rowAt_5 : decode cX1_rowAt 5 = .ok (.iload_n 1, 1) := by decide +kernel
theorem dX1_rowAt_6 : decode cX1_rowAt 6 = .ok (.ifCond .lt 20, 3) := by decide +kernel
theorem dX1_rowAt_9 : decode cX1_rowAt 9 = .ok (.iload_n 1, 1) := by decide +kernel
theorem dX1_rowAt_10 : decode cX1_rowAt 10 = .ok (.aload_n 0, 1) := by decide +kernel
theorem dX1_rowAt_11 : decode cX1_rowAt 11 = .ok (.getfield 50, 3) := by decide +kernel
theorem dX1_rowAt_14 : decode cX1_rowAt 14 = .ok (.if_icmp .ge 12, 3) := by decide +kernel
theorem dX1_rowAt_17 : decode cX1_rowAt 17 = .ok (.aload_n 0, 1) := by decide +kernel
theorem dX1_rowAt_18 : decode cX1_rowAt 18 = .ok (.getfield 24, 3) := by decide +kernel
theorem dX1_rowAt_21 : decode cX1_rowAt 21 = .ok (.iload_n 1, 1) := by decide +kernel
theorem dX1_rowAt_22 : decode cX1_rowAt 22 = .ok (.iaload, 1) := by decide +kernel
theorem dX1_rowAt_23 : decode cX1_rowAt 23 = .ok (.goto 4, 3) := by decide +kernel
theorem dX1_rowAt_26 : decode cX1_rowAt 26 = .ok (.iconst (-1), 1) := by decide +kernel
theorem dX1_rowAt_27 : decode cX1_rowAt 27 = .ok (.ireturn, 1) := by decide +kernel
theorem dX1_length_0 : decode cX1_length 0 = .ok (.aload_n 0, 1) := by decide +kernel
theorem dX1_length_1 : decode cX1_length 1 = .ok (.iconst 0, 1) := by decide +kernel
theorem dX1_length_2 : decode cX1_length 2 = .ok (.putfield 30, 3) := by decide +kernel
theorem dX1_length_5 : decode cX1_length 5 = .ok (.aload_n 0, 1) := by decide +kernel
theorem dX1_length_6 : decode cX1_length 6 = .ok (.getfield 50, 3) := by decide +kernel
theorem dX1_length_9 : decode cX1_length 9 = .ok (.ifCond .ne 7, 3) := by decide +kernel
theorem dX1_length_12 : decode cX1_length 12 = .ok (.lconst 0, 1) := by decide +kernel
theorem dX1_length_13 : decode cX1_length 13 = .ok (.goto 7, 3) := by decide +kernel
theorem dX1_length_16 : decode cX1_length 16 = .ok (.aload_n 0, 1) := by decide +kernel
theorem dX1_length_17 : decode cX1_length 17 = .ok (.getfield 61, 3) := by decide +kernel
theorem dX1_length_20 : decode cX1_length 20 = .ok (.lreturn, 1) := by decide +kernel
theorem dX1_earliest_0 : decode cX1_earliest 0 = .ok (.aload_n 0, 1) := by decide +kernel
theorem dX1_earliest_1 : decode cX1_earliest 1 = .ok (.iload_n 1, 1) := by decide +kernel
theorem dX1_earliest_2 : decode cX1_earliest 2 = .ok (.invokestatic 64, 3) := by decide +kernel
theorem dX1_earliest_5 : decode cX1_earliest 5 = .ok (.ifCond .eq 7, 3) := by decide +kernel
theorem dX1_earliest_8 : decode cX1_earliest 8 = .ok (.iconst 0, 1) := by decide +kernel
theorem dX1_earliest_9 : decode cX1_earliest 9 = .ok (.goto 4, 3) := by decide +kernel
theorem dX1_earliest_12 : decode cX1_earliest 12 = .ok (.iconst 1, 1) := by decide +kernel
theorem dX1_earliest_13 : decode cX1_earliest 13 = .ok (.putfield 30, 3) := by decide +kernel
theorem dX1_earliest_16 : decode cX1_earliest 16 = .ok (.aload_n 0, 1) := by decide +kernel
theorem dX1_earliest_17 : decode cX1_earliest 17 = .ok (.getfield 30, 3) := by decide +kernel
theorem dX1_earliest_20 : decode cX1_earliest 20 = .ok (.ifCond .le 5, 3) := by decide +kernel
theorem dX1_earliest_23 : decode cX1_earliest 23 = .ok (.lconst 0, 1) := by decide +kernel
theorem dX1_earliest_24 : decode cX1_earliest 24 = .ok (.lreturn, 1) := by decide +kernel
theorem dX1_earliest_25 : decode cX1_earliest 25 = .ok (.aload_n 0, 1) := by decide +kernel
theorem dX1_earliest_26 : decode cX1_earliest 26 = .ok (.iload_n 1, 1) := by decide +kernel
theorem dX1_earliest_27 : decode cX1_earliest 27 = .ok (.iconst 0, 1) := by decide +kernel
theorem dX1_earliest_28 : decode cX1_earliest 28 = .ok (.invokevirtual 53, 3) := by decide +kernel
theorem dX1_earliest_31 : decode cX1_earliest 31 = .ok (.ifCond .eq 11, 3) := by decide +kernel
theorem dX1_earliest_34 : decode cX1_earliest 34 = .ok (.aload_n 0, 1) := by decide +kernel
theorem dX1_earliest_35 : decode cX1_earliest 35 = .ok (.getfield 42, 3) := by decide +kernel
theorem dX1_earliest_38 : decode cX1_earliest 38 = .ok (.lneg, 1) := by decide +kernel
theorem dX1_earliest_39 : decode cX1_earliest 39 = .ok (.goto 6, 3) := by decide +kernel
theorem dX1_earliest_42 : decode cX1_earliest 42 = .ok (.ldc2_w 79, 3) := by decide +kernel
theorem dX1_earliest_45 : decode cX1_earliest 45 = .ok (.lreturn, 1) := by decide +kernel
theorem dX1_slack_0 : decode cX1_slack 0 = .ok (.aload_n 0, 1) := by decide +kernel
theorem dX1_slack_1 : decode cX1_slack 1 = .ok (.iconst 0, 1) := by decide +kernel
theorem dX1_slack_2 : decode cX1_slack 2 = .ok (.putfield 30, 3) := by decide +kernel
theorem dX1_slack_5 : decode cX1_slack 5 = .ok (.aload_n 0, 1) := by decide +kernel
theorem dX1_slack_6 : decode cX1_slack 6 = .ok (.iload_n 1, 1) := by decide +kernel
theorem dX1_slack_7 : decode cX1_slack 7 = .ok (.invokevirtual 76, 3) := by decide +kernel
theorem dX1_slack_10 : decode cX1_slack 10 = .ok (.ifCond .eq 31, 3) := by decide +kernel
theorem dX1_slack_13 : decode cX1_slack 13 = .ok (.aload_n 0, 1) := by decide +kernel
theorem dX1_slack_14 : decode cX1_slack 14 = .ok (.getfield 20, 3) := by decide +kernel
theorem dX1_slack_17 : decode cX1_slack 17 = .ok (.iload_n 1, 1) := by decide +kernel
theorem dX1_slack_18 : decode cX1_slack 18 = .ok (.baload, 1) := by decide +kernel
theorem dX1_slack_19 : decode cX1_slack 19 = .ok (.ifCond .eq 22, 3) := by decide +kernel
theorem dX1_slack_22 : decode cX1_slack 22 = .ok (.aload_n 0, 1) := by decide +kernel
theorem dX1_slack_23 : decode cX1_slack 23 = .ok (.aload_n 0, 1) := by decide +kernel
theorem dX1_slack_24 : decode cX1_slack 24 = .ok (.getfield 7, 3) := by decide +kernel
theorem dX1_slack_27 : decode cX1_slack 27 = .ok (.iload_n 1, 1) := by decide +kernel
theorem dX1_slack_28 : decode cX1_slack 28 = .ok (.iaload, 1) := by decide +kernel
theorem dX1_slack_29 : decode cX1_slack 29 = .ok (.aload_n 0, 1) := by decide +kernel
theorem dX1_slack_30 : decode cX1_slack 30 = .ok (.getfield 13, 3) := by decide +kernel
theorem dX1_slack_33 : decode cX1_slack 33 = .ok (.iload_n 1, 1) := by decide +kernel
theorem dX1_slack_34 : decode cX1_slack 34 = .ok (.iaload, 1) := by decide +kernel
theorem dX1_slack_35 : decode cX1_slack 35 = .ok (.invokevirtual 53, 3) := by decide +kernel
theorem dX1_slack_38 : decode cX1_slack 38 = .ok (.ifCond .ne 7, 3) := by decide +kernel
theorem dX1_slack_41 : decode cX1_slack 41 = .ok (.ldc2_w 81, 3) := by decide +kernel
theorem dX1_slack_44 : decode cX1_slack 44 = .ok (.lreturn, 1) := by decide +kernel
theorem dX1_slack_45 : decode cX1_slack 45 = .ok (.aload_n 0, 1) := by decide +kernel
theorem dX1_slack_46 : decode cX1_slack 46 = .ok (.getfield 16, 3) := by decide +kernel
theorem dX1_slack_49 : decode cX1_slack 49 = .ok (.iload_n 1, 1) := by decide +kernel
theorem dX1_slack_50 : decode cX1_slack 50 = .ok (.laload, 1) := by decide +kernel
theorem dX1_slack_51 : decode cX1_slack 51 = .ok (.aload_n 0, 1) := by decide +kernel
theorem dX1_slack_52 : decode cX1_slack 52 = .ok (.getfield 42, 3) := by decide +kernel
theorem dX1_slack_55 : decode cX1_slack 55 = .ok (.lsub, 1) := by decide +kernel
theorem dX1_slack_56 : decode cX1_slack 56 = .ok (.lreturn, 1) := by decide +kernel
theorem dX1_alive_0 : decode cX1_alive 0 = .ok (.aload_n 0, 1) := by decide +kernel
theorem dX1_alive_1 : decode cX1_alive 1 = .ok (.iconst 0, 1) := by decide +kernel
theorem dX1_alive_2 : decode cX1_alive 2 = .ok (.putfield 30, 3) := by decide +kernel
theorem dX1_alive_5 : decode cX1_alive 5 = .ok (.iconst 0, 1) := by decide +kernel
theorem dX1_alive_6 : decode cX1_alive 6 = .ok (.istore_n 1, 1) := by decide +kernel
theorem dX1_alive_7 : decode cX1_alive 7 = .ok (.iconst 0, 1) := by decide +kernel
theorem dX1_alive_8 : decode cX1_alive 8 = .ok (.istore_n 2, 1) := by decide +kernel
theorem dX1_alive_9 : decode cX1_alive 9 = .ok (.iload_n 2, 1) := by decide +kernel
theorem dX1_alive_10 : decode cX1_alive 10 = .ok (.aload_n 0, 1) := by decide +kernel
theorem dX1_alive_11 : decode cX1_alive 11 = .ok (.getfield 34, 3) := by decide +kernel
theorem dX1_alive_14 : decode cX1_alive 14 = .ok (.if_icmp .ge 26, 3) := by decide +kernel
theorem dX1_alive_17 : decode cX1_alive 17 = .ok (.iload_n 1, 1) := by decide +kernel
theorem dX1_alive_18 : decode cX1_alive 18 = .ok (.aload_n 0, 1) := by decide +kernel
theorem dX1_alive_19 : decode cX1_alive 19 = .ok (.getfield 20, 3) := by decide +kernel
theorem dX1_alive_22 : decode cX1_alive 22 = .ok (.iload_n 2, 1) := by decide +kernel
theorem dX1_alive_23 : decode cX1_alive 23 = .ok (.baload, 1) := by decide +kernel
theorem dX1_alive_24 : decode cX1_alive 24 = .ok (.ifCond .eq 7, 3) := by decide +kernel
theorem dX1_alive_27 : decode cX1_alive 27 = .ok (.iconst 1, 1) := by decide +kernel
theorem dX1_alive_28 : decode cX1_alive 28 = .ok (.goto 4, 3) := by decide +kernel
theorem dX1_alive_31 : decode cX1_alive 31 = .ok (.iconst 0, 1) := by decide +kernel
theorem dX1_alive_32 : decode cX1_alive 32 = .ok (.iadd, 1) := by decide +kernel
theorem dX1_alive_33 : decode cX1_alive 33 = .ok (.istore_n 1, 1) := by decide +kernel
theorem dX1_alive_34 : decode cX1_alive 34 = .ok (.iinc 2 1, 3) := by decide +kernel
theorem dX1_alive_37 : decode cX1_alive 37 = .ok (.goto (-28), 3) := by decide +kernel
theorem dX1_alive_40 : decode cX1_alive 40 = .ok (.iload_n 1, 1) := by decide +kernel
theorem dX1_alive_41 : decode cX1_alive 41 = .ok (.ireturn, 1) := by decide +kernel
