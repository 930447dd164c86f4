theorem dX0_init_0 : decode cX0_init 0 = .ok (.aload_n 0, 1) := by decide +kernel
theorem dX0_init_1 : decode cX0_init 1 = .ok (.invokespecial 3, 3) := by decide +kernel
theorem dX0_init_4 : decode cX0_init 4 = .ok (.aload_n 0, 1) := by decide +kernel
theorem dX0_init_5 : decode cX0_init 5 = .ok (.bipush 8, 2) := by decide +kernel
theorem dX0_init_7 : decode cX0_init 7 = .ok (.newarray .int, 2) := by decide +kernel
theorem dX0_init_9 : decode cX0_init 9 = .ok (.putfield 9, 3) := by decide +kernel
theorem dX0_init_12 : decode cX0_init 12 = .ok (.aload_n 0, 1) := by decide +kernel
theorem dX0_init_13 : decode cX0_init 13 = .ok (.bipush 8, 2) := by decide +kernel
theorem dX0_init_15 : decode cX0_init 15 = .ok (.newarray .int, 2) := by decide +kernel
theorem dX0_init_17 : decode cX0_init 17 = .ok (.putfield 15, 3) := by decide +kernel
theorem dX0_init_20 : decode cX0_init 20 = .ok (.return_, 1) := by decide +kernel
theorem dX0_look_0 : decode cX0_look 0 = .ok (.aload_n 1, 1) := by decide +kernel
theorem dX0_look_1 : decode cX0_look 1 = .ok (.iconst 0, 1) := by decide +kernel
theorem dX0_look_2 : decode cX0_look 2 = .ok (.invokevirtual 18, 3) := by decide +kernel
theorem dX0_look_5 : decode cX0_look 5 = .ok (.iconst 1, 1) := by decide +kernel
theorem dX0_look_6 : decode cX0_look 6 = .ok (.if_icmp .ne 7, 3) := by decide +kernel
theorem dX0_look_9 : decode cX0_look 9 = .ok (.iconst 1, 1) := by decide +kernel
theorem dX0_look_10 : decode cX0_look 10 = .ok (.goto 4, 3) := by decide +kernel
theorem dX0_look_13 : decode cX0_look 13 = .ok (.iconst 0, 1) := by decide +kernel
theorem dX0_look_14 : decode cX0_look 14 = .ok (.istore 4, 2) := by decide +kernel
theorem dX0_look_16 : decode cX0_look 16 = .ok (.aload_n 0, 1) := by decide +kernel
theorem dX0_look_17 : decode cX0_look 17 = .ok (.invokevirtual 24, 3) := by decide +kernel
theorem dX0_look_20 : decode cX0_look 20 = .ok (.iconst 0, 1) := by decide +kernel
theorem dX0_look_21 : decode cX0_look 21 = .ok (.istore 5, 2) := by decide +kernel
theorem dX0_look_23 : decode cX0_look 23 = .ok (.iload 5, 2) := by decide +kernel
theorem dX0_look_25 : decode cX0_look 25 = .ok (.bipush 8, 2) := by decide +kernel
theorem dX0_look_27 : decode cX0_look 27 = .ok (.if_icmp .ge 158, 3) := by decide +kernel
theorem dX0_look_30 : decode cX0_look 30 = .ok (.aload_n 1, 1) := by decide +kernel
theorem dX0_look_31 : decode cX0_look 31 = .ok (.getfield 27, 3) := by decide +kernel
theorem dX0_look_34 : decode cX0_look 34 = .ok (.aload_n 1, 1) := by decide +kernel
theorem dX0_look_35 : decode cX0_look 35 = .ok (.getfield 31, 3) := by decide +kernel
theorem dX0_look_38 : decode cX0_look 38 = .ok (.iload 5, 2) := by decide +kernel
theorem dX0_look_40 : decode cX0_look 40 = .ok (.invokevirtual 35, 3) := by decide +kernel
theorem dX0_look_43 : decode cX0_look 43 = .ok (.iload_n 3, 1) := by decide +kernel
theorem dX0_look_44 : decode cX0_look 44 = .ok (.invokevirtual 40, 3) := by decide +kernel
theorem dX0_look_47 : decode cX0_look 47 = .ok (.istore 6, 2) := by decide +kernel
theorem dX0_look_49 : decode cX0_look 49 = .ok (.aload_n 1, 1) := by decide +kernel
theorem dX0_look_50 : decode cX0_look 50 = .ok (.getfield 46, 3) := by decide +kernel
theorem dX0_look_53 : decode cX0_look 53 = .ok (.iload_n 2, 1) := by decide +kernel
theorem dX0_look_54 : decode cX0_look 54 = .ok (.aload_n 1, 1) := by decide +kernel
theorem dX0_look_55 : decode cX0_look 55 = .ok (.getfield 31, 3) := by decide +kernel
theorem dX0_look_58 : decode cX0_look 58 = .ok (.iload 5, 2) := by decide +kernel
theorem dX0_look_60 : decode cX0_look 60 = .ok (.invokevirtual 50, 3) := by decide +kernel
theorem dX0_look_63 : decode cX0_look 63 = .ok (.invokevirtual 53, 3) := by decide +kernel
theorem dX0_look_66 : decode cX0_look 66 = .ok (.istore 7, 2) := by decide +kernel
theorem dX0_look_68 : decode cX0_look 68 = .ok (.aload_n 1, 1) := by decide +kernel
theorem dX0_look_69 : decode cX0_look 69 = .ok (.getfield 31, 3) := by decide +kernel
theorem dX0_look_72 : decode cX0_look 72 = .ok (.iload 5, 2) := by decide +kernel
theorem dX0_look_74 : decode cX0_look 74 = .ok (.invokevirtual 58, 3) := by decide +kernel
theorem dX0_look_77 : decode cX0_look 77 = .ok (.ifCond .eq 18, 3) := by decide +kernel
theorem dX0_look_80 : decode cX0_look 80 = .ok (.iload 6, 2) := by decide +kernel
theorem dX0_look_82 : decode cX0_look 82 = .ok (.ifCond .le 13, 3) := by decide +kernel
theorem dX0_look_85 : decode cX0_look 85 = .ok (.iload 7, 2) := by decide +kernel
theorem dX0_look_87 : decode cX0_look 87 = .ok (.iconst (-1), 1) := by decide +kernel
theorem dX0_look_88 : decode cX0_look 88 = .ok (.if_icmp .eq 7, 3) := by decide +kernel
theorem dX0_look_91 : decode cX0_look 91 = .ok (.iconst 1, 1) := by decide +kernel
theorem dX0_look_92 : decode cX0_look 92 = .ok (.goto 4, 3) := by decide +kernel
theorem dX0_look_95 : decode cX0_look 95 = .ok (.iconst 0, 1) := by decide +kernel
theorem dX0_look_96 : decode cX0_look 96 = .ok (.istore 8, 2) := by decide +kernel
theorem dX0_look_98 : decode cX0_look 98 = .ok (.aload_n 0, 1) := by decide +kernel
theorem dX0_look_99 : decode cX0_look 99 = .ok (.getfield 9, 3) := by decide +kernel
theorem dX0_look_102 : decode cX0_look 102 = .ok (.iload 5, 2) := by decide +kernel
theorem dX0_look_104 : decode cX0_look 104 = .ok (.iload 8, 2) := by decide +kernel
theorem dX0_look_106 : decode cX0_look 106 = .ok (.ifCond .ne 8, 3) := by decide +kernel
theorem dX0_look_109 : decode cX0_look 109 = .ok (.ldc 62, 2) := by decide +kernel
theorem dX0_look_111 : decode cX0_look 111 = .ok (.goto 15, 3) := by decide +kernel
theorem dX0_look_114 : decode cX0_look 114 = .ok (.iload 4, 2) := by decide +kernel
theorem dX0_look_116 : decode cX0_look 116 = .ok (.ifCond .eq 8, 3) := by decide +kernel
theorem dX0_look_119 : decode cX0_look 119 = .ok (.iload 7, 2) := by decide +kernel
theorem dX0_look_121 : decode cX0_look 121 = .ok (.goto 5, 3) := by decide +kernel
theorem dX0_look_124 : decode cX0_look 124 = .ok (.iload 6, 2) := by decide +kernel
theorem dX0_look_126 : decode cX0_look 126 = .ok (.iastore, 1) := by decide +kernel
theorem dX0_look_127 : decode cX0_look 127 = .ok (.aload_n 0, 1) := by decide +kernel
theorem dX0_look_128 : decode cX0_look 128 = .ok (.getfield 15, 3) := by decide +kernel
theorem dX0_look_131 : decode cX0_look 131 = .ok (.iload 5, 2) := by decide +kernel
theorem dX0_look_133 : decode cX0_look 133 = .ok (.iload 8, 2) := by decide +kernel
theorem dX0_look_135 : decode cX0_look 135 = .ok (.ifCond .ne 8, 3) := by decide +kernel
theorem dX0_look_138 : decode cX0_look 138 = .ok (.ldc 62, 2) := by decide +kernel
theorem dX0_look_140 : decode cX0_look 140 = .ok (.goto 15, 3) := by decide +kernel
theorem dX0_look_143 : decode cX0_look 143 = .ok (.iload 4, 2) := by decide +kernel
theorem dX0_look_145 : decode cX0_look 145 = .ok (.ifCond .eq 8, 3) := by decide +kernel
theorem dX0_look_148 : decode cX0_look 148 = .ok (.iload 6, 2) := by decide +kernel
theorem dX0_look_150 : decode cX0_look 150 = .ok (.goto 5, 3) := by decide +kernel
theorem dX0_look_153 : decode cX0_look 153 = .ok (.iload 7, 2) := by decide +kernel
theorem dX0_look_155 : decode cX0_look 155 = .ok (.iastore, 1) := by decide +kernel
theorem dX0_look_156 : decode cX0_look 156 = .ok (.iload 8, 2) := by decide +kernel
theorem dX0_look_158 : decode cX0_look 158 = .ok (.ifCond .eq 21, 3) := by decide +kernel
theorem dX0_look_161 : decode cX0_look 161 = .ok (.aload_n 0, 1) := by decide +kernel
theorem dX0_look_162 : decode cX0_look 162 = .ok (.aload_n 0, 1) := by decide +kernel
theorem dX0_look_163 : decode cX0_look 163 = .ok (.getfield 9, 3) := by decide +kernel
theorem dX0_look_166 : decode cX0_look 166 = .ok (.iload 5, 2) := by decide +kernel
theorem dX0_look_168 : decode cX0_look 168 = .ok (.iaload, 1) := by decide +kernel
theorem dX0_look_169 : decode cX0_look 169 = .ok (.aload_n 0, 1) := by decide +kernel
theorem dX0_look_170 : decode cX0_look 170 = .ok (.getfield 15, 3) := by decide +kernel
theorem dX0_look_173 : decode cX0_look 173 = .ok (.iload 5, 2) := by decide +kernel
theorem dX0_look_175 : decode cX0_look 175 = .ok (.iaload, 1) := by decide +kernel
theorem dX0_look_176 : decode cX0_look 176 = .ok (.invokevirtual 63, 3) := by decide +kernel
theorem dX0_look_179 : decode cX0_look 179 = .ok (.iinc 5 1, 3) := by decide +kernel
theorem dX0_look_182 : decode cX0_look 182 = .ok (.goto (-159), 3) := by decide +kernel
theorem dX0_look_185 : decode cX0_look 185 = .ok (.aload_n 1, 1) := by decide +kernel
theorem dX0_look_186 : decode cX0_look 186 = .ok (.iconst 1, 1) := by decide +kernel
theorem dX0_look_187 : decode cX0_look 187 = .ok (.invokevirtual 18, 3) := by decide +kernel
theorem dX0_look_190 : decode cX0_look 190 = .ok (.iconst 1, 1) := by decide +kernel
theorem dX0_look_191 : decode cX0_look 191 = .ok (.if_icmp .ne 12, 3) := by decide +kernel
theorem dX0_look_194 : decode cX0_look 194 = .ok (.aload_n 1, 1) := by decide +kernel
theorem dX0_look_195 : decode cX0_look 195 = .ok (.iload_n 2, 1) := by decide +kernel
theorem dX0_look_196 : decode cX0_look 196 = .ok (.iload_n 3, 1) := by decide +kernel
theorem dX0_look_197 : decode cX0_look 197 = .ok (.invokevirtual 67, 3) := by decide +kernel
theorem dX0_look_200 : decode cX0_look 200 = .ok (.goto 4, 3) := by decide +kernel
theorem dX0_look_203 : decode cX0_look 203 = .ok (.iconst 0, 1) := by decide +kernel
theorem dX0_look_204 : decode cX0_look 204 = .ok (.istore 5, 2) := by decide +kernel
theorem dX0_look_206 : decode cX0_look 206 = .ok (.aload_n 0, 1) := by decide +kernel
theorem dX0_look_207 : decode cX0_look 207 = .ok (.aload_n 0, 1) := by decide +kernel
theorem dX0_look_208 : decode cX0_look 208 = .ok (.getfield 70, 3) := by decide +kernel
theorem dX0_look_211 : decode cX0_look 211 = .ok (.ifCond .le 17, 3) := by decide +kernel
theorem dX0_look_214 : decode cX0_look 214 = .ok (.aload_n 0, 1) := by decide +kernel
theorem dX0_look_215 : decode cX0_look 215 = .ok (.iload 5, 2) := by decide +kernel
theorem dX0_look_217 : decode cX0_look 217 = .ok (.aload_n 0, 1) := by decide +kernel
theorem dX0_look_218 : decode cX0_look 218 = .ok (.getfield 70, 3) := by decide +kernel
theorem dX0_look_221 : decode cX0_look 221 = .ok (.irem, 1) := by decide +kernel
theorem dX0_look_222 : decode cX0_look 222 = .ok (.invokevirtual 74, 3) := by decide +kernel
theorem dX0_look_225 : decode cX0_look 225 = .ok (.goto 4, 3) := by decide +kernel
theorem dX0_look_228 : decode cX0_look 228 = .ok (.iconst (-1), 1) := by decide +kernel
theorem dX0_look_229 : decode cX0_look 229 = .ok (.putfield 77, 3) := by decide +kernel
theorem dX0_look_232 : decode cX0_look 232 = .ok (.aload_n 0, 1) := by decide +kernel
theorem dX0_look_233 : decode cX0_look 233 = .ok (.aload_n 1, 1) := by decide +kernel
theorem dX0_look_234 : decode cX0_look 234 = .ok (.getfield 46, 3) := by decide +kernel
theorem dX0_look_237 : decode cX0_look 237 = .ok (.iload_n 2, 1) := by decide +kernel
theorem dX0_look_238 : decode cX0_look 238 = .ok (.aload_n 1, 1) := by decide +kernel
theorem dX0_look_239 : decode cX0_look 239 = .ok (.getfield 31, 3) := by decide +kernel
theorem dX0_look_242 : decode cX0_look 242 = .ok (.aload_n 0, 1) := by decide +kernel
theorem dX0_look_243 : decode cX0_look 243 = .ok (.getfield 77, 3) := by decide +kernel
theorem dX0_look_246 : decode cX0_look 246 = .ok (.invokevirtual 50, 3) := by decide +kernel
theorem dX0_look_249 : decode cX0_look 249 = .ok (.invokevirtual 53, 3) := by decide +kernel
theorem dX0_look_252 : decode cX0_look 252 = .ok (.putfield 80, 3) := by decide +kernel
theorem dX0_look_255 : decode cX0_look 255 = .ok (.return_, 1) := by decide +kernel
theorem dX0_reasonAgainst_0 : decode cX0_reasonAgainst 0 = .ok (.iload 4, 2) := by decide +kernel
theorem dX0_reasonAgainst_2 : decode cX0_reasonAgainst 2 = .ok (.aload_n 0, 1) := by decide +kernel
theorem dX0_reasonAgainst_3 : decode cX0_reasonAgainst 3 = .ok (.getfield 77, 3) := by decide +kernel
theorem dX0_reasonAgainst_6 : decode cX0_reasonAgainst 6 = .ok (.if_icmp .ne 5, 3) := by decide +kernel
theorem dX0_reasonAgainst_9 : decode cX0_reasonAgainst 9 = .ok (.iconst 0, 1) := by decide +kernel
theorem dX0_reasonAgainst_10 : decode cX0_reasonAgainst 10 = .ok (.ireturn, 1) := by decide +kernel
theorem dX0_reasonAgainst_11 : decode cX0_reasonAgainst 11 = .ok (.aload_n 1, 1) := by decide +kernel
theorem dX0_reasonAgainst_12 : decode cX0_reasonAgainst 12 = .ok (.getfield 31, 3) := by decide +kernel
theorem dX0_reasonAgainst_15 : decode cX0_reasonAgainst 15 = .ok (.iload 4, 2) := by decide +kernel
theorem dX0_reasonAgainst_17 : decode cX0_reasonAgainst 17 = .ok (.invokevirtual 58, 3) := by decide +kernel
theorem dX0_reasonAgainst_20 : decode cX0_reasonAgainst 20 = .ok (.ifCond .ne 5, 3) := by decide +kernel
theorem dX0_reasonAgainst_23 : decode cX0_reasonAgainst 23 = .ok (.iconst 1, 1) := by decide +kernel
theorem dX0_reasonAgainst_24 : decode cX0_reasonAgainst 24 = .ok (.ireturn, 1) := by decide +kernel
theorem dX0_reasonAgainst_25 : decode cX0_reasonAgainst 25 = .ok (.aload_n 1, 1) := by decide +kernel
theorem dX0_reasonAgainst_26 : decode cX0_reasonAgainst 26 = .ok (.getfield 27, 3) := by decide +kernel
theorem dX0_reasonAgainst_29 : decode cX0_reasonAgainst 29 = .ok (.aload_n 1, 1) := by decide +kernel
theorem dX0_reasonAgainst_30 : decode cX0_reasonAgainst 30 = .ok (.getfield 31, 3) := by decide +kernel
theorem dX0_reasonAgainst_33 : decode cX0_reasonAgainst 33 = .ok (.iload 4, 2) := by decide +kernel
theorem dX0_reasonAgainst_35 : decode cX0_reasonAgainst 35 = .ok (.invokevirtual 35, 3) := by decide +kernel
theorem dX0_reasonAgainst_38 : decode cX0_reasonAgainst 38 = .ok (.iload_n 3, 1) := by decide +kernel
theorem dX0_reasonAgainst_39 : decode cX0_reasonAgainst 39 = .ok (.invokevirtual 40, 3) := by decide +kernel
theorem dX0_reasonAgainst_42 : decode cX0_reasonAgainst 42 = .ok (.ifCond .ne 5, 3) := by decide +kernel
theorem dX0_reasonAgainst_45 : decode cX0_reasonAgainst 45 = .ok (.iconst 2, 1) := by decide +kernel
theorem dX0_reasonAgainst_46 : decode cX0_reasonAgainst 46 = .ok (.ireturn, 1) := by decide +kernel
theorem dX0_reasonAgainst_47 : decode cX0_reasonAgainst 47 = .ok (.aload_n 1, 1) := by decide +kernel
theorem dX0_reasonAgainst_48 : decode cX0_reasonAgainst 48 = .ok (.getfield 46, 3) := by decide +kernel
theorem dX0_reasonAgainst_51 : decode cX0_reasonAgainst 51 = .ok (.iload_n 2, 1) := by decide +kernel
theorem dX0_reasonAgainst_52 : decode cX0_reasonAgainst 52 = .ok (.aload_n 1, 1) := by decide +kernel
theorem dX0_reasonAgainst_53 : decode cX0_reasonAgainst 53 = .ok (.getfield 31, 3) := by decide +kernel
theorem dX0_reasonAgainst_56 : decode cX0_reasonAgainst 56 = .ok (.iload 4, 2) := by decide +kernel
theorem dX0_reasonAgainst_58 : decode cX0_reasonAgainst 58 = .ok (.invokevirtual 50, 3) := by decide +kernel
theorem dX0_reasonAgainst_61 : decode cX0_reasonAgainst 61 = .ok (.invokevirtual 53, 3) := by decide +kernel
theorem dX0_reasonAgainst_64 : decode cX0_reasonAgainst 64 = .ok (.iconst (-1), 1) := by decide +kernel
theorem dX0_reasonAgainst_65 : decode cX0_reasonAgainst 65 = .ok (.if_icmp .ne 5, 3) := by decide +kernel
theorem dX0_reasonAgainst_68 : decode cX0_reasonAgainst 68 = .ok (.iconst 3, 1) := by decide +kernel
theorem dX0_reasonAgainst_69 : decode cX0_reasonAgainst 69 = .ok (.ireturn, 1) := by decide +kernel
theorem dX0_reasonAgainst_70 : decode cX0_reasonAgainst 70 = .ok (.iload 4, 2) := by decide +kernel
theorem dX0_reasonAgainst_72 : decode cX0_reasonAgainst 72 = .ok (.ifCond .lt 24, 3) := by decide +kernel
theorem dX0_reasonAgainst_75 : decode cX0_reasonAgainst 75 = .ok (.iload 4, 2) := by decide +kernel
theorem dX0_reasonAgainst_77 : decode cX0_reasonAgainst 77 = .ok (.bipush 8, 2) := by decide +kernel
theorem dX0_reasonAgainst_79 : decode cX0_reasonAgainst 79 = .ok (.if_icmp .ge 17, 3) := by decide +kernel
theorem dX0_reasonAgainst_82 : decode cX0_reasonAgainst 82 = .ok (.aload_n 0, 1) := by decide +kernel
theorem dX0_reasonAgainst_83 : decode cX0_reasonAgainst 83 = .ok (.getfield 9, 3) := by decide +kernel
theorem dX0_reasonAgainst_86 : decode cX0_reasonAgainst 86 = .ok (.iload 4, 2) := by decide +kernel
theorem dX0_reasonAgainst_88 : decode cX0_reasonAgainst 88 = .ok (.iaload, 1) := by decide +kernel
theorem dX0_reasonAgainst_89 : decode cX0_reasonAgainst 89 = .ok (.aload_n 0, 1) := by decide +kernel
theorem dX0_reasonAgainst_90 : decode cX0_reasonAgainst 90 = .ok (.getfield 83, 3) := by decide +kernel
theorem dX0_reasonAgainst_93 : decode cX0_reasonAgainst 93 = .ok (.if_icmp .eq 5, 3) := by decide +kernel
theorem dX0_reasonAgainst_96 : decode cX0_reasonAgainst 96 = .ok (.iconst 4, 1) := by decide +kernel
theorem dX0_reasonAgainst_97 : decode cX0_reasonAgainst 97 = .ok (.ireturn, 1) := by decide +kernel
theorem dX0_reasonAgainst_98 : decode cX0_reasonAgainst 98 = .ok (.aload_n 0, 1) := by decide +kernel
theorem dX0_reasonAgainst_99 : decode cX0_reasonAgainst 99 = .ok (.getfield 15, 3) := by decide +kernel
theorem dX0_reasonAgainst_102 : decode cX0_reasonAgainst 102 = .ok (.iload 4, 2) := by decide +kernel
theorem dX0_reasonAgainst_104 : decode cX0_reasonAgainst 104 = .ok (.iaload, 1) := by decide +kernel
theorem dX0_reasonAgainst_105 : decode cX0_reasonAgainst 105 = .ok (.aload_n 0, 1) := by decide +kernel
theorem dX0_reasonAgainst_106 : decode cX0_reasonAgainst 106 = .ok (.getfield 86, 3) := by decide +kernel
theorem dX0_reasonAgainst_109 : decode cX0_reasonAgainst 109 = .ok (.if_icmp .ne 8, 3) := by decide +kernel
theorem dX0_reasonAgainst_112 : decode cX0_reasonAgainst 112 = .ok (.bipush 6, 2) := by decide +kernel
theorem dX0_reasonAgainst_114 : decode cX0_reasonAgainst 114 = .ok (.goto 4, 3) := by decide +kernel
theorem dX0_reasonAgainst_117 : decode cX0_reasonAgainst 117 = .ok (.iconst 5, 1) := by decide +kernel
theorem dX0_reasonAgainst_118 : decode cX0_reasonAgainst 118 = .ok (.ireturn, 1) := by decide +kernel
theorem dX0_begin_0 : decode cX0_begin 0 = .ok (.aload_n 0, 1) := by decide +kernel
theorem dX0_begin_1 : decode cX0_begin 1 = .ok (.iconst 0, 1) := by decide +kernel
theorem dX0_begin_2 : decode cX0_begin 2 = .ok (.putfield 89, 3) := by decide +kernel
theorem dX0_begin_5 : decode cX0_begin 5 = .ok (.aload_n 0, 1) := by decide +kernel
theorem dX0_begin_6 : decode cX0_begin 6 = .ok (.iconst 0, 1) := by decide +kernel
theorem dX0_begin_7 : decode cX0_begin 7 = .ok (.putfield 70, 3) := by decide +kernel
theorem dX0_begin_10 : decode cX0_begin 10 = .ok (.aload_n 0, 1) := by decide +kernel
theorem dX0_begin_11 : decode cX0_begin 11 = .ok (.ldc 62, 2) := by decide +kernel
theorem dX0_begin_13 : decode cX0_begin 13 = .ok (.putfield 83, 3) := by decide +kernel
theorem dX0_begin_16 : decode cX0_begin 16 = .ok (.aload_n 0, 1) := by decide +kernel
theorem dX0_begin_17 : decode cX0_begin 17 = .ok (.ldc 62, 2) := by decide +kernel
theorem dX0_begin_19 : decode cX0_begin 19 = .ok (.putfield 86, 3) := by decide +kernel
theorem dX0_begin_22 : decode cX0_begin 22 = .ok (.return_, 1) := by decide +kernel
theorem dX0_weigh_0 : decode cX0_weigh 0 = .ok (.aload_n 0, 1) := by decide +kernel
theorem dX0_weigh_1 : decode cX0_weigh 1 = .ok (.dup, 1) := by decide +kernel
theorem dX0_weigh_2 : decode cX0_weigh 2 = .ok (.getfield 89, 3) := by decide +kernel
theorem dX0_weigh_5 : decode cX0_weigh 5 = .ok (.iconst 1, 1) := by decide +kernel
theorem dX0_weigh_6 : decode cX0_weigh 6 = .ok (.iadd, 1) := by decide +kernel
theorem dX0_weigh_7 : decode cX0_weigh 7 = .ok (.putfield 89, 3) := by decide +kernel
theorem dX0_weigh_10 : decode cX0_weigh 10 = .ok (.iload_n 1, 1) := by decide +kernel
theorem dX0_weigh_11 : decode cX0_weigh 11 = .ok (.aload_n 0, 1) := by decide +kernel
theorem dX0_weigh_12 : decode cX0_weigh 12 = .ok (.getfield 83, 3) := by decide +kernel
theorem dX0_weigh_15 : decode cX0_weigh 15 = .ok (.if_icmp .lt 19, 3) := by decide +kernel
theorem dX0_weigh_18 : decode cX0_weigh 18 = .ok (.iload_n 1, 1) := by decide +kernel
theorem dX0_weigh_19 : decode cX0_weigh 19 = .ok (.aload_n 0, 1) := by decide +kernel
theorem dX0_weigh_20 : decode cX0_weigh 20 = .ok (.getfield 83, 3) := by decide +kernel
theorem dX0_weigh_23 : decode cX0_weigh 23 = .ok (.if_icmp .ne 26, 3) := by decide +kernel
theorem dX0_weigh_26 : decode cX0_weigh 26 = .ok (.iload_n 2, 1) := by decide +kernel
theorem dX0_weigh_27 : decode cX0_weigh 27 = .ok (.aload_n 0, 1) := by decide +kernel
theorem dX0_weigh_28 : decode cX0_weigh 28 = .ok (.getfield 86, 3) := by decide +kernel
theorem dX0_weigh_31 : decode cX0_weigh 31 = .ok (.if_icmp .ge 18, 3) := by decide +kernel
theorem dX0_weigh_34 : decode cX0_weigh 34 = .ok (.aload_n 0, 1) := by decide +kernel
theorem dX0_weigh_35 : decode cX0_weigh 35 = .ok (.iload_n 1, 1) := by decide +kernel
theorem dX0_weigh_36 : decode cX0_weigh 36 = .ok (.putfield 83, 3) := by decide +kernel
theorem dX0_weigh_39 : decode cX0_weigh 39 = .ok (.aload_n 0, 1) := by decide +kernel
theorem dX0_weigh_40 : decode cX0_weigh 40 = .ok (.iload_n 2, 1) := by decide +kernel
theorem dX0_weigh_41 : decode cX0_weigh 41 = .ok (.putfield 86, 3) := by decide +kernel
theorem dX0_weigh_44 : decode cX0_weigh 44 = .ok (.aload_n 0, 1) := by decide +kernel
theorem dX0_weigh_45 : decode cX0_weigh 45 = .ok (.iconst 0, 1) := by decide +kernel
theorem dX0_weigh_46 : decode cX0_weigh 46 = .ok (.putfield 70, 3) := by decide +kernel
theorem dX0_weigh_49 : decode cX0_weigh 49 = .ok (.aload_n 0, 1) := by decide +kernel
theorem dX0_weigh_50 : decode cX0_weigh 50 = .ok (.dup, 1) := by decide +kernel
theorem dX0_weigh_51 : decode cX0_weigh 51 = .ok (.getfield 70, 3) := by decide +kernel
theorem dX0_weigh_54 : decode cX0_weigh 54 = .ok (.aload_n 0, 1) := by decide +kernel
theorem dX0_weigh_55 : decode cX0_weigh 55 = .ok (.iload_n 1, 1) := by decide +kernel
theorem dX0_weigh_56 : decode cX0_weigh 56 = .ok (.iload_n 2, 1) := by decide +kernel
theorem dX0_weigh_57 : decode cX0_weigh 57 = .ok (.invokevirtual 92, 3) := by decide +kernel
theorem dX0_weigh_60 : decode cX0_weigh 60 = .ok (.ifCond .eq 7, 3) := by decide +kernel
theorem dX0_weigh_63 : decode cX0_weigh 63 = .ok (.iconst 1, 1) := by decide +kernel
theorem dX0_weigh_64 : decode cX0_weigh 64 = .ok (.goto 4, 3) := by decide +kernel
theorem dX0_weigh_67 : decode cX0_weigh 67 = .ok (.iconst 0, 1) := by decide +kernel
theorem dX0_weigh_68 : decode cX0_weigh 68 = .ok (.iadd, 1) := by decide +kernel
theorem dX0_weigh_69 : decode cX0_weigh 69 = .ok (.putfield 70, 3) := by decide +kernel
theorem dX0_weigh_72 : decode cX0_weigh 72 = .ok (.return_, 1) := by decide +kernel
theorem dX0_bestOfRank_0 : decode cX0_bestOfRank 0 = .ok (.iload_n 1, 1) := by decide +kernel
theorem dX0_bestOfRank_1 : decode cX0_bestOfRank 1 = .ok (.istore_n 2, 1) := by decide +kernel
theorem dX0_bestOfRank_2 : decode cX0_bestOfRank 2 = .ok (.iconst 0, 1) := by decide +kernel
theorem dX0_bestOfRank_3 : decode cX0_bestOfRank 3 = .ok (.istore_n 3, 1) := by decide +kernel
theorem dX0_bestOfRank_4 : decode cX0_bestOfRank 4 = .ok (.iload_n 3, 1) := by decide +kernel
theorem dX0_bestOfRank_5 : decode cX0_bestOfRank 5 = .ok (.bipush 8, 2) := by decide +kernel
theorem dX0_bestOfRank_7 : decode cX0_bestOfRank 7 = .ok (.if_icmp .ge 37, 3) := by decide +kernel
theorem dX0_bestOfRank_10 : decode cX0_bestOfRank 10 = .ok (.aload_n 0, 1) := by decide +kernel
theorem dX0_bestOfRank_11 : decode cX0_bestOfRank 11 = .ok (.aload_n 0, 1) := by decide +kernel
theorem dX0_bestOfRank_12 : decode cX0_bestOfRank 12 = .ok (.getfield 9, 3) := by decide +kernel
theorem dX0_bestOfRank_15 : decode cX0_bestOfRank 15 = .ok (.iload_n 3, 1) := by decide +kernel
theorem dX0_bestOfRank_16 : decode cX0_bestOfRank 16 = .ok (.iaload, 1) := by decide +kernel
theorem dX0_bestOfRank_17 : decode cX0_bestOfRank 17 = .ok (.aload_n 0, 1) := by decide +kernel
theorem dX0_bestOfRank_18 : decode cX0_bestOfRank 18 = .ok (.getfield 15, 3) := by decide +kernel
theorem dX0_bestOfRank_21 : decode cX0_bestOfRank 21 = .ok (.iload_n 3, 1) := by decide +kernel
theorem dX0_bestOfRank_22 : decode cX0_bestOfRank 22 = .ok (.iaload, 1) := by decide +kernel
theorem dX0_bestOfRank_23 : decode cX0_bestOfRank 23 = .ok (.invokevirtual 92, 3) := by decide +kernel
theorem dX0_bestOfRank_26 : decode cX0_bestOfRank 26 = .ok (.ifCond .eq 12, 3) := by decide +kernel
theorem dX0_bestOfRank_29 : decode cX0_bestOfRank 29 = .ok (.iload_n 2, 1) := by decide +kernel
theorem dX0_bestOfRank_30 : decode cX0_bestOfRank 30 = .ok (.ifCond .ne 5, 3) := by decide +kernel
theorem dX0_bestOfRank_33 : decode cX0_bestOfRank 33 = .ok (.iload_n 3, 1) := by decide +kernel
theorem dX0_bestOfRank_34 : decode cX0_bestOfRank 34 = .ok (.ireturn, 1) := by decide +kernel
theorem dX0_bestOfRank_35 : decode cX0_bestOfRank 35 = .ok (.iinc 2 (-1), 3) := by decide +kernel
theorem dX0_bestOfRank_38 : decode cX0_bestOfRank 38 = .ok (.iinc 3 1, 3) := by decide +kernel
theorem dX0_bestOfRank_41 : decode cX0_bestOfRank 41 = .ok (.goto (-37), 3) := by decide +kernel
theorem dX0_bestOfRank_44 : decode cX0_bestOfRank 44 = .ok (.iconst (-1), 1) := by decide +kernel
theorem dX0_bestOfRank_45 : decode cX0_bestOfRank 45 = .ok (.ireturn, 1) := by decide +kernel
theorem dX0_isBest_0 : decode cX0_isBest 0 = .ok (.iload_n 1, 1) := by decide +kernel
theorem dX0_isBest_1 : decode cX0_isBest 1 = .ok (.aload_n 0, 1) := by decide +kernel
theorem dX0_isBest_2 : decode cX0_isBest 2 = .ok (.getfield 83, 3) := by decide +kernel
theorem dX0_isBest_5 : decode cX0_isBest 5 = .ok (.if_icmp .ne 15, 3) := by decide +kernel
theorem dX0_isBest_8 : decode cX0_isBest 8 = .ok (.iload_n 2, 1) := by decide +kernel
theorem dX0_isBest_9 : decode cX0_isBest 9 = .ok (.aload_n 0, 1) := by decide +kernel
theorem dX0_isBest_10 : decode cX0_isBest 10 = .ok (.getfield 86, 3) := by decide +kernel
theorem dX0_isBest_13 : decode cX0_isBest 13 = .ok (.if_icmp .ne 7, 3) := by decide +kernel
theorem dX0_isBest_16 : decode cX0_isBest 16 = .ok (.iconst 1, 1) := by decide +kernel
theorem dX0_isBest_17 : decode cX0_isBest 17 = .ok (.goto 4, 3) := by decide +kernel
theorem dX0_isBest_20 : decode cX0_isBest 20 = .ok (.iconst 0, 1) := by decide +kernel
theorem dX0_isBest_21 : decode cX0_isBest 21 = .ok (.ireturn, 1) := by decide +kernel
theorem dX1_init_0 : decode cX1_init 0 = .ok (.aload_n 0, 1) := by decide +kernel
theorem dX1_init_1 : decode cX1_init 1 = .ok (.invokespecial 3, 3) := by decide +kernel
theorem dX1_init_4 : decode cX1_init 4 = .ok (.aload_n 0, 1) := by decide +kernel
theorem dX1_init_5 : decode cX1_init 5 = .ok (.bipush 8, 2) := by decide +kernel
theorem dX1_init_7 : decode cX1_init 7 = .ok (.newarray .int, 2) := by decide +kernel
theorem dX1_init_9 : decode cX1_init 9 = .ok (.putfield 9, 3) := by decide +kernel
theorem dX1_init_12 : decode cX1_init 12 = .ok (.aload_n 0, 1) := by decide +kernel
theorem dX1_init_13 : decode cX1_init 13 = .ok (.bipush 8, 2) := by decide +kernel
theorem dX1_init_15 : decode cX1_init 15 = .ok (.newarray .int, 2) := by decide +kernel
theorem dX1_init_17 : decode cX1_init 17 = .ok (.putfield 15, 3) := by decide +kernel
theorem dX1_init_20 : decode cX1_init 20 = .ok (.aload_n 0, 1) := by decide +kernel
theorem dX1_init_21 : decode cX1_init 21 = .ok (.bipush 8, 2) := by decide +kernel
theorem dX1_init_23 : decode cX1_init 23 = .ok (.newarray .int, 2) := by decide +kernel
theorem dX1_init_25 : decode cX1_init 25 = .ok (.putfield 18, 3) := by decide +kernel
theorem dX1_init_28 : decode cX1_init 28 = .ok (.aload_n 0, 1) := by decide +kernel
theorem dX1_init_29 : decode cX1_init 29 = .ok (.bipush 8, 2) := by decide +kernel
theorem dX1_init_31 : decode cX1_init 31 = .ok (.newarray .int, 2) := by decide +kernel
theorem dX1_init_33 : decode cX1_init 33 = .ok (.putfield 21, 3) := by decide +kernel
theorem dX1_init_36 : decode cX1_init 36 = .ok (.aload_n 0, 1) := by decide +kernel
theorem dX1_init_37 : decode cX1_init 37 = .ok (.bipush 8, 2) := by decide +kernel
theorem dX1_init_39 : decode cX1_init 39 = .ok (.newarray .int, 2) := by decide +kernel
theorem dX1_init_41 : decode cX1_init 41 = .ok (.putfield 24, 3) := by decide +kernel
theorem dX1_init_44 : decode cX1_init 44 = .ok (.return_, 1) := by decide +kernel
theorem dX1_copyFrom_0 : decode cX1_copyFrom 0 = .ok (.aload_n 1, 1) := by decide +kernel
theorem dX1_copyFrom_1 : decode cX1_copyFrom 1 = .ok (.getfield 9, 3) := by decide +kernel
theorem dX1_copyFrom_4 : decode cX1_copyFrom 4 = .ok (.aload_n 0, 1) := by decide +kernel
theorem dX1_copyFrom_5 : decode cX1_copyFrom 5 = .ok (.getfield 9, 3) := by decide +kernel
theorem dX1_copyFrom_8 : decode cX1_copyFrom 8 = .ok (.invokestatic 27, 3) := by decide +kernel
theorem dX1_copyFrom_11 : decode cX1_copyFrom 11 = .ok (.aload_n 1, 1) := by decide +kernel
theorem dX1_copyFrom_12 : decode cX1_copyFrom 12 = .ok (.getfield 15, 3) := by decide +kernel
theorem dX1_copyFrom_15 : decode cX1_copyFrom 15 = .ok (.aload_n 0, 1) := by decide +kernel
theorem dX1_copyFrom_16 : decode cX1_copyFrom 16 = .ok (.getfield 15, 3) := by decide +kernel
theorem dX1_copyFrom_19 : decode cX1_copyFrom 19 = .ok (.invokestatic 27, 3) := by decide +kernel
theorem dX1_copyFrom_22 : decode cX1_copyFrom 22 = .ok (.aload_n 1, 1) := by decide +kernel
theorem dX1_copyFrom_23 : decode cX1_copyFrom 23 = .ok (.getfield 18, 3) := by decide +kernel
theorem dX1_copyFrom_26 : decode cX1_copyFrom 26 = .ok (.aload_n 0, 1) := by decide +kernel
theorem dX1_copyFrom_27 : decode cX1_copyFrom 27 = .ok (.getfield 18, 3) := by decide +kernel
theorem dX1_copyFrom_30 : decode cX1_copyFrom 30 = .ok (.invokestatic 27, 3) := by decide +kernel
theorem dX1_copyFrom_33 : decode cX1_copyFrom 33 = .ok (.aload_n 1, 1) := by decide +kernel
theorem dX1_copyFrom_34 : decode cX1_copyFrom 34 = .ok (.getfield 21, 3) := by decide +kernel
theorem dX1_copyFrom_37 : decode cX1_copyFrom 37 = .ok (.aload_n 0, 1) := by decide +kernel
theorem dX1_copyFrom_38 : decode cX1_copyFrom 38 = .ok (.getfield 21, 3) := by decide +kernel
theorem dX1_copyFrom_41 : decode cX1_copyFrom 41 = .ok (.invokestatic 27, 3) := by decide +kernel
theorem dX1_copyFrom_44 : decode cX1_copyFrom 44 = .ok (.aload_n 1, 1) := by decide +kernel
theorem dX1_copyFrom_45 : decode cX1_copyFrom 45 = .ok (.getfield 24, 3) := by decide +kernel
theorem dX1_copyFrom_48 : decode cX1_copyFrom 48 = .ok (.aload_n 0, 1) := by decide +kernel
theorem dX1_copyFrom_49 : decode cX1_copyFrom 49 = .ok (.getfield 24, 3) := by decide +kernel
theorem dX1_copyFrom_52 : decode cX1_copyFrom 52 = .ok (.invokestatic 27, 3) := by decide +kernel
theorem dX1_copyFrom_55 : decode cX1_copyFrom 55 = .ok (.aload_n 0, 1) := by decide +kernel
theorem dX1_copyFrom_56 : decode cX1_copyFrom 56 = .ok (.aload_n 1, 1) := by decide +kernel
theorem dX1_copyFrom_57 : decode cX1_copyFrom 57 = .ok (.getfield 31, 3) := by decide +kernel
theorem dX1_copyFrom_60 : decode cX1_copyFrom 60 = .ok (.putfield 31, 3) := by decide +kernel
theorem dX1_copyFrom_63 : decode cX1_copyFrom 63 = .ok (.return_, 1) := by decide +kernel
theorem dX1_size_0 : decode cX1_size 0 = .ok (.aload_n 0, 1) := by decide +kernel
theorem dX1_size_1 : decode cX1_size 1 = .ok (.getfield 31, 3) := by decide +kernel
theorem dX1_size_4 : decode cX1_size 4 = .ok (.ireturn, 1) := by decide +kernel
theorem dX1_isFull_0 : decode cX1_isFull 0 = .ok (.aload_n 0, 1) := by decide +kernel
theorem dX1_isFull_1 : decode cX1_isFull 1 = .ok (.getfield 31, 3) := by decide +kernel
theorem dX1_isFull_4 : decode cX1_isFull 4 = .ok (.bipush 8, 2) := by decide +kernel
theorem dX1_isFull_6 : decode cX1_isFull 6 = .ok (.if_icmp .lt 7, 3) := by decide +kernel
theorem dX1_isFull_9 : decode cX1_isFull 9 = .ok (.iconst 1, 1) := by decide +kernel
theorem dX1_isFull_10 : decode cX1_isFull 10 = .ok (.goto 4, 3) := by decide +kernel
theorem dX1_isFull_13 : decode cX1_isFull 13 = .ok (.iconst 0, 1) := by decide +kernel
theorem dX1_isFull_14 : decode cX1_isFull 14 = .ok (.ireturn, 1) := by decide +kernel
theorem dX1_has_0 : decode cX1_has 0 = .ok (.iload_n 1, 1) := by decide +kernel
theorem dX1_has_1 : decode cX1_has 1 = .ok (.ifCond .lt 21, 3) := by decide +kernel
theorem dX1_has_4 : decode cX1_has 4 = .ok (.iload_n 1, 1) := by decide +kernel
theorem dX1_has_5 : decode cX1_has 5 = .ok (.aload_n 0, 1) := by decide +kernel
theorem dX1_has_6 : decode cX1_has 6 = .ok (.getfield 31, 3) := by decide +kernel
theorem dX1_has_9 : decode cX1_has 9 = .ok (.if_icmp .ge 13, 3) := by decide +kernel
theorem dX1_has_12 : decode cX1_has 12 = .ok (.iload_n 1, 1) := by decide +kernel
theorem dX1_has_13 : decode cX1_has 13 = .ok (.bipush 8, 2) := by decide +kernel
theorem dX1_has_15 : decode cX1_has 15 = .ok (.if_icmp .ge 7, 3) := by decide +kernel
theorem dX1_has_18 : decode cX1_has 18 = .ok (.iconst 1, 1) := by decide +kernel
theorem dX1_has_19 : decode cX1_has 19 = .ok (.goto 4, 3) := by decide +kernel
theorem dX1_has_22 : decode cX1_has 22 = .ok (.iconst 0, 1) := by decide +kernel
theorem dX1_has_23 : decode cX1_has 23 = .ok (.ireturn, 1) := by decide +kernel
theorem dX1_town_0 : decode cX1_town 0 = .ok (.aload_n 0, 1) := by decide +kernel
theorem dX1_town_1 : decode cX1_town 1 = .ok (.iload_n 1, 1) := by decide +kernel
theorem dX1_town_2 : decode cX1_town 2 = .ok (.invokevirtual 35, 3) := by decide +kernel
theorem dX1_town_5 : decode cX1_town 5 = .ok (.ifCond .eq 12, 3) := by decide +kernel
theorem dX1_town_8 : decode cX1_town 8 = .ok (.aload_n 0, 1) := by decide +kernel
theorem dX1_town_9 : decode cX1_town 9 = .ok (.getfield 9, 3) := by decide +kernel
theorem dX1_town_12 : decode cX1_town 12 = .ok (.iload_n 1, 1) := by decide +kernel
theorem dX1_town_13 : decode cX1_town 13 = .ok (.iaload, 1) := by decide +kernel
theorem dX1_town_14 : decode cX1_town 14 = .ok (.goto 4, 3) := by decide +kernel
theorem dX1_town_17 : decode cX1_town 17 = .ok (.iconst (-1), 1) := by decide +kernel
theorem dX1_town_18 : decode cX1_town 18 = .ok (.ireturn, 1) := by decide +kernel
theorem dX1_neighbour_0 : decode cX1_neighbour 0 = .ok (.aload_n 0, 1) := by decide +kernel
theorem dX1_neighbour_1 : decode cX1_neighbour 1 = .ok (.iload_n 1, 1) := by decide +kernel
theorem dX1_neighbour_2 : decode cX1_neighbour 2 = .ok (.invokevirtual 35, 3) := by decide +kernel
theorem dX1_neighbour_5 : decode cX1_neighbour 5 = .ok (.ifCond .eq 12, 3) := by decide +kernel
theorem dX1_neighbour_8 : decode cX1_neighbour 8 = .ok (.aload_n 0, 1) := by decide +kernel
theorem dX1_neighbour_9 : decode cX1_neighbour 9 = .ok (.getfield 15, 3) := by decide +kernel
theorem dX1_neighbour_12 : decode cX1_neighbour 12 = .ok (.iload_n 1, 1) := by decide +kernel
theorem dX1_neighbour_13 : decode cX1_neighbour 13 = .ok (.iaload, 1) := by decide +kernel
theorem dX1_neighbour_14 : decode cX1_neighbour 14 = .ok (.goto 4, 3) := by decide +kernel
theorem dX1_neighbour_17 : decode cX1_neighbour 17 = .ok (.iconst (-1), 1) := by decide +kernel
theorem dX1_neighbour_18 : decode cX1_neighbour 18 = .ok (.ireturn, 1) := by decide +kernel
theorem dX1_isOpen_0 : decode cX1_isOpen 0 = .ok (.aload_n 0, 1) := by decide +kernel
theorem dX1_isOpen_1 : decode cX1_isOpen 1 = .ok (.iload_n 1, 1) := by decide +kernel
theorem dX1_isOpen_2 : decode cX1_isOpen 2 = .ok (.invokevirtual 35, 3) := by decide +kernel
theorem dX1_isOpen_5 : decode cX1_isOpen 5 = .ok (.ifCond .eq 17, 3) := by decide +kernel
theorem dX1_isOpen_8 : decode cX1_isOpen 8 = .ok (.aload_n 0, 1) := by decide +kernel
theorem dX1_isOpen_9 : decode cX1_isOpen 9 = .ok (.getfield 18, 3) := by decide +kernel
theorem dX1_isOpen_12 : decode cX1_isOpen 12 = .ok (.iload_n 1, 1) := by decide +kernel
theorem dX1_isOpen_13 : decode cX1_isOpen 13 = .ok (.iaload, 1) := by decide +kernel
theorem dX1_isOpen_14 : decode cX1_isOpen 14 = .ok (.iconst 1, 1) := by decide +kernel
theorem dX1_isOpen_15 : decode cX1_isOpen 15 = .ok (.if_icmp .ne 7, 3) := by decide +kernel
theorem dX1_isOpen_18 : decode cX1_isOpen 18 = .ok (.iconst 1, 1) := by decide +kernel
theorem dX1_isOpen_19 : decode cX1_isOpen 19 = .ok (.goto 4, 3) := by decide +kernel
theorem dX1_isOpen_22 : decode cX1_isOpen 22 = .ok (.iconst 0, 1) := by decide +kernel
theorem dX1_isOpen_23 : decode cX1_isOpen 23 = .ok (.ireturn, 1) := by decide +kernel
theorem dX1_loaves_0 : decode cX1_loaves 0 = .ok (.aload_n 0, 1) := by decide +kernel
theorem dX1_loaves_1 : decode cX1_loaves 1 = .ok (.iload_n 1, 1) := by decide +kernel
theorem dX1_loaves_2 : decode cX1_loaves 2 = .ok (.invokevirtual 35, 3) := by decide +kernel
theorem dX1_loaves_5 : decode cX1_loaves 5 = .ok (.ifCond .eq 12, 3) := by decide +kernel
theorem dX1_loaves_8 : decode cX1_loaves 8 = .ok (.aload_n 0, 1) := by decide +kernel
theorem dX1_loaves_9 : decode cX1_loaves 9 = .ok (.getfield 21, 3) := by decide +kernel
theorem dX1_loaves_12 : decode cX1_loaves 12 = .ok (.iload_n 1, 1) := by decide +kernel
theorem dX1_loaves_13 : decode cX1_loaves 13 = .ok (.iaload, 1) := by decide +kernel
theorem dX1_loaves_14 : decode cX1_loaves 14 = .ok (.goto 4, 3) := by decide +kernel
theorem dX1_loaves_17 : decode cX1_loaves 17 = .ok (.iconst 0, 1) := by decide +kernel
theorem dX1_loaves_18 : decode cX1_loaves 18 = .ok (.ireturn, 1) := by decide +kernel
theorem dX1_costs_0 : decode cX1_costs 0 = .ok (.aload_n 0, 1) := by decide +kernel
theorem dX1_costs_1 : decode cX1_costs 1 = .ok (.iload_n 1, 1) := by decide +kernel
theorem dX1_costs_2 : decode cX1_costs 2 = .ok (.invokevirtual 35, 3) := by decide +kernel
theorem dX1_costs_5 : decode cX1_costs 5 = .ok (.ifCond .eq 12, 3) := by decide +kernel
theorem dX1_costs_8 : decode cX1_costs 8 = .ok (.aload_n 0, 1) := by decide +kernel
theorem dX1_costs_9 : decode cX1_costs 9 = .ok (.getfield 24, 3) := by decide +kernel
theorem dX1_costs_12 : decode cX1_costs 12 = .ok (.iload_n 1, 1) := by decide +kernel
theorem dX1_costs_13 : decode cX1_costs 13 = .ok (.iaload, 1) := by decide +kernel
theorem dX1_costs_14 : decode cX1_costs 14 = .ok (.goto 4, 3) := by decide +kernel
theorem dX1_costs_17 : decode cX1_costs 17 = .ok (.iconst 0, 1) := by decide +kernel
theorem dX1_costs_18 : decode cX1_costs 18 = .ok (.ireturn, 1) := by decide +kernel
theorem dX1_openOnes_0 : decode cX1_openOnes 0 = .ok (.iconst 0, 1) := by decide +kernel
theorem dX1_openOnes_1 : decode cX1_openOnes 1 = .ok (.istore_n 1, 1) := by decide +kernel
theorem dX1_openOnes_2 : decode cX1_openOnes 2 = .ok (.iconst 0, 1) := by decide +kernel
theorem dX1_openOnes_3 : decode cX1_openOnes 3 = .ok (.istore_n 2, 1) := by decide +kernel
theorem dX1_openOnes_4 : decode cX1_openOnes 4 = .ok (.iload_n 2, 1) := by decide +kernel
theorem dX1_openOnes_5 : decode cX1_openOnes 5 = .ok (.aload_n 0, 1) := by decide +kernel
theorem dX1_openOnes_6 : decode cX1_openOnes 6 = .ok (.getfield 31, 3) := by decide +kernel
theorem dX1_openOnes_9 : decode cX1_openOnes 9 = .ok (.if_icmp .ge 25, 3) := by decide +kernel
theorem dX1_openOnes_12 : decode cX1_openOnes 12 = .ok (.iload_n 1, 1) := by decide +kernel
theorem dX1_openOnes_13 : decode cX1_openOnes 13 = .ok (.aload_n 0, 1) := by decide +kernel
theorem dX1_openOnes_14 : decode cX1_openOnes 14 = .ok (.iload_n 2, 1) := by decide +kernel
theorem dX1_openOnes_15 : decode cX1_openOnes 15 = .ok (.invokevirtual 39, 3) := by decide +kernel
theorem dX1_openOnes_18 : decode cX1_openOnes 18 = .ok (.ifCond .eq 7, 3) := by decide +kernel
theorem dX1_openOnes_21 : decode cX1_openOnes 21 = .ok (.iconst 1, 1) := by decide +kernel
theorem dX1_openOnes_22 : decode cX1_openOnes 22 = .ok (.goto 4, 3) := by decide +kernel
theorem dX1_openOnes_25 : decode cX1_openOnes 25 = .ok (.iconst 0, 1) := by decide +kernel
theorem dX1_openOnes_26 : decode cX1_openOnes 26 = .ok (.iadd, 1) := by decide +kernel
theorem dX1_openOnes_27 : decode cX1_openOnes 27 = .ok (.istore_n 1, 1) := by decide +kernel
theorem dX1_openOnes_28 : decode cX1_openOnes 28 = .ok (.iinc 2 1, 3) := by decide +kernel
theorem dX1_openOnes_31 : decode cX1_openOnes 31 = .ok (.goto (-27), 3) := by decide +kernel
theorem dX1_openOnes_34 : decode cX1_openOnes 34 = .ok (.iload_n 1, 1) := by decide +kernel
theorem dX1_openOnes_35 : decode cX1_openOnes 35 = .ok (.ireturn, 1) := by decide +kernel
theorem dX1_add_0 : decode cX1_add 0 = .ok (.aload_n 0, 1) := by decide +kernel
theorem dX1_add_1 : decode cX1_add 1 = .ok (.getfield 31, 3) := by decide +kernel
theorem dX1_add_4 : decode cX1_add 4 = .ok (.istore_n 3, 1) := by decide +kernel
theorem dX1_add_5 : decode cX1_add 5 = .ok (.iload_n 3, 1) := by decide +kernel
theorem dX1_add_6 : decode cX1_add 6 = .ok (.ifCond .lt 9, 3) := by decide +kernel
theorem dX1_add_9 : decode cX1_add 9 = .ok (.iload_n 3, 1) := by decide +kernel
theorem dX1_add_10 : decode cX1_add 10 = .ok (.bipush 8, 2) := by decide +kernel
theorem dX1_add_12 : decode cX1_add 12 = .ok (.if_icmp .lt 5, 3) := by decide +kernel
theorem dX1_add_15 : decode cX1_add 15 = .ok (.iconst (-1), 1) := by decide +kernel
theorem dX1_add_16 : decode cX1_add 16 = .ok (.ireturn, 1) := by decide +kernel
theorem dX1_add_17 : decode cX1_add 17 = .ok (.aload_n 0, 1) := by decide +kernel
theorem dX1_add_18 : decode cX1_add 18 = .ok (.getfield 9, 3) := by decide +kernel
theorem dX1_add_21 : decode cX1_add 21 = .ok (.iload_n 3, 1) := by decide +kernel
theorem dX1_add_22 : decode cX1_add 22 = .ok (.iload_n 1, 1) := by decide +kernel
theorem dX1_add_23 : decode cX1_add 23 = .ok (.iastore, 1) := by decide +kernel
theorem dX1_add_24 : decode cX1_add 24 = .ok (.aload_n 0, 1) := by decide +kernel
theorem dX1_add_25 : decode cX1_add 25 = .ok (.getfield 15, 3) := by decide +kernel
theorem dX1_add_28 : decode cX1_add 28 = .ok (.iload_n 3, 1) := by decide +kernel
theorem dX1_add_29 : decode cX1_add 29 = .ok (.iload_n 2, 1) := by decide +kernel
theorem dX1_add_30 : decode cX1_add 30 = .ok (.iastore, 1) := by decide +kernel
theorem dX1_add_31 : decode cX1_add 31 = .ok (.aload_n 0, 1) := by decide +kernel
theorem dX1_add_32 : decode cX1_add 32 = .ok (.getfield 18, 3) := by decide +kernel
theorem dX1_add_35 : decode cX1_add 35 = .ok (.iload_n 3, 1) := by decide +kernel
theorem dX1_add_36 : decode cX1_add 36 = .ok (.iconst 1, 1) := by decide +kernel
theorem dX1_add_37 : decode cX1_add 37 = .ok (.iastore, 1) := by decide +kernel
theorem dX1_add_38 : decode cX1_add 38 = .ok (.aload_n 0, 1) := by decide +kernel
theorem dX1_add_39 : decode cX1_add 39 = .ok (.iload_n 3, 1) := by decide +kernel
theorem dX1_add_40 : decode cX1_add 40 = .ok (.iconst 1, 1) := by decide +kernel
theorem dX1_add_41 : decode cX1_add 41 = .ok (.iadd, 1) := by decide +kernel
theorem dX1_add_42 : decode cX1_add 42 = .ok (.putfield 31, 3) := by decide +kernel
theorem dX1_add_45 : decode cX1_add 45 = .ok (.iload_n 3, 1) := by decide +kernel
theorem dX1_add_46 : decode cX1_add 46 = .ok (.ireturn, 1) := by decide +kernel
theorem dX1_flip_0 : decode cX1_flip 0 = .ok (.aload_n 0, 1) := by decide +kernel
theorem dX1_flip_1 : decode cX1_flip 1 = .ok (.iload_n 1, 1) := by decide +kernel
theorem dX1_flip_2 : decode cX1_flip 2 = .ok (.invokevirtual 35, 3) := by decide +kernel
theorem dX1_flip_5 : decode cX1_flip 5 = .ok (.ifCond .eq 17, 3) := by decide +kernel
theorem dX1_flip_8 : decode cX1_flip 8 = .ok (.aload_n 0, 1) := by decide +kernel
theorem dX1_flip_9 : decode cX1_flip 9 = .ok (.getfield 18, 3) := by decide +kernel
theorem dX1_flip_12 : decode cX1_flip 12 = .ok (.iload_n 1, 1) := by decide +kernel
theorem dX1_flip_13 : decode cX1_flip 13 = .ok (.iconst 1, 1) := by decide +kernel
theorem dX1_flip_14 : decode cX1_flip 14 = .ok (.aload_n 0, 1) := by decide +kernel
theorem dX1_flip_15 : decode cX1_flip 15 = .ok (.getfield 18, 3) := by decide +kernel
theorem dX1_flip_18 : decode cX1_flip 18 = .ok (.iload_n 1, 1) := by decide +kernel
theorem dX1_flip_19 : decode cX1_flip 19 = .ok (.iaload, 1) := by decide +kernel
theorem dX1_flip_20 : decode cX1_flip 20 = .ok (.isub, 1) := by decide +kernel
theorem dX1_flip_21 : decode cX1_flip 21 = .ok (.iastore, 1) := by decide +kernel
theorem dX1_flip_22 : decode cX1_flip 22 = .ok (.return_, 1) := by decide +kernel
theorem dX1_takeLoaf_0 : decode cX1_takeLoaf 0 = .ok (.aload_n 0, 1) := by decide +kernel
theorem dX1_takeLoaf_1 : decode cX1_takeLoaf 1 = .ok (.iload_n 1, 1) := by decide +kernel
theorem dX1_takeLoaf_2 : decode cX1_takeLoaf 2 = .ok (.invokevirtual 35, 3) := by decide +kernel
theorem dX1_takeLoaf_5 : decode cX1_takeLoaf 5 = .ok (.ifCond .eq 23, 3) := by decide +kernel
theorem dX1_takeLoaf_8 : decode cX1_takeLoaf 8 = .ok (.aload_n 0, 1) := by decide +kernel
theorem dX1_takeLoaf_9 : decode cX1_takeLoaf 9 = .ok (.getfield 21, 3) := by decide +kernel
theorem dX1_takeLoaf_12 : decode cX1_takeLoaf 12 = .ok (.iload_n 1, 1) := by decide +kernel
theorem dX1_takeLoaf_13 : decode cX1_takeLoaf 13 = .ok (.dup2, 1) := by decide +kernel
theorem dX1_takeLoaf_14 : decode cX1_takeLoaf 14 = .ok (.iaload, 1) := by decide +kernel
theorem dX1_takeLoaf_15 : decode cX1_takeLoaf 15 = .ok (.iconst 1, 1) := by decide +kernel
theorem dX1_takeLoaf_16 : decode cX1_takeLoaf 16 = .ok (.iadd, 1) := by decide +kernel
theorem dX1_takeLoaf_17 : decode cX1_takeLoaf 17 = .ok (.iastore, 1) := by decide +kernel
theorem dX1_takeLoaf_18 : decode cX1_takeLoaf 18 = .ok (.aload_n 0, 1) := by decide +kernel
theorem dX1_takeLoaf_19 : decode cX1_takeLoaf 19 = .ok (.getfield 24, 3) := by decide +kernel
theorem dX1_takeLoaf_22 : decode cX1_takeLoaf 22 = .ok (.iload_n 1, 1) := by decide +kernel
theorem dX1_takeLoaf_23 : decode cX1_takeLoaf 23 = .ok (.dup2, 1) := by decide +kernel
theorem dX1_takeLoaf_24 : decode cX1_takeLoaf 24 = .ok (.iaload, 1) := by decide +kernel
theorem dX1_takeLoaf_25 : decode cX1_takeLoaf 25 = .ok (.iload_n 2, 1) := by decide +kernel
theorem dX1_takeLoaf_26 : decode cX1_takeLoaf 26 = .ok (.iadd, 1) := by decide +kernel
theorem dX1_takeLoaf_27 : decode cX1_takeLoaf 27 = .ok (.iastore, 1) := by decide +kernel
theorem dX1_takeLoaf_28 : decode cX1_takeLoaf 28 = .ok (.return_, 1) := by decide +kernel
theorem dX2_init_0 : decode cX2_init 0 = .ok (.aload_n 0, 1) := by decide +kernel
theorem dX2_init_1 : decode cX2_init 1 = .ok (.invokespecial 3, 3) := by decide +kernel
theorem dX2_init_4 : decode cX2_init 4 = .ok (.aload_n 0, 1) := by decide +kernel
theorem dX2_init_5 : decode cX2_init 5 = .ok (.new 9, 3) := by decide +kernel
theorem dX2_init_8 : decode cX2_init 8 = .ok (.dup, 1) := by decide +kernel
theorem dX2_init_9 : decode cX2_init 9 = .ok (.bipush 6, 2) := by decide +kernel
theorem dX2_init_11 : decode cX2_init 11 = .ok (.invokespecial 11, 3) := by decide +kernel
theorem dX2_init_14 : decode cX2_init 14 = .ok (.putfield 14, 3) := by decide +kernel
theorem dX2_init_17 : decode cX2_init 17 = .ok (.return_, 1) := by decide +kernel
theorem dX2_size_0 : decode cX2_size 0 = .ok (.aload_n 0, 1) := by decide +kernel
theorem dX2_size_1 : decode cX2_size 1 = .ok (.getfield 20, 3) := by decide +kernel
theorem dX2_size_4 : decode cX2_size 4 = .ok (.ireturn, 1) := by decide +kernel
theorem dX2_save_0 : decode cX2_save 0 = .ok (.aload_n 0, 1) := by decide +kernel
theorem dX2_save_1 : decode cX2_save 1 = .ok (.getfield 14, 3) := by decide +kernel
theorem dX2_save_4 : decode cX2_save 4 = .ok (.aload_n 0, 1) := by decide +kernel
theorem dX2_save_5 : decode cX2_save 5 = .ok (.getfield 24, 3) := by decide +kernel
theorem dX2_save_8 : decode cX2_save 8 = .ok (.aload_n 0, 1) := by decide +kernel
theorem dX2_save_9 : decode cX2_save 9 = .ok (.getfield 20, 3) := by decide +kernel
theorem dX2_save_12 : decode cX2_save 12 = .ok (.iadd, 1) := by decide +kernel
theorem dX2_save_13 : decode cX2_save 13 = .ok (.bipush 6, 2) := by decide +kernel
theorem dX2_save_15 : decode cX2_save 15 = .ok (.irem, 1) := by decide +kernel
theorem dX2_save_16 : decode cX2_save 16 = .ok (.aload_n 1, 1) := by decide +kernel
theorem dX2_save_17 : decode cX2_save 17 = .ok (.invokevirtual 27, 3) := by decide +kernel
theorem dX2_save_20 : decode cX2_save 20 = .ok (.aload_n 0, 1) := by decide +kernel
theorem dX2_save_21 : decode cX2_save 21 = .ok (.getfield 20, 3) := by decide +kernel
theorem dX2_save_24 : decode cX2_save 24 = .ok (.bipush 6, 2) := by decide +kernel
theorem dX2_save_26 : decode cX2_save 26 = .ok (.if_icmp .ge 16, 3) := by decide +kernel
theorem dX2_save_29 : decode cX2_save 29 = .ok (.aload_n 0, 1) := by decide +kernel
theorem dX2_save_30 : decode cX2_save 30 = .ok (.dup, 1) := by decide +kernel
theorem dX2_save_31 : decode cX2_save 31 = .ok (.getfield 20, 3) := by decide +kernel
theorem dX2_save_34 : decode cX2_save 34 = .ok (.iconst 1, 1) := by decide +kernel
theorem dX2_save_35 : decode cX2_save 35 = .ok (.iadd, 1) := by decide +kernel
theorem dX2_save_36 : decode cX2_save 36 = .ok (.putfield 20, 3) := by decide +kernel
theorem dX2_save_39 : decode cX2_save 39 = .ok (.goto 16, 3) := by decide +kernel
theorem dX2_save_42 : decode cX2_save 42 = .ok (.aload_n 0, 1) := by decide +kernel
theorem dX2_save_43 : decode cX2_save 43 = .ok (.aload_n 0, 1) := by decide +kernel
theorem dX2_save_44 : decode cX2_save 44 = .ok (.getfield 24, 3) := by decide +kernel
theorem dX2_save_47 : decode cX2_save 47 = .ok (.iconst 1, 1) := by decide +kernel
theorem dX2_save_48 : decode cX2_save 48 = .ok (.iadd, 1) := by decide +kernel
theorem dX2_save_49 : decode cX2_save 49 = .ok (.bipush 6, 2) := by decide +kernel
theorem dX2_save_51 : decode cX2_save 51 = .ok (.irem, 1) := by decide +kernel
theorem dX2_save_52 : decode cX2_save 52 = .ok (.putfield 24, 3) := by decide +kernel
theorem dX2_save_55 : decode cX2_save 55 = .ok (.return_, 1) := by decide +kernel
theorem dX2_restore_0 : decode cX2_restore 0 = .ok (.aload_n 0, 1) := by decide +kernel
theorem dX2_restore_1 : decode cX2_restore 1 = .ok (.getfield 20, 3) := by decide +kernel
theorem dX2_restore_4 : decode cX2_restore 4 = .ok (.ifCond .le 33, 3) := by decide +kernel
theorem dX2_restore_7 : decode cX2_restore 7 = .ok (.aload_n 0, 1) := by decide +kernel
theorem dX2_restore_8 : decode cX2_restore 8 = .ok (.dup, 1) := by decide +kernel
theorem dX2_restore_9 : decode cX2_restore 9 = .ok (.getfield 20, 3) := by decide +kernel
theorem dX2_restore_12 : decode cX2_restore 12 = .ok (.iconst 1, 1) := by decide +kernel
theorem dX2_restore_13 : decode cX2_restore 13 = .ok (.isub, 1) := by decide +kernel
theorem dX2_restore_14 : decode cX2_restore 14 = .ok (.putfield 20, 3) := by decide +kernel
theorem dX2_restore_17 : decode cX2_restore 17 = .ok (.aload_n 0, 1) := by decide +kernel
theorem dX2_restore_18 : decode cX2_restore 18 = .ok (.getfield 14, 3) := by decide +kernel
theorem dX2_restore_21 : decode cX2_restore 21 = .ok (.aload_n 0, 1) := by decide +kernel
theorem dX2_restore_22 : decode cX2_restore 22 = .ok (.getfield 24, 3) := by decide +kernel
theorem dX2_restore_25 : decode cX2_restore 25 = .ok (.aload_n 0, 1) := by decide +kernel
theorem dX2_restore_26 : decode cX2_restore 26 = .ok (.getfield 20, 3) := by decide +kernel
theorem dX2_restore_29 : decode cX2_restore 29 = .ok (.iadd, 1) := by decide +kernel
theorem dX2_restore_30 : decode cX2_restore 30 = .ok (.bipush 6, 2) := by decide +kernel
theorem dX2_restore_32 : decode cX2_restore 32 = .ok (.irem, 1) := by decide +kernel
theorem dX2_restore_33 : decode cX2_restore 33 = .ok (.aload_n 1, 1) := by decide +kernel
theorem dX2_restore_34 : decode cX2_restore 34 = .ok (.invokevirtual 31, 3) := by decide +kernel
theorem dX2_restore_37 : decode cX2_restore 37 = .ok (.return_, 1) := by decide +kernel
theorem dX3_init_0 : decode cX3_init 0 = .ok (.aload_n 0, 1) := by decide +kernel
theorem dX3_init_1 : decode cX3_init 1 = .ok (.invokespecial 3, 3) := by decide +kernel
theorem dX3_init_4 : decode cX3_init 4 = .ok (.aload_n 0, 1) := by decide +kernel
theorem dX3_init_5 : decode cX3_init 5 = .ok (.new 9, 3) := by decide +kernel
theorem dX3_init_8 : decode cX3_init 8 = .ok (.dup, 1) := by decide +kernel
theorem dX3_init_9 : decode cX3_init 9 = .ok (.invokespecial 11, 3) := by decide +kernel
theorem dX3_init_12 : decode cX3_init 12 = .ok (.putfield 12, 3) := by decide +kernel
theorem dX3_init_15 : decode cX3_init 15 = .ok (.aload_n 0, 1) := by decide +kernel
theorem dX3_init_16 : decode cX3_init 16 = .ok (.new 18, 3) := by decide +kernel
theorem dX3_init_19 : decode cX3_init 19 = .ok (.dup, 1) := by decide +kernel
theorem dX3_init_20 : decode cX3_init 20 = .ok (.invokespecial 20, 3) := by decide +kernel
theorem dX3_init_23 : decode cX3_init 23 = .ok (.putfield 21, 3) := by decide +kernel
theorem dX3_init_26 : decode cX3_init 26 = .ok (.aload_n 0, 1) := by decide +kernel
theorem dX3_init_27 : decode cX3_init 27 = .ok (.new 25, 3) := by decide +kernel
theorem dX3_init_30 : decode cX3_init 30 = .ok (.dup, 1) := by decide +kernel
theorem dX3_init_31 : decode cX3_init 31 = .ok (.invokespecial 27, 3) := by decide +kernel
theorem dX3_init_34 : decode cX3_init 34 = .ok (.putfield 28, 3) := by decide +kernel
theorem dX3_init_37 : decode cX3_init 37 = .ok (.aload_n 0, 1) := by decide +kernel
theorem dX3_init_38 : decode cX3_init 38 = .ok (.iconst 2, 1) := by decide +kernel
theorem dX3_init_39 : decode cX3_init 39 = .ok (.newarray .int, 2) := by decide +kernel
theorem dX3_init_41 : decode cX3_init 41 = .ok (.putfield 32, 3) := by decide +kernel
theorem dX3_init_44 : decode cX3_init 44 = .ok (.aload_n 0, 1) := by decide +kernel
theorem dX3_init_45 : decode cX3_init 45 = .ok (.bipush 32, 2) := by decide +kernel
theorem dX3_init_47 : decode cX3_init 47 = .ok (.newarray .int, 2) := by decide +kernel
theorem dX3_init_49 : decode cX3_init 49 = .ok (.putfield 36, 3) := by decide +kernel
theorem dX3_init_52 : decode cX3_init 52 = .ok (.return_, 1) := by decide +kernel
theorem dX3_copyFrom_0 : decode cX3_copyFrom 0 = .ok (.aload_n 0, 1) := by decide +kernel
theorem dX3_copyFrom_1 : decode cX3_copyFrom 1 = .ok (.getfield 12, 3) := by decide +kernel
theorem dX3_copyFrom_4 : decode cX3_copyFrom 4 = .ok (.aload_n 1, 1) := by decide +kernel
theorem dX3_copyFrom_5 : decode cX3_copyFrom 5 = .ok (.getfield 12, 3) := by decide +kernel
theorem dX3_copyFrom_8 : decode cX3_copyFrom 8 = .ok (.invokevirtual 39, 3) := by decide +kernel
theorem dX3_copyFrom_11 : decode cX3_copyFrom 11 = .ok (.aload_n 0, 1) := by decide +kernel
theorem dX3_copyFrom_12 : decode cX3_copyFrom 12 = .ok (.getfield 21, 3) := by decide +kernel
theorem dX3_copyFrom_15 : decode cX3_copyFrom 15 = .ok (.aload_n 1, 1) := by decide +kernel
theorem dX3_copyFrom_16 : decode cX3_copyFrom 16 = .ok (.getfield 21, 3) := by decide +kernel
theorem dX3_copyFrom_19 : decode cX3_copyFrom 19 = .ok (.invokevirtual 43, 3) := by decide +kernel
theorem dX3_copyFrom_22 : decode cX3_copyFrom 22 = .ok (.aload_n 0, 1) := by decide +kernel
theorem dX3_copyFrom_23 : decode cX3_copyFrom 23 = .ok (.getfield 28, 3) := by decide +kernel
theorem dX3_copyFrom_26 : decode cX3_copyFrom 26 = .ok (.aload_n 1, 1) := by decide +kernel
theorem dX3_copyFrom_27 : decode cX3_copyFrom 27 = .ok (.getfield 28, 3) := by decide +kernel
theorem dX3_copyFrom_30 : decode cX3_copyFrom 30 = .ok (.invokevirtual 46, 3) := by decide +kernel
theorem dX3_copyFrom_33 : decode cX3_copyFrom 33 = .ok (.aload_n 1, 1) := by decide +kernel
theorem dX3_copyFrom_34 : decode cX3_copyFrom 34 = .ok (.getfield 32, 3) := by decide +kernel
theorem dX3_copyFrom_37 : decode cX3_copyFrom 37 = .ok (.aload_n 0, 1) := by decide +kernel
theorem dX3_copyFrom_38 : decode cX3_copyFrom 38 = .ok (.getfield 32, 3) := by decide +kernel
theorem dX3_copyFrom_41 : decode cX3_copyFrom 41 = .ok (.invokestatic 49, 3) := by decide +kernel
theorem dX3_copyFrom_44 : decode cX3_copyFrom 44 = .ok (.aload_n 1, 1) := by decide +kernel
theorem dX3_copyFrom_45 : decode cX3_copyFrom 45 = .ok (.getfield 36, 3) := by decide +kernel
theorem dX3_copyFrom_48 : decode cX3_copyFrom 48 = .ok (.aload_n 0, 1) := by decide +kernel
theorem dX3_copyFrom_49 : decode cX3_copyFrom 49 = .ok (.getfield 36, 3) := by decide +kernel
theorem dX3_copyFrom_52 : decode cX3_copyFrom 52 = .ok (.invokestatic 49, 3) := by decide +kernel
theorem dX3_copyFrom_55 : decode cX3_copyFrom 55 = .ok (.aload_n 0, 1) := by decide +kernel
theorem dX3_copyFrom_56 : decode cX3_copyFrom 56 = .ok (.aload_n 1, 1) := by decide +kernel
theorem dX3_copyFrom_57 : decode cX3_copyFrom 57 = .ok (.getfield 53, 3) := by decide +kernel
theorem dX3_copyFrom_60 : decode cX3_copyFrom 60 = .ok (.putfield 53, 3) := by decide +kernel
theorem dX3_copyFrom_63 : decode cX3_copyFrom 63 = .ok (.aload_n 0, 1) := by decide +kernel
theorem dX3_copyFrom_64 : decode cX3_copyFrom 64 = .ok (.aload_n 1, 1) := by decide +kernel
theorem dX3_copyFrom_65 : decode cX3_copyFrom 65 = .ok (.getfield 57, 3) := by decide +kernel
theorem dX3_copyFrom_68 : decode cX3_copyFrom 68 = .ok (.putfield 57, 3) := by decide +kernel
theorem dX3_copyFrom_71 : decode cX3_copyFrom 71 = .ok (.aload_n 0, 1) := by decide +kernel
theorem dX3_copyFrom_72 : decode cX3_copyFrom 72 = .ok (.aload_n 1, 1) := by decide +kernel
theorem dX3_copyFrom_73 : decode cX3_copyFrom 73 = .ok (.getfield 60, 3) := by decide +kernel
theorem dX3_copyFrom_76 : decode cX3_copyFrom 76 = .ok (.putfield 60, 3) := by decide +kernel
theorem dX3_copyFrom_79 : decode cX3_copyFrom 79 = .ok (.return_, 1) := by decide +kernel
theorem dX3_setting_0 : decode cX3_setting 0 = .ok (.iload_n 1, 1) := by decide +kernel
theorem dX3_setting_1 : decode cX3_setting 1 = .ok (.ifCond .lt 17, 3) := by decide +kernel
theorem dX3_setting_4 : decode cX3_setting 4 = .ok (.iload_n 1, 1) := by decide +kernel
theorem dX3_setting_5 : decode cX3_setting 5 = .ok (.iconst 2, 1) := by decide +kernel
theorem dX3_setting_6 : decode cX3_setting 6 = .ok (.if_icmp .ge 12, 3) := by decide +kernel
theorem dX3_setting_9 : decode cX3_setting 9 = .ok (.aload_n 0, 1) := by decide +kernel
theorem dX3_setting_10 : decode cX3_setting 10 = .ok (.getfield 32, 3) := by decide +kernel
theorem dX3_setting_13 : decode cX3_setting 13 = .ok (.iload_n 1, 1) := by decide +kernel
theorem dX3_setting_14 : decode cX3_setting 14 = .ok (.iaload, 1) := by decide +kernel
theorem dX3_setting_15 : decode cX3_setting 15 = .ok (.goto 4, 3) := by decide +kernel
theorem dX3_setting_18 : decode cX3_setting 18 = .ok (.iconst 0, 1) := by decide +kernel
theorem dX3_setting_19 : decode cX3_setting 19 = .ok (.ireturn, 1) := by decide +kernel
theorem dX3_changeSetting_0 : decode cX3_changeSetting 0 = .ok (.aload_n 0, 1) := by decide +kernel
theorem dX3_changeSetting_1 : decode cX3_changeSetting 1 = .ok (.iload_n 1, 1) := by decide +kernel
theorem dX3_changeSetting_2 : decode cX3_changeSetting 2 = .ok (.invokevirtual 63, 3) := by decide +kernel
theorem dX3_changeSetting_5 : decode cX3_changeSetting 5 = .ok (.istore_n 3, 1) := by decide +kernel
theorem dX3_changeSetting_6 : decode cX3_changeSetting 6 = .ok (.iload_n 1, 1) := by decide +kernel
theorem dX3_changeSetting_7 : decode cX3_changeSetting 7 = .ok (.ifCond .lt 15, 3) := by decide +kernel
theorem dX3_changeSetting_10 : decode cX3_changeSetting 10 = .ok (.iload_n 1, 1) := by decide +kernel
theorem dX3_changeSetting_11 : decode cX3_changeSetting 11 = .ok (.iconst 2, 1) := by decide +kernel
theorem dX3_changeSetting_12 : decode cX3_changeSetting 12 = .ok (.if_icmp .ge 10, 3) := by decide +kernel
theorem dX3_changeSetting_15 : decode cX3_changeSetting 15 = .ok (.aload_n 0, 1) := by decide +kernel
theorem dX3_changeSetting_16 : decode cX3_changeSetting 16 = .ok (.getfield 32, 3) := by decide +kernel
theorem dX3_changeSetting_19 : decode cX3_changeSetting 19 = .ok (.iload_n 1, 1) := by decide +kernel
theorem dX3_changeSetting_20 : decode cX3_changeSetting 20 = .ok (.iload_n 2, 1) := by decide +kernel
theorem dX3_changeSetting_21 : decode cX3_changeSetting 21 = .ok (.iastore, 1) := by decide +kernel
theorem dX3_changeSetting_22 : decode cX3_changeSetting 22 = .ok (.iload_n 3, 1) := by decide +kernel
theorem dX3_changeSetting_23 : decode cX3_changeSetting 23 = .ok (.ireturn, 1) := by decide +kernel
theorem dX3_loavesOut_0 : decode cX3_loavesOut 0 = .ok (.iload_n 1, 1) := by decide +kernel
theorem dX3_loavesOut_1 : decode cX3_loavesOut 1 = .ok (.invokestatic 67, 3) := by decide +kernel
theorem dX3_loavesOut_4 : decode cX3_loavesOut 4 = .ok (.ifCond .eq 23, 3) := by decide +kernel
theorem dX3_loavesOut_7 : decode cX3_loavesOut 7 = .ok (.iload_n 2, 1) := by decide +kernel
theorem dX3_loavesOut_8 : decode cX3_loavesOut 8 = .ok (.invokestatic 71, 3) := by decide +kernel
theorem dX3_loavesOut_11 : decode cX3_loavesOut 11 = .ok (.ifCond .eq 16, 3) := by decide +kernel
theorem dX3_loavesOut_14 : decode cX3_loavesOut 14 = .ok (.aload_n 0, 1) := by decide +kernel
theorem dX3_loavesOut_15 : decode cX3_loavesOut 15 = .ok (.getfield 36, 3) := by decide +kernel
theorem dX3_loavesOut_18 : decode cX3_loavesOut 18 = .ok (.iload_n 1, 1) := by decide +kernel
theorem dX3_loavesOut_19 : decode cX3_loavesOut 19 = .ok (.iconst 4, 1) := by decide +kernel
theorem dX3_loavesOut_20 : decode cX3_loavesOut 20 = .ok (.imul, 1) := by decide +kernel
theorem dX3_loavesOut_21 : decode cX3_loavesOut 21 = .ok (.iload_n 2, 1) := by decide +kernel
theorem dX3_loavesOut_22 : decode cX3_loavesOut 22 = .ok (.iadd, 1) := by decide +kernel
theorem dX3_loavesOut_23 : decode cX3_loavesOut 23 = .ok (.iaload, 1) := by decide +kernel
theorem dX3_loavesOut_24 : decode cX3_loavesOut 24 = .ok (.goto 4, 3) := by decide +kernel
theorem dX3_loavesOut_27 : decode cX3_loavesOut 27 = .ok (.iconst 0, 1) := by decide +kernel
theorem dX3_loavesOut_28 : decode cX3_loavesOut 28 = .ok (.ireturn, 1) := by decide +kernel
theorem dX3_takeLoaf_0 : decode cX3_takeLoaf 0 = .ok (.aload_n 0, 1) := by decide +kernel
theorem dX3_takeLoaf_1 : decode cX3_takeLoaf 1 = .ok (.dup, 1) := by decide +kernel
theorem dX3_takeLoaf_2 : decode cX3_takeLoaf 2 = .ok (.getfield 53, 3) := by decide +kernel
theorem dX3_takeLoaf_5 : decode cX3_takeLoaf 5 = .ok (.iconst 1, 1) := by decide +kernel
theorem dX3_takeLoaf_6 : decode cX3_takeLoaf 6 = .ok (.iadd, 1) := by decide +kernel
theorem dX3_takeLoaf_7 : decode cX3_takeLoaf 7 = .ok (.putfield 53, 3) := by decide +kernel
theorem dX3_takeLoaf_10 : decode cX3_takeLoaf 10 = .ok (.iload_n 3, 1) := by decide +kernel
theorem dX3_takeLoaf_11 : decode cX3_takeLoaf 11 = .ok (.iconst (-1), 1) := by decide +kernel
theorem dX3_takeLoaf_12 : decode cX3_takeLoaf 12 = .ok (.if_icmp .ne 14, 3) := by decide +kernel
theorem dX3_takeLoaf_15 : decode cX3_takeLoaf 15 = .ok (.aload_n 0, 1) := by decide +kernel
theorem dX3_takeLoaf_16 : decode cX3_takeLoaf 16 = .ok (.dup, 1) := by decide +kernel
theorem dX3_takeLoaf_17 : decode cX3_takeLoaf 17 = .ok (.getfield 57, 3) := by decide +kernel
theorem dX3_takeLoaf_20 : decode cX3_takeLoaf 20 = .ok (.iconst 1, 1) := by decide +kernel
theorem dX3_takeLoaf_21 : decode cX3_takeLoaf 21 = .ok (.iadd, 1) := by decide +kernel
theorem dX3_takeLoaf_22 : decode cX3_takeLoaf 22 = .ok (.putfield 57, 3) := by decide +kernel
theorem dX3_takeLoaf_25 : decode cX3_takeLoaf 25 = .ok (.return_, 1) := by decide +kernel
theorem dX3_takeLoaf_26 : decode cX3_takeLoaf 26 = .ok (.aload_n 0, 1) := by decide +kernel
theorem dX3_takeLoaf_27 : decode cX3_takeLoaf 27 = .ok (.dup, 1) := by decide +kernel
theorem dX3_takeLoaf_28 : decode cX3_takeLoaf 28 = .ok (.getfield 60, 3) := by decide +kernel
theorem dX3_takeLoaf_31 : decode cX3_takeLoaf 31 = .ok (.iload 4, 2) := by decide +kernel
theorem dX3_takeLoaf_33 : decode cX3_takeLoaf 33 = .ok (.iadd, 1) := by decide +kernel
theorem dX3_takeLoaf_34 : decode cX3_takeLoaf 34 = .ok (.putfield 60, 3) := by decide +kernel
theorem dX3_takeLoaf_37 : decode cX3_takeLoaf 37 = .ok (.aload_n 0, 1) := by decide +kernel
theorem dX3_takeLoaf_38 : decode cX3_takeLoaf 38 = .ok (.getfield 21, 3) := by decide +kernel
theorem dX3_takeLoaf_41 : decode cX3_takeLoaf 41 = .ok (.iload_n 3, 1) := by decide +kernel
theorem dX3_takeLoaf_42 : decode cX3_takeLoaf 42 = .ok (.iload 4, 2) := by decide +kernel
theorem dX3_takeLoaf_44 : decode cX3_takeLoaf 44 = .ok (.invokevirtual 74, 3) := by decide +kernel
theorem dX3_takeLoaf_47 : decode cX3_takeLoaf 47 = .ok (.aload_n 0, 1) := by decide +kernel
theorem dX3_takeLoaf_48 : decode cX3_takeLoaf 48 = .ok (.getfield 28, 3) := by decide +kernel
theorem dX3_takeLoaf_51 : decode cX3_takeLoaf 51 = .ok (.aload_n 0, 1) := by decide +kernel
theorem dX3_takeLoaf_52 : decode cX3_takeLoaf 52 = .ok (.getfield 21, 3) := by decide +kernel
theorem dX3_takeLoaf_55 : decode cX3_takeLoaf 55 = .ok (.iload_n 3, 1) := by decide +kernel
theorem dX3_takeLoaf_56 : decode cX3_takeLoaf 56 = .ok (.invokevirtual 78, 3) := by decide +kernel
theorem dX3_takeLoaf_59 : decode cX3_takeLoaf 59 = .ok (.invokevirtual 81, 3) := by decide +kernel
theorem dX3_takeLoaf_62 : decode cX3_takeLoaf 62 = .ok (.iload_n 1, 1) := by decide +kernel
theorem dX3_takeLoaf_63 : decode cX3_takeLoaf 63 = .ok (.invokestatic 67, 3) := by decide +kernel
theorem dX3_takeLoaf_66 : decode cX3_takeLoaf 66 = .ok (.ifCond .eq 24, 3) := by decide +kernel
theorem dX3_takeLoaf_69 : decode cX3_takeLoaf 69 = .ok (.iload_n 2, 1) := by decide +kernel
theorem dX3_takeLoaf_70 : decode cX3_takeLoaf 70 = .ok (.invokestatic 71, 3) := by decide +kernel
theorem dX3_takeLoaf_73 : decode cX3_takeLoaf 73 = .ok (.ifCond .eq 17, 3) := by decide +kernel
theorem dX3_takeLoaf_76 : decode cX3_takeLoaf 76 = .ok (.aload_n 0, 1) := by decide +kernel
theorem dX3_takeLoaf_77 : decode cX3_takeLoaf 77 = .ok (.getfield 36, 3) := by decide +kernel
theorem dX3_takeLoaf_80 : decode cX3_takeLoaf 80 = .ok (.iload_n 1, 1) := by decide +kernel
theorem dX3_takeLoaf_81 : decode cX3_takeLoaf 81 = .ok (.iconst 4, 1) := by decide +kernel
theorem dX3_takeLoaf_82 : decode cX3_takeLoaf 82 = .ok (.imul, 1) := by decide +kernel
theorem dX3_takeLoaf_83 : decode cX3_takeLoaf 83 = .ok (.iload_n 2, 1) := by decide +kernel
theorem dX3_takeLoaf_84 : decode cX3_takeLoaf 84 = .ok (.iadd, 1) := by decide +kernel
theorem dX3_takeLoaf_85 : decode cX3_takeLoaf 85 = .ok (.dup2, 1) := by decide +kernel
theorem dX3_takeLoaf_86 : decode cX3_takeLoaf 86 = .ok (.iaload, 1) := by decide +kernel
theorem dX3_takeLoaf_87 : decode cX3_takeLoaf 87 = .ok (.iconst 1, 1) := by decide +kernel
theorem dX3_takeLoaf_88 : decode cX3_takeLoaf 88 = .ok (.iadd, 1) := by decide +kernel
theorem dX3_takeLoaf_89 : decode cX3_takeLoaf 89 = .ok (.iastore, 1) := by decide +kernel
theorem dX3_takeLoaf_90 : decode cX3_takeLoaf 90 = .ok (.return_, 1) := by decide +kernel
theorem dX4_init_0 : decode cX4_init 0 = .ok (.aload_n 0, 1) := by decide +kernel
theorem dX4_init_1 : decode cX4_init 1 = .ok (.invokespecial 3, 3) := by decide +kernel
theorem dX4_init_4 : decode cX4_init 4 = .ok (.aload_n 0, 1) := by decide +kernel
theorem dX4_init_5 : decode cX4_init 5 = .ok (.bipush 8, 2) := by decide +kernel
theorem dX4_init_7 : decode cX4_init 7 = .ok (.newarray .int, 2) := by decide +kernel
theorem dX4_init_9 : decode cX4_init 9 = .ok (.putfield 9, 3) := by decide +kernel
theorem dX4_init_12 : decode cX4_init 12 = .ok (.aload_n 0, 1) := by decide +kernel
theorem dX4_init_13 : decode cX4_init 13 = .ok (.bipush 8, 2) := by decide +kernel
theorem dX4_init_15 : decode cX4_init 15 = .ok (.newarray .boolean, 2) := by decide +kernel
theorem dX4_init_17 : decode cX4_init 17 = .ok (.putfield 15, 3) := by decide +kernel
theorem dX4_init_20 : decode cX4_init 20 = .ok (.return_, 1) := by decide +kernel
theorem dX4_way_0 : decode cX4_way 0 = .ok (.aload_n 0, 1) := by decide +kernel
theorem dX4_way_1 : decode cX4_way 1 = .ok (.iload_n 2, 1) := by decide +kernel
theorem dX4_way_2 : decode cX4_way 2 = .ok (.invokevirtual 19, 3) := by decide +kernel
theorem dX4_way_5 : decode cX4_way 5 = .ok (.iconst 0, 1) := by decide +kernel
theorem dX4_way_6 : decode cX4_way 6 = .ok (.istore 4, 2) := by decide +kernel
theorem dX4_way_8 : decode cX4_way 8 = .ok (.iload 4, 2) := by decide +kernel
theorem dX4_way_10 : decode cX4_way 10 = .ok (.bipush 8, 2) := by decide +kernel
theorem dX4_way_12 : decode cX4_way 12 = .ok (.if_icmp .ge 18, 3) := by decide +kernel
theorem dX4_way_15 : decode cX4_way 15 = .ok (.aload_n 0, 1) := by decide +kernel
theorem dX4_way_16 : decode cX4_way 16 = .ok (.aload_n 1, 1) := by decide +kernel
theorem dX4_way_17 : decode cX4_way 17 = .ok (.aload_n 0, 1) := by decide +kernel
theorem dX4_way_18 : decode cX4_way 18 = .ok (.invokevirtual 23, 3) := by decide +kernel
theorem dX4_way_21 : decode cX4_way 21 = .ok (.invokevirtual 27, 3) := by decide +kernel
theorem dX4_way_24 : decode cX4_way 24 = .ok (.iinc 4 1, 3) := by decide +kernel
theorem dX4_way_27 : decode cX4_way 27 = .ok (.goto (-19), 3) := by decide +kernel
theorem dX4_way_30 : decode cX4_way 30 = .ok (.iload_n 3, 1) := by decide +kernel
theorem dX4_way_31 : decode cX4_way 31 = .ok (.invokestatic 31, 3) := by decide +kernel
theorem dX4_way_34 : decode cX4_way 34 = .ok (.ifCond .eq 12, 3) := by decide +kernel
theorem dX4_way_37 : decode cX4_way 37 = .ok (.aload_n 0, 1) := by decide +kernel
theorem dX4_way_38 : decode cX4_way 38 = .ok (.getfield 9, 3) := by decide +kernel
theorem dX4_way_41 : decode cX4_way 41 = .ok (.iload_n 3, 1) := by decide +kernel
theorem dX4_way_42 : decode cX4_way 42 = .ok (.iaload, 1) := by decide +kernel
theorem dX4_way_43 : decode cX4_way 43 = .ok (.goto 5, 3) := by decide +kernel
theorem dX4_way_46 : decode cX4_way 46 = .ok (.ldc 35, 2) := by decide +kernel
theorem dX4_way_48 : decode cX4_way 48 = .ok (.istore 4, 2) := by decide +kernel
theorem dX4_way_50 : decode cX4_way 50 = .ok (.iload 4, 2) := by decide +kernel
theorem dX4_way_52 : decode cX4_way 52 = .ok (.ldc 35, 2) := by decide +kernel
theorem dX4_way_54 : decode cX4_way 54 = .ok (.if_icmp .ge 8, 3) := by decide +kernel
theorem dX4_way_57 : decode cX4_way 57 = .ok (.iload 4, 2) := by decide +kernel
theorem dX4_way_59 : decode cX4_way 59 = .ok (.goto 4, 3) := by decide +kernel
theorem dX4_way_62 : decode cX4_way 62 = .ok (.iconst (-1), 1) := by decide +kernel
theorem dX4_way_63 : decode cX4_way 63 = .ok (.ireturn, 1) := by decide +kernel
theorem dX4_begin_0 : decode cX4_begin 0 = .ok (.iconst 0, 1) := by decide +kernel
theorem dX4_begin_1 : decode cX4_begin 1 = .ok (.istore_n 2, 1) := by decide +kernel
theorem dX4_begin_2 : decode cX4_begin 2 = .ok (.iload_n 2, 1) := by decide +kernel
theorem dX4_begin_3 : decode cX4_begin 3 = .ok (.bipush 8, 2) := by decide +kernel
theorem dX4_begin_5 : decode cX4_begin 5 = .ok (.if_icmp .ge 33, 3) := by decide +kernel
theorem dX4_begin_8 : decode cX4_begin 8 = .ok (.aload_n 0, 1) := by decide +kernel
theorem dX4_begin_9 : decode cX4_begin 9 = .ok (.getfield 9, 3) := by decide +kernel
theorem dX4_begin_12 : decode cX4_begin 12 = .ok (.iload_n 2, 1) := by decide +kernel
theorem dX4_begin_13 : decode cX4_begin 13 = .ok (.iload_n 2, 1) := by decide +kernel
theorem dX4_begin_14 : decode cX4_begin 14 = .ok (.iload_n 1, 1) := by decide +kernel
theorem dX4_begin_15 : decode cX4_begin 15 = .ok (.if_icmp .ne 7, 3) := by decide +kernel
theorem dX4_begin_18 : decode cX4_begin 18 = .ok (.iconst 0, 1) := by decide +kernel
theorem dX4_begin_19 : decode cX4_begin 19 = .ok (.goto 5, 3) := by decide +kernel
theorem dX4_begin_22 : decode cX4_begin 22 = .ok (.ldc 35, 2) := by decide +kernel
theorem dX4_begin_24 : decode cX4_begin 24 = .ok (.iastore, 1) := by decide +kernel
theorem dX4_begin_25 : decode cX4_begin 25 = .ok (.aload_n 0, 1) := by decide +kernel
theorem dX4_begin_26 : decode cX4_begin 26 = .ok (.getfield 15, 3) := by decide +kernel
theorem dX4_begin_29 : decode cX4_begin 29 = .ok (.iload_n 2, 1) := by decide +kernel
theorem dX4_begin_30 : decode cX4_begin 30 = .ok (.iconst 0, 1) := by decide +kernel
theorem dX4_begin_31 : decode cX4_begin 31 = .ok (.bastore, 1) := by decide +kernel
theorem dX4_begin_32 : decode cX4_begin 32 = .ok (.iinc 2 1, 3) := by decide +kernel
theorem dX4_begin_35 : decode cX4_begin 35 = .ok (.goto (-33), 3) := by decide +kernel
theorem dX4_begin_38 : decode cX4_begin 38 = .ok (.return_, 1) := by decide +kernel
theorem dX4_nearestUnsettled_0 : decode cX4_nearestUnsettled 0 = .ok (.iconst (-1), 1) := by decide +kernel
theorem dX4_nearestUnsettled_1 : decode cX4_nearestUnsettled 1 = .ok (.istore_n 1, 1) := by decide +kernel
theorem dX4_nearestUnsettled_2 : decode cX4_nearestUnsettled 2 = .ok (.ldc 35, 2) := by decide +kernel
theorem dX4_nearestUnsettled_4 : decode cX4_nearestUnsettled 4 = .ok (.istore_n 2, 1) := by decide +kernel
theorem dX4_nearestUnsettled_5 : decode cX4_nearestUnsettled 5 = .ok (.iconst 0, 1) := by decide +kernel
theorem dX4_nearestUnsettled_6 : decode cX4_nearestUnsettled 6 = .ok (.istore_n 3, 1) := by decide +kernel
theorem dX4_nearestUnsettled_7 : decode cX4_nearestUnsettled 7 = .ok (.iload_n 3, 1) := by decide +kernel
theorem dX4_nearestUnsettled_8 : decode cX4_nearestUnsettled 8 = .ok (.bipush 8, 2) := by decide +kernel
theorem dX4_nearestUnsettled_10 : decode cX4_nearestUnsettled 10 = .ok (.if_icmp .ge 37, 3) := by decide +kernel
theorem dX4_nearestUnsettled_13 : decode cX4_nearestUnsettled 13 = .ok (.aload_n 0, 1) := by decide +kernel
theorem dX4_nearestUnsettled_14 : decode cX4_nearestUnsettled 14 = .ok (.getfield 15, 3) := by decide +kernel
theorem dX4_nearestUnsettled_17 : decode cX4_nearestUnsettled 17 = .ok (.iload_n 3, 1) := by decide +kernel
theorem dX4_nearestUnsettled_18 : decode cX4_nearestUnsettled 18 = .ok (.baload, 1) := by decide +kernel
theorem dX4_nearestUnsettled_19 : decode cX4_nearestUnsettled 19 = .ok (.ifCond .ne 22, 3) := by decide +kernel
theorem dX4_nearestUnsettled_22 : decode cX4_nearestUnsettled 22 = .ok (.aload_n 0, 1) := by decide +kernel
theorem dX4_nearestUnsettled_23 : decode cX4_nearestUnsettled 23 = .ok (.getfield 9, 3) := by decide +kernel
theorem dX4_nearestUnsettled_26 : decode cX4_nearestUnsettled 26 = .ok (.iload_n 3, 1) := by decide +kernel
theorem dX4_nearestUnsettled_27 : decode cX4_nearestUnsettled 27 = .ok (.iaload, 1) := by decide +kernel
theorem dX4_nearestUnsettled_28 : decode cX4_nearestUnsettled 28 = .ok (.iload_n 2, 1) := by decide +kernel
theorem dX4_nearestUnsettled_29 : decode cX4_nearestUnsettled 29 = .ok (.if_icmp .ge 12, 3) := by decide +kernel
theorem dX4_nearestUnsettled_32 : decode cX4_nearestUnsettled 32 = .ok (.iload_n 3, 1) := by decide +kernel
theorem dX4_nearestUnsettled_33 : decode cX4_nearestUnsettled 33 = .ok (.istore_n 1, 1) := by decide +kernel
theorem dX4_nearestUnsettled_34 : decode cX4_nearestUnsettled 34 = .ok (.aload_n 0, 1) := by decide +kernel
theorem dX4_nearestUnsettled_35 : decode cX4_nearestUnsettled 35 = .ok (.getfield 9, 3) := by decide +kernel
theorem dX4_nearestUnsettled_38 : decode cX4_nearestUnsettled 38 = .ok (.iload_n 3, 1) := by decide +kernel
theorem dX4_nearestUnsettled_39 : decode cX4_nearestUnsettled 39 = .ok (.iaload, 1) := by decide +kernel
theorem dX4_nearestUnsettled_40 : decode cX4_nearestUnsettled 40 = .ok (.istore_n 2, 1) := by decide +kernel
theorem dX4_nearestUnsettled_41 : decode cX4_nearestUnsettled 41 = .ok (.iinc 3 1, 3) := by decide +kernel
theorem dX4_nearestUnsettled_44 : decode cX4_nearestUnsettled 44 = .ok (.goto (-37), 3) := by decide +kernel
theorem dX4_nearestUnsettled_47 : decode cX4_nearestUnsettled 47 = .ok (.iload_n 1, 1) := by decide +kernel
theorem dX4_nearestUnsettled_48 : decode cX4_nearestUnsettled 48 = .ok (.ireturn, 1) := by decide +kernel
theorem dX4_fix_0 : decode cX4_fix 0 = .ok (.iload_n 2, 1) := by decide +kernel
theorem dX4_fix_1 : decode cX4_fix 1 = .ok (.invokestatic 31, 3) := by decide +kernel
theorem dX4_fix_4 : decode cX4_fix 4 = .ok (.ifCond .ne 4, 3) := by decide +kernel
theorem dX4_fix_7 : decode cX4_fix 7 = .ok (.return_, 1) := by decide +kernel
theorem dX4_fix_8 : decode cX4_fix 8 = .ok (.aload_n 0, 1) := by decide +kernel
theorem dX4_fix_9 : decode cX4_fix 9 = .ok (.getfield 15, 3) := by decide +kernel
theorem dX4_fix_12 : decode cX4_fix 12 = .ok (.iload_n 2, 1) := by decide +kernel
theorem dX4_fix_13 : decode cX4_fix 13 = .ok (.iconst 1, 1) := by decide +kernel
theorem dX4_fix_14 : decode cX4_fix 14 = .ok (.bastore, 1) := by decide +kernel
theorem dX4_fix_15 : decode cX4_fix 15 = .ok (.iconst 0, 1) := by decide +kernel
theorem dX4_fix_16 : decode cX4_fix 16 = .ok (.istore_n 3, 1) := by decide +kernel
theorem dX4_fix_17 : decode cX4_fix 17 = .ok (.iload_n 3, 1) := by decide +kernel
theorem dX4_fix_18 : decode cX4_fix 18 = .ok (.bipush 8, 2) := by decide +kernel
theorem dX4_fix_20 : decode cX4_fix 20 = .ok (.if_icmp .ge 46, 3) := by decide +kernel
theorem dX4_fix_23 : decode cX4_fix 23 = .ok (.aload_n 1, 1) := by decide +kernel
theorem dX4_fix_24 : decode cX4_fix 24 = .ok (.iload_n 2, 1) := by decide +kernel
theorem dX4_fix_25 : decode cX4_fix 25 = .ok (.iload_n 3, 1) := by decide +kernel
theorem dX4_fix_26 : decode cX4_fix 26 = .ok (.invokevirtual 36, 3) := by decide +kernel
theorem dX4_fix_29 : decode cX4_fix 29 = .ok (.istore 4, 2) := by decide +kernel
theorem dX4_fix_31 : decode cX4_fix 31 = .ok (.iload 4, 2) := by decide +kernel
theorem dX4_fix_33 : decode cX4_fix 33 = .ok (.ifCond .le 27, 3) := by decide +kernel
theorem dX4_fix_36 : decode cX4_fix 36 = .ok (.aload_n 0, 1) := by decide +kernel
theorem dX4_fix_37 : decode cX4_fix 37 = .ok (.getfield 9, 3) := by decide +kernel
theorem dX4_fix_40 : decode cX4_fix 40 = .ok (.iload_n 3, 1) := by decide +kernel
theorem dX4_fix_41 : decode cX4_fix 41 = .ok (.aload_n 0, 1) := by decide +kernel
theorem dX4_fix_42 : decode cX4_fix 42 = .ok (.getfield 9, 3) := by decide +kernel
theorem dX4_fix_45 : decode cX4_fix 45 = .ok (.iload_n 3, 1) := by decide +kernel
theorem dX4_fix_46 : decode cX4_fix 46 = .ok (.iaload, 1) := by decide +kernel
theorem dX4_fix_47 : decode cX4_fix 47 = .ok (.aload_n 0, 1) := by decide +kernel
theorem dX4_fix_48 : decode cX4_fix 48 = .ok (.getfield 9, 3) := by decide +kernel
theorem dX4_fix_51 : decode cX4_fix 51 = .ok (.iload_n 2, 1) := by decide +kernel
theorem dX4_fix_52 : decode cX4_fix 52 = .ok (.iaload, 1) := by decide +kernel
theorem dX4_fix_53 : decode cX4_fix 53 = .ok (.iload 4, 2) := by decide +kernel
theorem dX4_fix_55 : decode cX4_fix 55 = .ok (.iadd, 1) := by decide +kernel
theorem dX4_fix_56 : decode cX4_fix 56 = .ok (.invokestatic 42, 3) := by decide +kernel
theorem dX4_fix_59 : decode cX4_fix 59 = .ok (.iastore, 1) := by decide +kernel
theorem dX4_fix_60 : decode cX4_fix 60 = .ok (.iinc 3 1, 3) := by decide +kernel
theorem dX4_fix_63 : decode cX4_fix 63 = .ok (.goto (-46), 3) := by decide +kernel
theorem dX4_fix_66 : decode cX4_fix 66 = .ok (.return_, 1) := by decide +kernel
theorem dX5_init_0 : decode cX5_init 0 = .ok (.aload_n 0, 1) := by decide +kernel
theorem dX5_init_1 : decode cX5_init 1 = .ok (.invokespecial 3, 3) := by decide +kernel
theorem dX5_init_4 : decode cX5_init 4 = .ok (.aload_n 0, 1) := by decide +kernel
theorem dX5_init_5 : decode cX5_init 5 = .ok (.bipush 16, 2) := by decide +kernel
theorem dX5_init_7 : decode cX5_init 7 = .ok (.newarray .int, 2) := by decide +kernel
theorem dX5_init_9 : decode cX5_init 9 = .ok (.putfield 9, 3) := by decide +kernel
theorem dX5_init_12 : decode cX5_init 12 = .ok (.aload_n 0, 1) := by decide +kernel
theorem dX5_init_13 : decode cX5_init 13 = .ok (.iconst 4, 1) := by decide +kernel
theorem dX5_init_14 : decode cX5_init 14 = .ok (.newarray .int, 2) := by decide +kernel
theorem dX5_init_16 : decode cX5_init 16 = .ok (.putfield 15, 3) := by decide +kernel
theorem dX5_init_19 : decode cX5_init 19 = .ok (.aload_n 0, 1) := by decide +kernel
theorem dX5_init_20 : decode cX5_init 20 = .ok (.iconst 4, 1) := by decide +kernel
theorem dX5_init_21 : decode cX5_init 21 = .ok (.newarray .int, 2) := by decide +kernel
theorem dX5_init_23 : decode cX5_init 23 = .ok (.putfield 18, 3) := by decide +kernel
theorem dX5_init_26 : decode cX5_init 26 = .ok (.aload_n 0, 1) := by decide +kernel
theorem dX5_init_27 : decode cX5_init 27 = .ok (.iconst 4, 1) := by decide +kernel
theorem dX5_init_28 : decode cX5_init 28 = .ok (.newarray .int, 2) := by decide +kernel
theorem dX5_init_30 : decode cX5_init 30 = .ok (.putfield 21, 3) := by decide +kernel
theorem dX5_init_33 : decode cX5_init 33 = .ok (.aload_n 0, 1) := by decide +kernel
theorem dX5_init_34 : decode cX5_init 34 = .ok (.iconst 4, 1) := by decide +kernel
theorem dX5_init_35 : decode cX5_init 35 = .ok (.newarray .int, 2) := by decide +kernel
theorem dX5_init_37 : decode cX5_init 37 = .ok (.putfield 24, 3) := by decide +kernel
theorem dX5_init_40 : decode cX5_init 40 = .ok (.iconst 0, 1) := by decide +kernel
theorem dX5_init_41 : decode cX5_init 41 = .ok (.istore_n 1, 1) := by decide +kernel
theorem dX5_init_42 : decode cX5_init 42 = .ok (.iload_n 1, 1) := by decide +kernel
theorem dX5_init_43 : decode cX5_init 43 = .ok (.iconst 4, 1) := by decide +kernel
theorem dX5_init_44 : decode cX5_init 44 = .ok (.if_icmp .ge 17, 3) := by decide +kernel
theorem dX5_init_47 : decode cX5_init 47 = .ok (.aload_n 0, 1) := by decide +kernel
theorem dX5_init_48 : decode cX5_init 48 = .ok (.getfield 15, 3) := by decide +kernel
theorem dX5_init_51 : decode cX5_init 51 = .ok (.iload_n 1, 1) := by decide +kernel
theorem dX5_init_52 : decode cX5_init 52 = .ok (.bipush 20, 2) := by decide +kernel
theorem dX5_init_54 : decode cX5_init 54 = .ok (.iastore, 1) := by decide +kernel
theorem dX5_init_55 : decode cX5_init 55 = .ok (.iinc 1 1, 3) := by decide +kernel
theorem dX5_init_58 : decode cX5_init 58 = .ok (.goto (-16), 3) := by decide +kernel
theorem dX5_init_61 : decode cX5_init 61 = .ok (.return_, 1) := by decide +kernel
theorem dX5_copyFrom_0 : decode cX5_copyFrom 0 = .ok (.aload_n 1, 1) := by decide +kernel
theorem dX5_copyFrom_1 : decode cX5_copyFrom 1 = .ok (.getfield 9, 3) := by decide +kernel
theorem dX5_copyFrom_4 : decode cX5_copyFrom 4 = .ok (.aload_n 0, 1) := by decide +kernel
theorem dX5_copyFrom_5 : decode cX5_copyFrom 5 = .ok (.getfield 9, 3) := by decide +kernel
theorem dX5_copyFrom_8 : decode cX5_copyFrom 8 = .ok (.invokestatic 27, 3) := by decide +kernel
theorem dX5_copyFrom_11 : decode cX5_copyFrom 11 = .ok (.aload_n 1, 1) := by decide +kernel
theorem dX5_copyFrom_12 : decode cX5_copyFrom 12 = .ok (.getfield 15, 3) := by decide +kernel
theorem dX5_copyFrom_15 : decode cX5_copyFrom 15 = .ok (.aload_n 0, 1) := by decide +kernel
theorem dX5_copyFrom_16 : decode cX5_copyFrom 16 = .ok (.getfield 15, 3) := by decide +kernel
theorem dX5_copyFrom_19 : decode cX5_copyFrom 19 = .ok (.invokestatic 27, 3) := by decide +kernel
theorem dX5_copyFrom_22 : decode cX5_copyFrom 22 = .ok (.aload_n 1, 1) := by decide +kernel
theorem dX5_copyFrom_23 : decode cX5_copyFrom 23 = .ok (.getfield 18, 3) := by decide +kernel
theorem dX5_copyFrom_26 : decode cX5_copyFrom 26 = .ok (.aload_n 0, 1) := by decide +kernel
theorem dX5_copyFrom_27 : decode cX5_copyFrom 27 = .ok (.getfield 18, 3) := by decide +kernel
theorem dX5_copyFrom_30 : decode cX5_copyFrom 30 = .ok (.invokestatic 27, 3) := by decide +kernel
theorem dX5_copyFrom_33 : decode cX5_copyFrom 33 = .ok (.aload_n 1, 1) := by decide +kernel
theorem dX5_copyFrom_34 : decode cX5_copyFrom 34 = .ok (.getfield 21, 3) := by decide +kernel
theorem dX5_copyFrom_37 : decode cX5_copyFrom 37 = .ok (.aload_n 0, 1) := by decide +kernel
theorem dX5_copyFrom_38 : decode cX5_copyFrom 38 = .ok (.getfield 21, 3) := by decide +kernel
theorem dX5_copyFrom_41 : decode cX5_copyFrom 41 = .ok (.invokestatic 27, 3) := by decide +kernel
theorem dX5_copyFrom_44 : decode cX5_copyFrom 44 = .ok (.aload_n 1, 1) := by decide +kernel
theorem dX5_copyFrom_45 : decode cX5_copyFrom 45 = .ok (.getfield 24, 3) := by decide +kernel
theorem dX5_copyFrom_48 : decode cX5_copyFrom 48 = .ok (.aload_n 0, 1) := by decide +kernel
theorem dX5_copyFrom_49 : decode cX5_copyFrom 49 = .ok (.getfield 24, 3) := by decide +kernel
theorem dX5_copyFrom_52 : decode cX5_copyFrom 52 = .ok (.invokestatic 27, 3) := by decide +kernel
theorem dX5_copyFrom_55 : decode cX5_copyFrom 55 = .ok (.return_, 1) := by decide +kernel
theorem dX5_length_0 : decode cX5_length 0 = .ok (.iload_n 1, 1) := by decide +kernel
theorem dX5_length_1 : decode cX5_length 1 = .ok (.invokestatic 31, 3) := by decide +kernel
theorem dX5_length_4 : decode cX5_length 4 = .ok (.ifCond .eq 23, 3) := by decide +kernel
theorem dX5_length_7 : decode cX5_length 7 = .ok (.iload_n 2, 1) := by decide +kernel
theorem dX5_length_8 : decode cX5_length 8 = .ok (.invokestatic 35, 3) := by decide +kernel
theorem dX5_length_11 : decode cX5_length 11 = .ok (.ifCond .eq 16, 3) := by decide +kernel
theorem dX5_length_14 : decode cX5_length 14 = .ok (.aload_n 0, 1) := by decide +kernel
theorem dX5_length_15 : decode cX5_length 15 = .ok (.getfield 9, 3) := by decide +kernel
theorem dX5_length_18 : decode cX5_length 18 = .ok (.iload_n 1, 1) := by decide +kernel
theorem dX5_length_19 : decode cX5_length 19 = .ok (.iconst 4, 1) := by decide +kernel
theorem dX5_length_20 : decode cX5_length 20 = .ok (.imul, 1) := by decide +kernel
theorem dX5_length_21 : decode cX5_length 21 = .ok (.iload_n 2, 1) := by decide +kernel
theorem dX5_length_22 : decode cX5_length 22 = .ok (.iadd, 1) := by decide +kernel
theorem dX5_length_23 : decode cX5_length 23 = .ok (.iaload, 1) := by decide +kernel
theorem dX5_length_24 : decode cX5_length 24 = .ok (.goto 4, 3) := by decide +kernel
theorem dX5_length_27 : decode cX5_length 27 = .ok (.iconst 0, 1) := by decide +kernel
theorem dX5_length_28 : decode cX5_length 28 = .ok (.ireturn, 1) := by decide +kernel
theorem dX5_boundOf_0 : decode cX5_boundOf 0 = .ok (.iload_n 1, 1) := by decide +kernel
theorem dX5_boundOf_1 : decode cX5_boundOf 1 = .ok (.invokestatic 31, 3) := by decide +kernel
theorem dX5_boundOf_4 : decode cX5_boundOf 4 = .ok (.ifCond .eq 12, 3) := by decide +kernel
theorem dX5_boundOf_7 : decode cX5_boundOf 7 = .ok (.aload_n 0, 1) := by decide +kernel
theorem dX5_boundOf_8 : decode cX5_boundOf 8 = .ok (.getfield 15, 3) := by decide +kernel
theorem dX5_boundOf_11 : decode cX5_boundOf 11 = .ok (.iload_n 1, 1) := by decide +kernel
theorem dX5_boundOf_12 : decode cX5_boundOf 12 = .ok (.iaload, 1) := by decide +kernel
theorem dX5_boundOf_13 : decode cX5_boundOf 13 = .ok (.goto 4, 3) := by decide +kernel
theorem dX5_boundOf_16 : decode cX5_boundOf 16 = .ok (.iconst 0, 1) := by decide +kernel
theorem dX5_boundOf_17 : decode cX5_boundOf 17 = .ok (.ireturn, 1) := by decide +kernel
theorem dX5_came_0 : decode cX5_came 0 = .ok (.iload_n 1, 1) := by decide +kernel
theorem dX5_came_1 : decode cX5_came 1 = .ok (.invokestatic 31, 3) := by decide +kernel
theorem dX5_came_4 : decode cX5_came 4 = .ok (.ifCond .eq 12, 3) := by decide +kernel
theorem dX5_came_7 : decode cX5_came 7 = .ok (.aload_n 0, 1) := by decide +kernel
theorem dX5_came_8 : decode cX5_came 8 = .ok (.getfield 18, 3) := by decide +kernel
theorem dX5_came_11 : decode cX5_came 11 = .ok (.iload_n 1, 1) := by decide +kernel
theorem dX5_came_12 : decode cX5_came 12 = .ok (.iaload, 1) := by decide +kernel
theorem dX5_came_13 : decode cX5_came 13 = .ok (.goto 4, 3) := by decide +kernel
theorem dX5_came_16 : decode cX5_came 16 = .ok (.iconst 0, 1) := by decide +kernel
theorem dX5_came_17 : decode cX5_came 17 = .ok (.ireturn, 1) := by decide +kernel
theorem dX5_complaintsSince_0 : decode cX5_complaintsSince 0 = .ok (.iload_n 1, 1) := by decide +kernel
theorem dX5_complaintsSince_1 : decode cX5_complaintsSince 1 = .ok (.invokestatic 31, 3) := by decide +kernel
theorem dX5_complaintsSince_4 : decode cX5_complaintsSince 4 = .ok (.ifCond .eq 12, 3) := by decide +kernel
theorem dX5_complaintsSince_7 : decode cX5_complaintsSince 7 = .ok (.aload_n 0, 1) := by decide +kernel
theorem dX5_complaintsSince_8 : decode cX5_complaintsSince 8 = .ok (.getfield 21, 3) := by decide +kernel
theorem dX5_complaintsSince_11 : decode cX5_complaintsSince 11 = .ok (.iload_n 1, 1) := by decide +kernel
theorem dX5_complaintsSince_12 : decode cX5_complaintsSince 12 = .ok (.iaload, 1) := by decide +kernel
theorem dX5_complaintsSince_13 : decode cX5_complaintsSince 13 = .ok (.goto 4, 3) := by decide +kernel
theorem dX5_complaintsSince_16 : decode cX5_complaintsSince 16 = .ok (.iconst 0, 1) := by decide +kernel
theorem dX5_complaintsSince_17 : decode cX5_complaintsSince 17 = .ok (.ireturn, 1) := by decide +kernel
theorem dX5_complaintsSoFar_0 : decode cX5_complaintsSoFar 0 = .ok (.iload_n 1, 1) := by decide +kernel
theorem dX5_complaintsSoFar_1 : decode cX5_complaintsSoFar 1 = .ok (.invokestatic 31, 3) := by decide +kernel
theorem dX5_complaintsSoFar_4 : decode cX5_complaintsSoFar 4 = .ok (.ifCond .eq 12, 3) := by decide +kernel
theorem dX5_complaintsSoFar_7 : decode cX5_complaintsSoFar 7 = .ok (.aload_n 0, 1) := by decide +kernel
theorem dX5_complaintsSoFar_8 : decode cX5_complaintsSoFar 8 = .ok (.getfield 24, 3) := by decide +kernel
theorem dX5_complaintsSoFar_11 : decode cX5_complaintsSoFar 11 = .ok (.iload_n 1, 1) := by decide +kernel
theorem dX5_complaintsSoFar_12 : decode cX5_complaintsSoFar 12 = .ok (.iaload, 1) := by decide +kernel
theorem dX5_complaintsSoFar_13 : decode cX5_complaintsSoFar 13 = .ok (.goto 4, 3) := by decide +kernel
theorem dX5_complaintsSoFar_16 : decode cX5_complaintsSoFar 16 = .ok (.iconst 0, 1) := by decide +kernel
theorem dX5_complaintsSoFar_17 : decode cX5_complaintsSoFar 17 = .ok (.ireturn, 1) := by decide +kernel
theorem dX5_ways_0 : decode cX5_ways 0 = .ok (.iconst 0, 1) := by decide +kernel
theorem dX5_ways_1 : decode cX5_ways 1 = .ok (.istore_n 1, 1) := by decide +kernel
theorem dX5_ways_2 : decode cX5_ways 2 = .ok (.iconst 0, 1) := by decide +kernel
theorem dX5_ways_3 : decode cX5_ways 3 = .ok (.istore_n 2, 1) := by decide +kernel
theorem dX5_ways_4 : decode cX5_ways 4 = .ok (.iload_n 2, 1) := by decide +kernel
theorem dX5_ways_5 : decode cX5_ways 5 = .ok (.aload_n 0, 1) := by decide +kernel
theorem dX5_ways_6 : decode cX5_ways 6 = .ok (.getfield 9, 3) := by decide +kernel
theorem dX5_ways_9 : decode cX5_ways 9 = .ok (.arraylength, 1) := by decide +kernel
theorem dX5_ways_10 : decode cX5_ways 10 = .ok (.if_icmp .ge 26, 3) := by decide +kernel
theorem dX5_ways_13 : decode cX5_ways 13 = .ok (.iload_n 1, 1) := by decide +kernel
theorem dX5_ways_14 : decode cX5_ways 14 = .ok (.aload_n 0, 1) := by decide +kernel
theorem dX5_ways_15 : decode cX5_ways 15 = .ok (.getfield 9, 3) := by decide +kernel
theorem dX5_ways_18 : decode cX5_ways 18 = .ok (.iload_n 2, 1) := by decide +kernel
theorem dX5_ways_19 : decode cX5_ways 19 = .ok (.iaload, 1) := by decide +kernel
theorem dX5_ways_20 : decode cX5_ways 20 = .ok (.ifCond .le 7, 3) := by decide +kernel
theorem dX5_ways_23 : decode cX5_ways 23 = .ok (.iconst 1, 1) := by decide +kernel
theorem dX5_ways_24 : decode cX5_ways 24 = .ok (.goto 4, 3) := by decide +kernel
theorem dX5_ways_27 : decode cX5_ways 27 = .ok (.iconst 0, 1) := by decide +kernel
theorem dX5_ways_28 : decode cX5_ways 28 = .ok (.iadd, 1) := by decide +kernel
theorem dX5_ways_29 : decode cX5_ways 29 = .ok (.istore_n 1, 1) := by decide +kernel
theorem dX5_ways_30 : decode cX5_ways 30 = .ok (.iinc 2 1, 3) := by decide +kernel
theorem dX5_ways_33 : decode cX5_ways 33 = .ok (.goto (-29), 3) := by decide +kernel
theorem dX5_ways_36 : decode cX5_ways 36 = .ok (.iload_n 1, 1) := by decide +kernel
theorem dX5_ways_37 : decode cX5_ways 37 = .ok (.ireturn, 1) := by decide +kernel
theorem dX5_allComplaints_0 : decode cX5_allComplaints 0 = .ok (.iconst 0, 1) := by decide +kernel
theorem dX5_allComplaints_1 : decode cX5_allComplaints 1 = .ok (.istore_n 1, 1) := by decide +kernel
theorem dX5_allComplaints_2 : decode cX5_allComplaints 2 = .ok (.iconst 0, 1) := by decide +kernel
theorem dX5_allComplaints_3 : decode cX5_allComplaints 3 = .ok (.istore_n 2, 1) := by decide +kernel
theorem dX5_allComplaints_4 : decode cX5_allComplaints 4 = .ok (.iload_n 2, 1) := by decide +kernel
theorem dX5_allComplaints_5 : decode cX5_allComplaints 5 = .ok (.iconst 4, 1) := by decide +kernel
theorem dX5_allComplaints_6 : decode cX5_allComplaints 6 = .ok (.if_icmp .ge 18, 3) := by decide +kernel
theorem dX5_allComplaints_9 : decode cX5_allComplaints 9 = .ok (.iload_n 1, 1) := by decide +kernel
theorem dX5_allComplaints_10 : decode cX5_allComplaints 10 = .ok (.aload_n 0, 1) := by decide +kernel
theorem dX5_allComplaints_11 : decode cX5_allComplaints 11 = .ok (.getfield 24, 3) := by decide +kernel
theorem dX5_allComplaints_14 : decode cX5_allComplaints 14 = .ok (.iload_n 2, 1) := by decide +kernel
theorem dX5_allComplaints_15 : decode cX5_allComplaints 15 = .ok (.iaload, 1) := by decide +kernel
theorem dX5_allComplaints_16 : decode cX5_allComplaints 16 = .ok (.iadd, 1) := by decide +kernel
theorem dX5_allComplaints_17 : decode cX5_allComplaints 17 = .ok (.istore_n 1, 1) := by decide +kernel
theorem dX5_allComplaints_18 : decode cX5_allComplaints 18 = .ok (.iinc 2 1, 3) := by decide +kernel
theorem dX5_allComplaints_21 : decode cX5_allComplaints 21 = .ok (.goto (-17), 3) := by decide +kernel
theorem dX5_allComplaints_24 : decode cX5_allComplaints 24 = .ok (.iload_n 1, 1) := by decide +kernel
theorem dX5_allComplaints_25 : decode cX5_allComplaints 25 = .ok (.ireturn, 1) := by decide +kernel
theorem dX5_changeLength_0 : decode cX5_changeLength 0 = .ok (.aload_n 0, 1) := by decide +kernel
theorem dX5_changeLength_1 : decode cX5_changeLength 1 = .ok (.iload_n 1, 1) := by decide +kernel
theorem dX5_changeLength_2 : decode cX5_changeLength 2 = .ok (.iload_n 2, 1) := by decide +kernel
theorem dX5_changeLength_3 : decode cX5_changeLength 3 = .ok (.invokevirtual 38, 3) := by decide +kernel
theorem dX5_changeLength_6 : decode cX5_changeLength 6 = .ok (.istore 4, 2) := by decide +kernel
theorem dX5_changeLength_8 : decode cX5_changeLength 8 = .ok (.iload_n 1, 1) := by decide +kernel
theorem dX5_changeLength_9 : decode cX5_changeLength 9 = .ok (.invokestatic 31, 3) := by decide +kernel
theorem dX5_changeLength_12 : decode cX5_changeLength 12 = .ok (.ifCond .eq 21, 3) := by decide +kernel
theorem dX5_changeLength_15 : decode cX5_changeLength 15 = .ok (.iload_n 2, 1) := by decide +kernel
theorem dX5_changeLength_16 : decode cX5_changeLength 16 = .ok (.invokestatic 35, 3) := by decide +kernel
theorem dX5_changeLength_19 : decode cX5_changeLength 19 = .ok (.ifCond .eq 14, 3) := by decide +kernel
theorem dX5_changeLength_22 : decode cX5_changeLength 22 = .ok (.aload_n 0, 1) := by decide +kernel
theorem dX5_changeLength_23 : decode cX5_changeLength 23 = .ok (.getfield 9, 3) := by decide +kernel
theorem dX5_changeLength_26 : decode cX5_changeLength 26 = .ok (.iload_n 1, 1) := by decide +kernel
theorem dX5_changeLength_27 : decode cX5_changeLength 27 = .ok (.iconst 4, 1) := by decide +kernel
theorem dX5_changeLength_28 : decode cX5_changeLength 28 = .ok (.imul, 1) := by decide +kernel
theorem dX5_changeLength_29 : decode cX5_changeLength 29 = .ok (.iload_n 2, 1) := by decide +kernel
theorem dX5_changeLength_30 : decode cX5_changeLength 30 = .ok (.iadd, 1) := by decide +kernel
theorem dX5_changeLength_31 : decode cX5_changeLength 31 = .ok (.iload_n 3, 1) := by decide +kernel
theorem dX5_changeLength_32 : decode cX5_changeLength 32 = .ok (.iastore, 1) := by decide +kernel
theorem dX5_changeLength_33 : decode cX5_changeLength 33 = .ok (.iload 4, 2) := by decide +kernel
theorem dX5_changeLength_35 : decode cX5_changeLength 35 = .ok (.ireturn, 1) := by decide +kernel
theorem dX5_changeBound_0 : decode cX5_changeBound 0 = .ok (.aload_n 0, 1) := by decide +kernel
theorem dX5_changeBound_1 : decode cX5_changeBound 1 = .ok (.iload_n 1, 1) := by decide +kernel
theorem dX5_changeBound_2 : decode cX5_changeBound 2 = .ok (.invokevirtual 42, 3) := by decide +kernel
theorem dX5_changeBound_5 : decode cX5_changeBound 5 = .ok (.istore_n 3, 1) := by decide +kernel
theorem dX5_changeBound_6 : decode cX5_changeBound 6 = .ok (.iload_n 1, 1) := by decide +kernel
theorem dX5_changeBound_7 : decode cX5_changeBound 7 = .ok (.invokestatic 31, 3) := by decide +kernel
theorem dX5_changeBound_10 : decode cX5_changeBound 10 = .ok (.ifCond .eq 10, 3) := by decide +kernel
theorem dX5_changeBound_13 : decode cX5_changeBound 13 = .ok (.aload_n 0, 1) := by decide +kernel
theorem dX5_changeBound_14 : decode cX5_changeBound 14 = .ok (.getfield 15, 3) := by decide +kernel
theorem dX5_changeBound_17 : decode cX5_changeBound 17 = .ok (.iload_n 1, 1) := by decide +kernel
theorem dX5_changeBound_18 : decode cX5_changeBound 18 = .ok (.iload_n 2, 1) := by decide +kernel
theorem dX5_changeBound_19 : decode cX5_changeBound 19 = .ok (.iastore, 1) := by decide +kernel
theorem dX5_changeBound_20 : decode cX5_changeBound 20 = .ok (.iload_n 3, 1) := by decide +kernel
theorem dX5_changeBound_21 : decode cX5_changeBound 21 = .ok (.ireturn, 1) := by decide +kernel
theorem dX5_beginAnew_0 : decode cX5_beginAnew 0 = .ok (.iconst 0, 1) := by decide +kernel
theorem dX5_beginAnew_1 : decode cX5_beginAnew 1 = .ok (.istore_n 1, 1) := by decide +kernel
theorem dX5_beginAnew_2 : decode cX5_beginAnew 2 = .ok (.iconst 0, 1) := by decide +kernel
theorem dX5_beginAnew_3 : decode cX5_beginAnew 3 = .ok (.istore_n 2, 1) := by decide +kernel
theorem dX5_beginAnew_4 : decode cX5_beginAnew 4 = .ok (.iload_n 2, 1) := by decide +kernel
theorem dX5_beginAnew_5 : decode cX5_beginAnew 5 = .ok (.iconst 4, 1) := by decide +kernel
theorem dX5_beginAnew_6 : decode cX5_beginAnew 6 = .ok (.if_icmp .ge 32, 3) := by decide +kernel
theorem dX5_beginAnew_9 : decode cX5_beginAnew 9 = .ok (.iload_n 1, 1) := by decide +kernel
theorem dX5_beginAnew_10 : decode cX5_beginAnew 10 = .ok (.aload_n 0, 1) := by decide +kernel
theorem dX5_beginAnew_11 : decode cX5_beginAnew 11 = .ok (.getfield 21, 3) := by decide +kernel
theorem dX5_beginAnew_14 : decode cX5_beginAnew 14 = .ok (.iload_n 2, 1) := by decide +kernel
theorem dX5_beginAnew_15 : decode cX5_beginAnew 15 = .ok (.iaload, 1) := by decide +kernel
theorem dX5_beginAnew_16 : decode cX5_beginAnew 16 = .ok (.iadd, 1) := by decide +kernel
theorem dX5_beginAnew_17 : decode cX5_beginAnew 17 = .ok (.istore_n 1, 1) := by decide +kernel
theorem dX5_beginAnew_18 : decode cX5_beginAnew 18 = .ok (.aload_n 0, 1) := by decide +kernel
theorem dX5_beginAnew_19 : decode cX5_beginAnew 19 = .ok (.getfield 21, 3) := by decide +kernel
theorem dX5_beginAnew_22 : decode cX5_beginAnew 22 = .ok (.iload_n 2, 1) := by decide +kernel
theorem dX5_beginAnew_23 : decode cX5_beginAnew 23 = .ok (.iconst 0, 1) := by decide +kernel
theorem dX5_beginAnew_24 : decode cX5_beginAnew 24 = .ok (.iastore, 1) := by decide +kernel
theorem dX5_beginAnew_25 : decode cX5_beginAnew 25 = .ok (.aload_n 0, 1) := by decide +kernel
theorem dX5_beginAnew_26 : decode cX5_beginAnew 26 = .ok (.getfield 18, 3) := by decide +kernel
theorem dX5_beginAnew_29 : decode cX5_beginAnew 29 = .ok (.iload_n 2, 1) := by decide +kernel
theorem dX5_beginAnew_30 : decode cX5_beginAnew 30 = .ok (.iconst 0, 1) := by decide +kernel
theorem dX5_beginAnew_31 : decode cX5_beginAnew 31 = .ok (.iastore, 1) := by decide +kernel
theorem dX5_beginAnew_32 : decode cX5_beginAnew 32 = .ok (.iinc 2 1, 3) := by decide +kernel
theorem dX5_beginAnew_35 : decode cX5_beginAnew 35 = .ok (.goto (-31), 3) := by decide +kernel
theorem dX5_beginAnew_38 : decode cX5_beginAnew 38 = .ok (.iload_n 1, 1) := by decide +kernel
theorem dX5_beginAnew_39 : decode cX5_beginAnew 39 = .ok (.ireturn, 1) := by decide +kernel
theorem dX5_takeLoaf_0 : decode cX5_takeLoaf 0 = .ok (.iload_n 1, 1) := by decide +kernel
theorem dX5_takeLoaf_1 : decode cX5_takeLoaf 1 = .ok (.invokestatic 31, 3) := by decide +kernel
theorem dX5_takeLoaf_4 : decode cX5_takeLoaf 4 = .ok (.ifCond .ne 4, 3) := by decide +kernel
theorem dX5_takeLoaf_7 : decode cX5_takeLoaf 7 = .ok (.return_, 1) := by decide +kernel
theorem dX5_takeLoaf_8 : decode cX5_takeLoaf 8 = .ok (.aload_n 0, 1) := by decide +kernel
theorem dX5_takeLoaf_9 : decode cX5_takeLoaf 9 = .ok (.getfield 18, 3) := by decide +kernel
theorem dX5_takeLoaf_12 : decode cX5_takeLoaf 12 = .ok (.iload_n 1, 1) := by decide +kernel
theorem dX5_takeLoaf_13 : decode cX5_takeLoaf 13 = .ok (.dup2, 1) := by decide +kernel
theorem dX5_takeLoaf_14 : decode cX5_takeLoaf 14 = .ok (.iaload, 1) := by decide +kernel
theorem dX5_takeLoaf_15 : decode cX5_takeLoaf 15 = .ok (.iconst 1, 1) := by decide +kernel
theorem dX5_takeLoaf_16 : decode cX5_takeLoaf 16 = .ok (.iadd, 1) := by decide +kernel
theorem dX5_takeLoaf_17 : decode cX5_takeLoaf 17 = .ok (.iastore, 1) := by decide +kernel
theorem dX5_takeLoaf_18 : decode cX5_takeLoaf 18 = .ok (.aload_n 0, 1) := by decide +kernel
theorem dX5_takeLoaf_19 : decode cX5_takeLoaf 19 = .ok (.getfield 18, 3) := by decide +kernel
theorem dX5_takeLoaf_22 : decode cX5_takeLoaf 22 = .ok (.iload_n 1, 1) := by decide +kernel
theorem dX5_takeLoaf_23 : decode cX5_takeLoaf 23 = .ok (.iaload, 1) := by decide +kernel
theorem dX5_takeLoaf_24 : decode cX5_takeLoaf 24 = .ok (.aload_n 0, 1) := by decide +kernel
theorem dX5_takeLoaf_25 : decode cX5_takeLoaf 25 = .ok (.getfield 15, 3) := by decide +kernel
theorem dX5_takeLoaf_28 : decode cX5_takeLoaf 28 = .ok (.iload_n 1, 1) := by decide +kernel
theorem dX5_takeLoaf_29 : decode cX5_takeLoaf 29 = .ok (.iaload, 1) := by decide +kernel
theorem dX5_takeLoaf_30 : decode cX5_takeLoaf 30 = .ok (.if_icmp .le 23, 3) := by decide +kernel
theorem dX5_takeLoaf_33 : decode cX5_takeLoaf 33 = .ok (.aload_n 0, 1) := by decide +kernel
theorem dX5_takeLoaf_34 : decode cX5_takeLoaf 34 = .ok (.getfield 21, 3) := by decide +kernel
theorem dX5_takeLoaf_37 : decode cX5_takeLoaf 37 = .ok (.iload_n 1, 1) := by decide +kernel
theorem dX5_takeLoaf_38 : decode cX5_takeLoaf 38 = .ok (.dup2, 1) := by decide +kernel
theorem dX5_takeLoaf_39 : decode cX5_takeLoaf 39 = .ok (.iaload, 1) := by decide +kernel
theorem dX5_takeLoaf_40 : decode cX5_takeLoaf 40 = .ok (.iconst 1, 1) := by decide +kernel
theorem dX5_takeLoaf_41 : decode cX5_takeLoaf 41 = .ok (.iadd, 1) := by decide +kernel
theorem dX5_takeLoaf_42 : decode cX5_takeLoaf 42 = .ok (.iastore, 1) := by decide +kernel
theorem dX5_takeLoaf_43 : decode cX5_takeLoaf 43 = .ok (.aload_n 0, 1) := by decide +kernel
theorem dX5_takeLoaf_44 : decode cX5_takeLoaf 44 = .ok (.getfield 24, 3) := by decide +kernel
theorem dX5_takeLoaf_47 : decode cX5_takeLoaf 47 = .ok (.iload_n 1, 1) := by decide +kernel
theorem dX5_takeLoaf_48 : decode cX5_takeLoaf 48 = .ok (.dup2, 1) := by decide +kernel
theorem dX5_takeLoaf_49 : decode cX5_takeLoaf 49 = .ok (.iaload, 1) := by decide +kernel
theorem dX5_takeLoaf_50 : decode cX5_takeLoaf 50 = .ok (.iconst 1, 1) := by decide +kernel
theorem dX5_takeLoaf_51 : decode cX5_takeLoaf 51 = .ok (.iadd, 1) := by decide +kernel
theorem dX5_takeLoaf_52 : decode cX5_takeLoaf 52 = .ok (.iastore, 1) := by decide +kernel
theorem dX5_takeLoaf_53 : decode cX5_takeLoaf 53 = .ok (.return_, 1) := by decide +kernel
theorem dX6_init_0 : decode cX6_init 0 = .ok (.aload_n 0, 1) := by decide +kernel
theorem dX6_init_1 : decode cX6_init 1 = .ok (.invokespecial 3, 3) := by decide +kernel
theorem dX6_init_4 : decode cX6_init 4 = .ok (.aload_n 0, 1) := by decide +kernel
theorem dX6_init_5 : decode cX6_init 5 = .ok (.bipush 64, 2) := by decide +kernel
theorem dX6_init_7 : decode cX6_init 7 = .ok (.newarray .int, 2) := by decide +kernel
theorem dX6_init_9 : decode cX6_init 9 = .ok (.putfield 9, 3) := by decide +kernel
theorem dX6_init_12 : decode cX6_init 12 = .ok (.aload_n 0, 1) := by decide +kernel
theorem dX6_init_13 : decode cX6_init 13 = .ok (.bipush 64, 2) := by decide +kernel
theorem dX6_init_15 : decode cX6_init 15 = .ok (.newarray .int, 2) := by decide +kernel
theorem dX6_init_17 : decode cX6_init 17 = .ok (.putfield 15, 3) := by decide +kernel
theorem dX6_init_20 : decode cX6_init 20 = .ok (.iconst 0, 1) := by decide +kernel
theorem dX6_init_21 : decode cX6_init 21 = .ok (.istore_n 1, 1) := by decide +kernel
theorem dX6_init_22 : decode cX6_init 22 = .ok (.iload_n 1, 1) := by decide +kernel
theorem dX6_init_23 : decode cX6_init 23 = .ok (.bipush 7, 2) := by decide +kernel
theorem dX6_init_25 : decode cX6_init 25 = .ok (.if_icmp .ge 39, 3) := by decide +kernel
theorem dX6_init_28 : decode cX6_init 28 = .ok (.aload_n 0, 1) := by decide +kernel
theorem dX6_init_29 : decode cX6_init 29 = .ok (.getfield 9, 3) := by decide +kernel
theorem dX6_init_32 : decode cX6_init 32 = .ok (.iload_n 1, 1) := by decide +kernel
theorem dX6_init_33 : decode cX6_init 33 = .ok (.bipush 8, 2) := by decide +kernel
theorem dX6_init_35 : decode cX6_init 35 = .ok (.imul, 1) := by decide +kernel
theorem dX6_init_36 : decode cX6_init 36 = .ok (.iload_n 1, 1) := by decide +kernel
theorem dX6_init_37 : decode cX6_init 37 = .ok (.iadd, 1) := by decide +kernel
theorem dX6_init_38 : decode cX6_init 38 = .ok (.iconst 1, 1) := by decide +kernel
theorem dX6_init_39 : decode cX6_init 39 = .ok (.iadd, 1) := by decide +kernel
theorem dX6_init_40 : decode cX6_init 40 = .ok (.bipush 10, 2) := by decide +kernel
theorem dX6_init_42 : decode cX6_init 42 = .ok (.iastore, 1) := by decide +kernel
theorem dX6_init_43 : decode cX6_init 43 = .ok (.aload_n 0, 1) := by decide +kernel
theorem dX6_init_44 : decode cX6_init 44 = .ok (.getfield 9, 3) := by decide +kernel
theorem dX6_init_47 : decode cX6_init 47 = .ok (.iload_n 1, 1) := by decide +kernel
theorem dX6_init_48 : decode cX6_init 48 = .ok (.iconst 1, 1) := by decide +kernel
theorem dX6_init_49 : decode cX6_init 49 = .ok (.iadd, 1) := by decide +kernel
theorem dX6_init_50 : decode cX6_init 50 = .ok (.bipush 8, 2) := by decide +kernel
theorem dX6_init_52 : decode cX6_init 52 = .ok (.imul, 1) := by decide +kernel
theorem dX6_init_53 : decode cX6_init 53 = .ok (.iload_n 1, 1) := by decide +kernel
theorem dX6_init_54 : decode cX6_init 54 = .ok (.iadd, 1) := by decide +kernel
theorem dX6_init_55 : decode cX6_init 55 = .ok (.bipush 10, 2) := by decide +kernel
theorem dX6_init_57 : decode cX6_init 57 = .ok (.iastore, 1) := by decide +kernel
theorem dX6_init_58 : decode cX6_init 58 = .ok (.iinc 1 1, 3) := by decide +kernel
theorem dX6_init_61 : decode cX6_init 61 = .ok (.goto (-39), 3) := by decide +kernel
theorem dX6_init_64 : decode cX6_init 64 = .ok (.aload_n 0, 1) := by decide +kernel
theorem dX6_init_65 : decode cX6_init 65 = .ok (.invokevirtual 18, 3) := by decide +kernel
theorem dX6_init_68 : decode cX6_init 68 = .ok (.return_, 1) := by decide +kernel
theorem dX6_copyFrom_0 : decode cX6_copyFrom 0 = .ok (.aload_n 1, 1) := by decide +kernel
theorem dX6_copyFrom_1 : decode cX6_copyFrom 1 = .ok (.getfield 9, 3) := by decide +kernel
theorem dX6_copyFrom_4 : decode cX6_copyFrom 4 = .ok (.aload_n 0, 1) := by decide +kernel
theorem dX6_copyFrom_5 : decode cX6_copyFrom 5 = .ok (.getfield 9, 3) := by decide +kernel
theorem dX6_copyFrom_8 : decode cX6_copyFrom 8 = .ok (.invokestatic 21, 3) := by decide +kernel
theorem dX6_copyFrom_11 : decode cX6_copyFrom 11 = .ok (.aload_n 1, 1) := by decide +kernel
theorem dX6_copyFrom_12 : decode cX6_copyFrom 12 = .ok (.getfield 15, 3) := by decide +kernel
theorem dX6_copyFrom_15 : decode cX6_copyFrom 15 = .ok (.aload_n 0, 1) := by decide +kernel
theorem dX6_copyFrom_16 : decode cX6_copyFrom 16 = .ok (.getfield 15, 3) := by decide +kernel
theorem dX6_copyFrom_19 : decode cX6_copyFrom 19 = .ok (.invokestatic 21, 3) := by decide +kernel
theorem dX6_copyFrom_22 : decode cX6_copyFrom 22 = .ok (.return_, 1) := by decide +kernel
theorem dX6_cost_0 : decode cX6_cost 0 = .ok (.iload_n 1, 1) := by decide +kernel
theorem dX6_cost_1 : decode cX6_cost 1 = .ok (.invokestatic 25, 3) := by decide +kernel
theorem dX6_cost_4 : decode cX6_cost 4 = .ok (.ifCond .eq 24, 3) := by decide +kernel
theorem dX6_cost_7 : decode cX6_cost 7 = .ok (.iload_n 2, 1) := by decide +kernel
theorem dX6_cost_8 : decode cX6_cost 8 = .ok (.invokestatic 25, 3) := by decide +kernel
theorem dX6_cost_11 : decode cX6_cost 11 = .ok (.ifCond .eq 17, 3) := by decide +kernel
theorem dX6_cost_14 : decode cX6_cost 14 = .ok (.aload_n 0, 1) := by decide +kernel
theorem dX6_cost_15 : decode cX6_cost 15 = .ok (.getfield 9, 3) := by decide +kernel
theorem dX6_cost_18 : decode cX6_cost 18 = .ok (.iload_n 1, 1) := by decide +kernel
theorem dX6_cost_19 : decode cX6_cost 19 = .ok (.bipush 8, 2) := by decide +kernel
theorem dX6_cost_21 : decode cX6_cost 21 = .ok (.imul, 1) := by decide +kernel
theorem dX6_cost_22 : decode cX6_cost 22 = .ok (.iload_n 2, 1) := by decide +kernel
theorem dX6_cost_23 : decode cX6_cost 23 = .ok (.iadd, 1) := by decide +kernel
theorem dX6_cost_24 : decode cX6_cost 24 = .ok (.iaload, 1) := by decide +kernel
theorem dX6_cost_25 : decode cX6_cost 25 = .ok (.goto 4, 3) := by decide +kernel
theorem dX6_cost_28 : decode cX6_cost 28 = .ok (.iconst 0, 1) := by decide +kernel
theorem dX6_cost_29 : decode cX6_cost 29 = .ok (.ireturn, 1) := by decide +kernel
theorem dX6_way_0 : decode cX6_way 0 = .ok (.iload_n 1, 1) := by decide +kernel
theorem dX6_way_1 : decode cX6_way 1 = .ok (.invokestatic 25, 3) := by decide +kernel
theorem dX6_way_4 : decode cX6_way 4 = .ok (.ifCond .eq 24, 3) := by decide +kernel
theorem dX6_way_7 : decode cX6_way 7 = .ok (.iload_n 2, 1) := by decide +kernel
theorem dX6_way_8 : decode cX6_way 8 = .ok (.invokestatic 25, 3) := by decide +kernel
theorem dX6_way_11 : decode cX6_way 11 = .ok (.ifCond .eq 17, 3) := by decide +kernel
theorem dX6_way_14 : decode cX6_way 14 = .ok (.aload_n 0, 1) := by decide +kernel
theorem dX6_way_15 : decode cX6_way 15 = .ok (.getfield 15, 3) := by decide +kernel
theorem dX6_way_18 : decode cX6_way 18 = .ok (.iload_n 1, 1) := by decide +kernel
theorem dX6_way_19 : decode cX6_way 19 = .ok (.bipush 8, 2) := by decide +kernel
theorem dX6_way_21 : decode cX6_way 21 = .ok (.imul, 1) := by decide +kernel
theorem dX6_way_22 : decode cX6_way 22 = .ok (.iload_n 2, 1) := by decide +kernel
theorem dX6_way_23 : decode cX6_way 23 = .ok (.iadd, 1) := by decide +kernel
theorem dX6_way_24 : decode cX6_way 24 = .ok (.iaload, 1) := by decide +kernel
theorem dX6_way_25 : decode cX6_way 25 = .ok (.goto 5, 3) := by decide +kernel
theorem dX6_way_28 : decode cX6_way 28 = .ok (.ldc 29, 2) := by decide +kernel
theorem dX6_way_30 : decode cX6_way 30 = .ok (.istore_n 3, 1) := by decide +kernel
theorem dX6_way_31 : decode cX6_way 31 = .ok (.iload_n 3, 1) := by decide +kernel
theorem dX6_way_32 : decode cX6_way 32 = .ok (.ldc 29, 2) := by decide +kernel
theorem dX6_way_34 : decode cX6_way 34 = .ok (.if_icmp .ge 7, 3) := by decide +kernel
theorem dX6_way_37 : decode cX6_way 37 = .ok (.iload_n 3, 1) := by decide +kernel
theorem dX6_way_38 : decode cX6_way 38 = .ok (.goto 4, 3) := by decide +kernel
theorem dX6_way_41 : decode cX6_way 41 = .ok (.iconst (-1), 1) := by decide +kernel
theorem dX6_way_42 : decode cX6_way 42 = .ok (.ireturn, 1) := by decide +kernel
theorem dX6_lay_0 : decode cX6_lay 0 = .ok (.aload_n 0, 1) := by decide +kernel
theorem dX6_lay_1 : decode cX6_lay 1 = .ok (.iload_n 1, 1) := by decide +kernel
theorem dX6_lay_2 : decode cX6_lay 2 = .ok (.iload_n 2, 1) := by decide +kernel
theorem dX6_lay_3 : decode cX6_lay 3 = .ok (.invokevirtual 30, 3) := by decide +kernel
theorem dX6_lay_6 : decode cX6_lay 6 = .ok (.istore 4, 2) := by decide +kernel
theorem dX6_lay_8 : decode cX6_lay 8 = .ok (.iload_n 1, 1) := by decide +kernel
theorem dX6_lay_9 : decode cX6_lay 9 = .ok (.invokestatic 25, 3) := by decide +kernel
theorem dX6_lay_12 : decode cX6_lay 12 = .ok (.ifCond .eq 38, 3) := by decide +kernel
theorem dX6_lay_15 : decode cX6_lay 15 = .ok (.iload_n 2, 1) := by decide +kernel
theorem dX6_lay_16 : decode cX6_lay 16 = .ok (.invokestatic 25, 3) := by decide +kernel
theorem dX6_lay_19 : decode cX6_lay 19 = .ok (.ifCond .eq 31, 3) := by decide +kernel
theorem dX6_lay_22 : decode cX6_lay 22 = .ok (.aload_n 0, 1) := by decide +kernel
theorem dX6_lay_23 : decode cX6_lay 23 = .ok (.getfield 9, 3) := by decide +kernel
theorem dX6_lay_26 : decode cX6_lay 26 = .ok (.iload_n 1, 1) := by decide +kernel
theorem dX6_lay_27 : decode cX6_lay 27 = .ok (.bipush 8, 2) := by decide +kernel
theorem dX6_lay_29 : decode cX6_lay 29 = .ok (.imul, 1) := by decide +kernel
theorem dX6_lay_30 : decode cX6_lay 30 = .ok (.iload_n 2, 1) := by decide +kernel
theorem dX6_lay_31 : decode cX6_lay 31 = .ok (.iadd, 1) := by decide +kernel
theorem dX6_lay_32 : decode cX6_lay 32 = .ok (.iload_n 3, 1) := by decide +kernel
theorem dX6_lay_33 : decode cX6_lay 33 = .ok (.iastore, 1) := by decide +kernel
theorem dX6_lay_34 : decode cX6_lay 34 = .ok (.aload_n 0, 1) := by decide +kernel
theorem dX6_lay_35 : decode cX6_lay 35 = .ok (.getfield 9, 3) := by decide +kernel
theorem dX6_lay_38 : decode cX6_lay 38 = .ok (.iload_n 2, 1) := by decide +kernel
theorem dX6_lay_39 : decode cX6_lay 39 = .ok (.bipush 8, 2) := by decide +kernel
theorem dX6_lay_41 : decode cX6_lay 41 = .ok (.imul, 1) := by decide +kernel
theorem dX6_lay_42 : decode cX6_lay 42 = .ok (.iload_n 1, 1) := by decide +kernel
theorem dX6_lay_43 : decode cX6_lay 43 = .ok (.iadd, 1) := by decide +kernel
theorem dX6_lay_44 : decode cX6_lay 44 = .ok (.iload_n 3, 1) := by decide +kernel
theorem dX6_lay_45 : decode cX6_lay 45 = .ok (.iastore, 1) := by decide +kernel
theorem dX6_lay_46 : decode cX6_lay 46 = .ok (.aload_n 0, 1) := by decide +kernel
theorem dX6_lay_47 : decode cX6_lay 47 = .ok (.invokevirtual 18, 3) := by decide +kernel
theorem dX6_lay_50 : decode cX6_lay 50 = .ok (.iload 4, 2) := by decide +kernel
theorem dX6_lay_52 : decode cX6_lay 52 = .ok (.ireturn, 1) := by decide +kernel
theorem dX6_number_0 : decode cX6_number 0 = .ok (.iconst 0, 1) := by decide +kernel
theorem dX6_number_1 : decode cX6_number 1 = .ok (.istore_n 1, 1) := by decide +kernel
theorem dX6_number_2 : decode cX6_number 2 = .ok (.iconst 0, 1) := by decide +kernel
theorem dX6_number_3 : decode cX6_number 3 = .ok (.istore_n 2, 1) := by decide +kernel
theorem dX6_number_4 : decode cX6_number 4 = .ok (.iload_n 2, 1) := by decide +kernel
theorem dX6_number_5 : decode cX6_number 5 = .ok (.bipush 8, 2) := by decide +kernel
theorem dX6_number_7 : decode cX6_number 7 = .ok (.if_icmp .ge 44, 3) := by decide +kernel
theorem dX6_number_10 : decode cX6_number 10 = .ok (.iconst 0, 1) := by decide +kernel
theorem dX6_number_11 : decode cX6_number 11 = .ok (.istore_n 3, 1) := by decide +kernel
theorem dX6_number_12 : decode cX6_number 12 = .ok (.iload_n 3, 1) := by decide +kernel
theorem dX6_number_13 : decode cX6_number 13 = .ok (.iload_n 2, 1) := by decide +kernel
theorem dX6_number_14 : decode cX6_number 14 = .ok (.if_icmp .ge 31, 3) := by decide +kernel
theorem dX6_number_17 : decode cX6_number 17 = .ok (.iload_n 1, 1) := by decide +kernel
theorem dX6_number_18 : decode cX6_number 18 = .ok (.aload_n 0, 1) := by decide +kernel
theorem dX6_number_19 : decode cX6_number 19 = .ok (.getfield 9, 3) := by decide +kernel
theorem dX6_number_22 : decode cX6_number 22 = .ok (.iload_n 2, 1) := by decide +kernel
theorem dX6_number_23 : decode cX6_number 23 = .ok (.bipush 8, 2) := by decide +kernel
theorem dX6_number_25 : decode cX6_number 25 = .ok (.imul, 1) := by decide +kernel
theorem dX6_number_26 : decode cX6_number 26 = .ok (.iload_n 3, 1) := by decide +kernel
theorem dX6_number_27 : decode cX6_number 27 = .ok (.iadd, 1) := by decide +kernel
theorem dX6_number_28 : decode cX6_number 28 = .ok (.iaload, 1) := by decide +kernel
theorem dX6_number_29 : decode cX6_number 29 = .ok (.ifCond .le 7, 3) := by decide +kernel
theorem dX6_number_32 : decode cX6_number 32 = .ok (.iconst 1, 1) := by decide +kernel
theorem dX6_number_33 : decode cX6_number 33 = .ok (.goto 4, 3) := by decide +kernel
theorem dX6_number_36 : decode cX6_number 36 = .ok (.iconst 0, 1) := by decide +kernel
theorem dX6_number_37 : decode cX6_number 37 = .ok (.iadd, 1) := by decide +kernel
theorem dX6_number_38 : decode cX6_number 38 = .ok (.istore_n 1, 1) := by decide +kernel
theorem dX6_number_39 : decode cX6_number 39 = .ok (.iinc 3 1, 3) := by decide +kernel
theorem dX6_number_42 : decode cX6_number 42 = .ok (.goto (-30), 3) := by decide +kernel
theorem dX6_number_45 : decode cX6_number 45 = .ok (.iinc 2 1, 3) := by decide +kernel
theorem dX6_number_48 : decode cX6_number 48 = .ok (.goto (-44), 3) := by decide +kernel
theorem dX6_number_51 : decode cX6_number 51 = .ok (.iload_n 1, 1) := by decide +kernel
theorem dX6_number_52 : decode cX6_number 52 = .ok (.ireturn, 1) := by decide +kernel
theorem dX6_nextTown_0 : decode cX6_nextTown 0 = .ok (.aload_n 0, 1) := by decide +kernel
theorem dX6_nextTown_1 : decode cX6_nextTown 1 = .ok (.iload_n 1, 1) := by decide +kernel
theorem dX6_nextTown_2 : decode cX6_nextTown 2 = .ok (.iload_n 2, 1) := by decide +kernel
theorem dX6_nextTown_3 : decode cX6_nextTown 3 = .ok (.invokevirtual 34, 3) := by decide +kernel
theorem dX6_nextTown_6 : decode cX6_nextTown 6 = .ok (.istore_n 3, 1) := by decide +kernel
theorem dX6_nextTown_7 : decode cX6_nextTown 7 = .ok (.iload_n 3, 1) := by decide +kernel
theorem dX6_nextTown_8 : decode cX6_nextTown 8 = .ok (.iconst (-1), 1) := by decide +kernel
theorem dX6_nextTown_9 : decode cX6_nextTown 9 = .ok (.if_icmp .eq 8, 3) := by decide +kernel
theorem dX6_nextTown_12 : decode cX6_nextTown 12 = .ok (.iload_n 1, 1) := by decide +kernel
theorem dX6_nextTown_13 : decode cX6_nextTown 13 = .ok (.iload_n 2, 1) := by decide +kernel
theorem dX6_nextTown_14 : decode cX6_nextTown 14 = .ok (.if_icmp .ne 14, 3) := by decide +kernel
theorem dX6_nextTown_17 : decode cX6_nextTown 17 = .ok (.iload_n 3, 1) := by decide +kernel
theorem dX6_nextTown_18 : decode cX6_nextTown 18 = .ok (.iconst (-1), 1) := by decide +kernel
theorem dX6_nextTown_19 : decode cX6_nextTown 19 = .ok (.if_icmp .ne 7, 3) := by decide +kernel
theorem dX6_nextTown_22 : decode cX6_nextTown 22 = .ok (.iconst (-1), 1) := by decide +kernel
theorem dX6_nextTown_23 : decode cX6_nextTown 23 = .ok (.goto 4, 3) := by decide +kernel
theorem dX6_nextTown_26 : decode cX6_nextTown 26 = .ok (.iload_n 2, 1) := by decide +kernel
theorem dX6_nextTown_27 : decode cX6_nextTown 27 = .ok (.ireturn, 1) := by decide +kernel
theorem dX6_nextTown_28 : decode cX6_nextTown 28 = .ok (.iconst 0, 1) := by decide +kernel
theorem dX6_nextTown_29 : decode cX6_nextTown 29 = .ok (.istore 4, 2) := by decide +kernel
theorem dX6_nextTown_31 : decode cX6_nextTown 31 = .ok (.iload 4, 2) := by decide +kernel
theorem dX6_nextTown_33 : decode cX6_nextTown 33 = .ok (.bipush 8, 2) := by decide +kernel
theorem dX6_nextTown_35 : decode cX6_nextTown 35 = .ok (.if_icmp .ge 51, 3) := by decide +kernel
theorem dX6_nextTown_38 : decode cX6_nextTown 38 = .ok (.aload_n 0, 1) := by decide +kernel
theorem dX6_nextTown_39 : decode cX6_nextTown 39 = .ok (.iload 4, 2) := by decide +kernel
theorem dX6_nextTown_41 : decode cX6_nextTown 41 = .ok (.iload_n 2, 1) := by decide +kernel
theorem dX6_nextTown_42 : decode cX6_nextTown 42 = .ok (.invokevirtual 34, 3) := by decide +kernel
theorem dX6_nextTown_45 : decode cX6_nextTown 45 = .ok (.istore 5, 2) := by decide +kernel
theorem dX6_nextTown_47 : decode cX6_nextTown 47 = .ok (.aload_n 0, 1) := by decide +kernel
theorem dX6_nextTown_48 : decode cX6_nextTown 48 = .ok (.iload_n 1, 1) := by decide +kernel
theorem dX6_nextTown_49 : decode cX6_nextTown 49 = .ok (.iload 4, 2) := by decide +kernel
theorem dX6_nextTown_51 : decode cX6_nextTown 51 = .ok (.invokevirtual 30, 3) := by decide +kernel
theorem dX6_nextTown_54 : decode cX6_nextTown 54 = .ok (.ifCond .le 26, 3) := by decide +kernel
theorem dX6_nextTown_57 : decode cX6_nextTown 57 = .ok (.iload 5, 2) := by decide +kernel
theorem dX6_nextTown_59 : decode cX6_nextTown 59 = .ok (.iconst (-1), 1) := by decide +kernel
theorem dX6_nextTown_60 : decode cX6_nextTown 60 = .ok (.if_icmp .eq 20, 3) := by decide +kernel
theorem dX6_nextTown_63 : decode cX6_nextTown 63 = .ok (.aload_n 0, 1) := by decide +kernel
theorem dX6_nextTown_64 : decode cX6_nextTown 64 = .ok (.iload_n 1, 1) := by decide +kernel
theorem dX6_nextTown_65 : decode cX6_nextTown 65 = .ok (.iload 4, 2) := by decide +kernel
theorem dX6_nextTown_67 : decode cX6_nextTown 67 = .ok (.invokevirtual 30, 3) := by decide +kernel
theorem dX6_nextTown_70 : decode cX6_nextTown 70 = .ok (.iload 5, 2) := by decide +kernel
theorem dX6_nextTown_72 : decode cX6_nextTown 72 = .ok (.iadd, 1) := by decide +kernel
theorem dX6_nextTown_73 : decode cX6_nextTown 73 = .ok (.iload_n 3, 1) := by decide +kernel
theorem dX6_nextTown_74 : decode cX6_nextTown 74 = .ok (.if_icmp .ne 6, 3) := by decide +kernel
theorem dX6_nextTown_77 : decode cX6_nextTown 77 = .ok (.iload 4, 2) := by decide +kernel
theorem dX6_nextTown_79 : decode cX6_nextTown 79 = .ok (.ireturn, 1) := by decide +kernel
theorem dX6_nextTown_80 : decode cX6_nextTown 80 = .ok (.iinc 4 1, 3) := by decide +kernel
theorem dX6_nextTown_83 : decode cX6_nextTown 83 = .ok (.goto (-52), 3) := by decide +kernel
theorem dX6_nextTown_86 : decode cX6_nextTown 86 = .ok (.iconst (-1), 1) := by decide +kernel
theorem dX6_nextTown_87 : decode cX6_nextTown 87 = .ok (.ireturn, 1) := by decide +kernel
theorem dX6_measure_0 : decode cX6_measure 0 = .ok (.aload_n 0, 1) := by decide +kernel
theorem dX6_measure_1 : decode cX6_measure 1 = .ok (.invokevirtual 37, 3) := by decide +kernel
theorem dX6_measure_4 : decode cX6_measure 4 = .ok (.iconst 0, 1) := by decide +kernel
theorem dX6_measure_5 : decode cX6_measure 5 = .ok (.istore_n 1, 1) := by decide +kernel
theorem dX6_measure_6 : decode cX6_measure 6 = .ok (.iload_n 1, 1) := by decide +kernel
theorem dX6_measure_7 : decode cX6_measure 7 = .ok (.bipush 8, 2) := by decide +kernel
theorem dX6_measure_9 : decode cX6_measure 9 = .ok (.if_icmp .ge 89, 3) := by decide +kernel
theorem dX6_measure_12 : decode cX6_measure 12 = .ok (.iconst 0, 1) := by decide +kernel
theorem dX6_measure_13 : decode cX6_measure 13 = .ok (.istore_n 2, 1) := by decide +kernel
theorem dX6_measure_14 : decode cX6_measure 14 = .ok (.iload_n 2, 1) := by decide +kernel
theorem dX6_measure_15 : decode cX6_measure 15 = .ok (.bipush 8, 2) := by decide +kernel
theorem dX6_measure_17 : decode cX6_measure 17 = .ok (.if_icmp .ge 75, 3) := by decide +kernel
theorem dX6_measure_20 : decode cX6_measure 20 = .ok (.iconst 0, 1) := by decide +kernel
theorem dX6_measure_21 : decode cX6_measure 21 = .ok (.istore_n 3, 1) := by decide +kernel
theorem dX6_measure_22 : decode cX6_measure 22 = .ok (.iload_n 3, 1) := by decide +kernel
theorem dX6_measure_23 : decode cX6_measure 23 = .ok (.bipush 8, 2) := by decide +kernel
theorem dX6_measure_25 : decode cX6_measure 25 = .ok (.if_icmp .ge 61, 3) := by decide +kernel
theorem dX6_measure_28 : decode cX6_measure 28 = .ok (.aload_n 0, 1) := by decide +kernel
theorem dX6_measure_29 : decode cX6_measure 29 = .ok (.getfield 15, 3) := by decide +kernel
theorem dX6_measure_32 : decode cX6_measure 32 = .ok (.iload_n 2, 1) := by decide +kernel
theorem dX6_measure_33 : decode cX6_measure 33 = .ok (.bipush 8, 2) := by decide +kernel
theorem dX6_measure_35 : decode cX6_measure 35 = .ok (.imul, 1) := by decide +kernel
theorem dX6_measure_36 : decode cX6_measure 36 = .ok (.iload_n 1, 1) := by decide +kernel
theorem dX6_measure_37 : decode cX6_measure 37 = .ok (.iadd, 1) := by decide +kernel
theorem dX6_measure_38 : decode cX6_measure 38 = .ok (.iaload, 1) := by decide +kernel
theorem dX6_measure_39 : decode cX6_measure 39 = .ok (.aload_n 0, 1) := by decide +kernel
theorem dX6_measure_40 : decode cX6_measure 40 = .ok (.getfield 15, 3) := by decide +kernel
theorem dX6_measure_43 : decode cX6_measure 43 = .ok (.iload_n 1, 1) := by decide +kernel
theorem dX6_measure_44 : decode cX6_measure 44 = .ok (.bipush 8, 2) := by decide +kernel
theorem dX6_measure_46 : decode cX6_measure 46 = .ok (.imul, 1) := by decide +kernel
theorem dX6_measure_47 : decode cX6_measure 47 = .ok (.iload_n 3, 1) := by decide +kernel
theorem dX6_measure_48 : decode cX6_measure 48 = .ok (.iadd, 1) := by decide +kernel
theorem dX6_measure_49 : decode cX6_measure 49 = .ok (.iaload, 1) := by decide +kernel
theorem dX6_measure_50 : decode cX6_measure 50 = .ok (.iadd, 1) := by decide +kernel
theorem dX6_measure_51 : decode cX6_measure 51 = .ok (.istore 4, 2) := by decide +kernel
theorem dX6_measure_53 : decode cX6_measure 53 = .ok (.aload_n 0, 1) := by decide +kernel
theorem dX6_measure_54 : decode cX6_measure 54 = .ok (.getfield 15, 3) := by decide +kernel
theorem dX6_measure_57 : decode cX6_measure 57 = .ok (.iload_n 2, 1) := by decide +kernel
theorem dX6_measure_58 : decode cX6_measure 58 = .ok (.bipush 8, 2) := by decide +kernel
theorem dX6_measure_60 : decode cX6_measure 60 = .ok (.imul, 1) := by decide +kernel
theorem dX6_measure_61 : decode cX6_measure 61 = .ok (.iload_n 3, 1) := by decide +kernel
theorem dX6_measure_62 : decode cX6_measure 62 = .ok (.iadd, 1) := by decide +kernel
theorem dX6_measure_63 : decode cX6_measure 63 = .ok (.iload 4, 2) := by decide +kernel
theorem dX6_measure_65 : decode cX6_measure 65 = .ok (.aload_n 0, 1) := by decide +kernel
theorem dX6_measure_66 : decode cX6_measure 66 = .ok (.getfield 15, 3) := by decide +kernel
theorem dX6_measure_69 : decode cX6_measure 69 = .ok (.iload_n 2, 1) := by decide +kernel
theorem dX6_measure_70 : decode cX6_measure 70 = .ok (.bipush 8, 2) := by decide +kernel
theorem dX6_measure_72 : decode cX6_measure 72 = .ok (.imul, 1) := by decide +kernel
theorem dX6_measure_73 : decode cX6_measure 73 = .ok (.iload_n 3, 1) := by decide +kernel
theorem dX6_measure_74 : decode cX6_measure 74 = .ok (.iadd, 1) := by decide +kernel
theorem dX6_measure_75 : decode cX6_measure 75 = .ok (.iaload, 1) := by decide +kernel
theorem dX6_measure_76 : decode cX6_measure 76 = .ok (.invokestatic 40, 3) := by decide +kernel
theorem dX6_measure_79 : decode cX6_measure 79 = .ok (.iastore, 1) := by decide +kernel
theorem dX6_measure_80 : decode cX6_measure 80 = .ok (.iinc 3 1, 3) := by decide +kernel
theorem dX6_measure_83 : decode cX6_measure 83 = .ok (.goto (-61), 3) := by decide +kernel
theorem dX6_measure_86 : decode cX6_measure 86 = .ok (.iinc 2 1, 3) := by decide +kernel
theorem dX6_measure_89 : decode cX6_measure 89 = .ok (.goto (-75), 3) := by decide +kernel
theorem dX6_measure_92 : decode cX6_measure 92 = .ok (.iinc 1 1, 3) := by decide +kernel
theorem dX6_measure_95 : decode cX6_measure 95 = .ok (.goto (-89), 3) := by decide +kernel
theorem dX6_measure_98 : decode cX6_measure 98 = .ok (.return_, 1) := by decide +kernel
theorem dX6_allowRoadsAlone_0 : decode cX6_allowRoadsAlone 0 = .ok (.iconst 0, 1) := by decide +kernel
theorem dX6_allowRoadsAlone_1 : decode cX6_allowRoadsAlone 1 = .ok (.istore_n 1, 1) := by decide +kernel
theorem dX6_allowRoadsAlone_2 : decode cX6_allowRoadsAlone 2 = .ok (.iload_n 1, 1) := by decide +kernel
theorem dX6_allowRoadsAlone_3 : decode cX6_allowRoadsAlone 3 = .ok (.bipush 8, 2) := by decide +kernel
theorem dX6_allowRoadsAlone_5 : decode cX6_allowRoadsAlone 5 = .ok (.if_icmp .ge 65, 3) := by decide +kernel
theorem dX6_allowRoadsAlone_8 : decode cX6_allowRoadsAlone 8 = .ok (.iconst 0, 1) := by decide +kernel
theorem dX6_allowRoadsAlone_9 : decode cX6_allowRoadsAlone 9 = .ok (.istore_n 2, 1) := by decide +kernel
theorem dX6_allowRoadsAlone_10 : decode cX6_allowRoadsAlone 10 = .ok (.iload_n 2, 1) := by decide +kernel
theorem dX6_allowRoadsAlone_11 : decode cX6_allowRoadsAlone 11 = .ok (.bipush 8, 2) := by decide +kernel
theorem dX6_allowRoadsAlone_13 : decode cX6_allowRoadsAlone 13 = .ok (.if_icmp .ge 51, 3) := by decide +kernel
theorem dX6_allowRoadsAlone_16 : decode cX6_allowRoadsAlone 16 = .ok (.aload_n 0, 1) := by decide +kernel
theorem dX6_allowRoadsAlone_17 : decode cX6_allowRoadsAlone 17 = .ok (.getfield 9, 3) := by decide +kernel
theorem dX6_allowRoadsAlone_20 : decode cX6_allowRoadsAlone 20 = .ok (.iload_n 1, 1) := by decide +kernel
theorem dX6_allowRoadsAlone_21 : decode cX6_allowRoadsAlone 21 = .ok (.bipush 8, 2) := by decide +kernel
theorem dX6_allowRoadsAlone_23 : decode cX6_allowRoadsAlone 23 = .ok (.imul, 1) := by decide +kernel
theorem dX6_allowRoadsAlone_24 : decode cX6_allowRoadsAlone 24 = .ok (.iload_n 2, 1) := by decide +kernel
theorem dX6_allowRoadsAlone_25 : decode cX6_allowRoadsAlone 25 = .ok (.iadd, 1) := by decide +kernel
theorem dX6_allowRoadsAlone_26 : decode cX6_allowRoadsAlone 26 = .ok (.iaload, 1) := by decide +kernel
theorem dX6_allowRoadsAlone_27 : decode cX6_allowRoadsAlone 27 = .ok (.istore_n 3, 1) := by decide +kernel
theorem dX6_allowRoadsAlone_28 : decode cX6_allowRoadsAlone 28 = .ok (.aload_n 0, 1) := by decide +kernel
theorem dX6_allowRoadsAlone_29 : decode cX6_allowRoadsAlone 29 = .ok (.getfield 15, 3) := by decide +kernel
theorem dX6_allowRoadsAlone_32 : decode cX6_allowRoadsAlone 32 = .ok (.iload_n 1, 1) := by decide +kernel
theorem dX6_allowRoadsAlone_33 : decode cX6_allowRoadsAlone 33 = .ok (.bipush 8, 2) := by decide +kernel
theorem dX6_allowRoadsAlone_35 : decode cX6_allowRoadsAlone 35 = .ok (.imul, 1) := by decide +kernel
theorem dX6_allowRoadsAlone_36 : decode cX6_allowRoadsAlone 36 = .ok (.iload_n 2, 1) := by decide +kernel
theorem dX6_allowRoadsAlone_37 : decode cX6_allowRoadsAlone 37 = .ok (.iadd, 1) := by decide +kernel
theorem dX6_allowRoadsAlone_38 : decode cX6_allowRoadsAlone 38 = .ok (.iload_n 1, 1) := by decide +kernel
theorem dX6_allowRoadsAlone_39 : decode cX6_allowRoadsAlone 39 = .ok (.iload_n 2, 1) := by decide +kernel
theorem dX6_allowRoadsAlone_40 : decode cX6_allowRoadsAlone 40 = .ok (.if_icmp .ne 7, 3) := by decide +kernel
theorem dX6_allowRoadsAlone_43 : decode cX6_allowRoadsAlone 43 = .ok (.iconst 0, 1) := by decide +kernel
theorem dX6_allowRoadsAlone_44 : decode cX6_allowRoadsAlone 44 = .ok (.goto 13, 3) := by decide +kernel
theorem dX6_allowRoadsAlone_47 : decode cX6_allowRoadsAlone 47 = .ok (.iload_n 3, 1) := by decide +kernel
theorem dX6_allowRoadsAlone_48 : decode cX6_allowRoadsAlone 48 = .ok (.ifCond .le 7, 3) := by decide +kernel
theorem dX6_allowRoadsAlone_51 : decode cX6_allowRoadsAlone 51 = .ok (.iload_n 3, 1) := by decide +kernel
theorem dX6_allowRoadsAlone_52 : decode cX6_allowRoadsAlone 52 = .ok (.goto 5, 3) := by decide +kernel
theorem dX6_allowRoadsAlone_55 : decode cX6_allowRoadsAlone 55 = .ok (.ldc 29, 2) := by decide +kernel
theorem dX6_allowRoadsAlone_57 : decode cX6_allowRoadsAlone 57 = .ok (.iastore, 1) := by decide +kernel
theorem dX6_allowRoadsAlone_58 : decode cX6_allowRoadsAlone 58 = .ok (.iinc 2 1, 3) := by decide +kernel
theorem dX6_allowRoadsAlone_61 : decode cX6_allowRoadsAlone 61 = .ok (.goto (-51), 3) := by decide +kernel
theorem dX6_allowRoadsAlone_64 : decode cX6_allowRoadsAlone 64 = .ok (.iinc 1 1, 3) := by decide +kernel
theorem dX6_allowRoadsAlone_67 : decode cX6_allowRoadsAlone 67 = .ok (.goto (-65), 3) := by decide +kernel
theorem dX6_allowRoadsAlone_70 : decode cX6_allowRoadsAlone 70 = .ok (.return_, 1) := by decide +kernel
theorem dX7_init_0 : decode cX7_init 0 = .ok (.aload_n 0, 1) := by decide +kernel
theorem dX7_init_1 : decode cX7_init 1 = .ok (.invokespecial 1, 3) := by decide +kernel
theorem dX7_init_4 : decode cX7_init 4 = .ok (.aload_n 0, 1) := by decide +kernel
theorem dX7_init_5 : decode cX7_init 5 = .ok (.iload_n 1, 1) := by decide +kernel
theorem dX7_init_6 : decode cX7_init 6 = .ok (.iconst 0, 1) := by decide +kernel
theorem dX7_init_7 : decode cX7_init 7 = .ok (.invokestatic 7, 3) := by decide +kernel
theorem dX7_init_10 : decode cX7_init 10 = .ok (.anewarray 13, 3) := by decide +kernel
theorem dX7_init_13 : decode cX7_init 13 = .ok (.putfield 15, 3) := by decide +kernel
theorem dX7_init_16 : decode cX7_init 16 = .ok (.aload_n 0, 1) := by decide +kernel
theorem dX7_init_17 : decode cX7_init 17 = .ok (.iload_n 1, 1) := by decide +kernel
theorem dX7_init_18 : decode cX7_init 18 = .ok (.iconst 0, 1) := by decide +kernel
theorem dX7_init_19 : decode cX7_init 19 = .ok (.invokestatic 7, 3) := by decide +kernel
theorem dX7_init_22 : decode cX7_init 22 = .ok (.newarray .boolean, 2) := by decide +kernel
theorem dX7_init_24 : decode cX7_init 24 = .ok (.putfield 21, 3) := by decide +kernel
theorem dX7_init_27 : decode cX7_init 27 = .ok (.iconst 0, 1) := by decide +kernel
theorem dX7_init_28 : decode cX7_init 28 = .ok (.istore_n 2, 1) := by decide +kernel
theorem dX7_init_29 : decode cX7_init 29 = .ok (.iload_n 2, 1) := by decide +kernel
theorem dX7_init_30 : decode cX7_init 30 = .ok (.aload_n 0, 1) := by decide +kernel
theorem dX7_init_31 : decode cX7_init 31 = .ok (.getfield 15, 3) := by decide +kernel
theorem dX7_init_34 : decode cX7_init 34 = .ok (.arraylength, 1) := by decide +kernel
theorem dX7_init_35 : decode cX7_init 35 = .ok (.if_icmp .ge 22, 3) := by decide +kernel
theorem dX7_init_38 : decode cX7_init 38 = .ok (.aload_n 0, 1) := by decide +kernel
theorem dX7_init_39 : decode cX7_init 39 = .ok (.getfield 15, 3) := by decide +kernel
theorem dX7_init_42 : decode cX7_init 42 = .ok (.iload_n 2, 1) := by decide +kernel
theorem dX7_init_43 : decode cX7_init 43 = .ok (.new 13, 3) := by decide +kernel
theorem dX7_init_46 : decode cX7_init 46 = .ok (.dup, 1) := by decide +kernel
theorem dX7_init_47 : decode cX7_init 47 = .ok (.invokespecial 25, 3) := by decide +kernel
theorem dX7_init_50 : decode cX7_init 50 = .ok (.aastore, 1) := by decide +kernel
theorem dX7_init_51 : decode cX7_init 51 = .ok (.iinc 2 1, 3) := by decide +kernel
theorem dX7_init_54 : decode cX7_init 54 = .ok (.goto (-25), 3) := by decide +kernel
theorem dX7_init_57 : decode cX7_init 57 = .ok (.return_, 1) := by decide +kernel
theorem dX7_holds_0 : decode cX7_holds 0 = .ok (.iload_n 1, 1) := by decide +kernel
theorem dX7_holds_1 : decode cX7_holds 1 = .ok (.ifCond .lt 25, 3) := by decide +kernel
theorem dX7_holds_4 : decode cX7_holds 4 = .ok (.iload_n 1, 1) := by decide +kernel
theorem dX7_holds_5 : decode cX7_holds 5 = .ok (.aload_n 0, 1) := by decide +kernel
theorem dX7_holds_6 : decode cX7_holds 6 = .ok (.getfield 21, 3) := by decide +kernel
theorem dX7_holds_9 : decode cX7_holds 9 = .ok (.arraylength, 1) := by decide +kernel
theorem dX7_holds_10 : decode cX7_holds 10 = .ok (.if_icmp .ge 16, 3) := by decide +kernel
theorem dX7_holds_13 : decode cX7_holds 13 = .ok (.aload_n 0, 1) := by decide +kernel
theorem dX7_holds_14 : decode cX7_holds 14 = .ok (.getfield 21, 3) := by decide +kernel
theorem dX7_holds_17 : decode cX7_holds 17 = .ok (.iload_n 1, 1) := by decide +kernel
theorem dX7_holds_18 : decode cX7_holds 18 = .ok (.baload, 1) := by decide +kernel
theorem dX7_holds_19 : decode cX7_holds 19 = .ok (.ifCond .eq 7, 3) := by decide +kernel
theorem dX7_holds_22 : decode cX7_holds 22 = .ok (.iconst 1, 1) := by decide +kernel
theorem dX7_holds_23 : decode cX7_holds 23 = .ok (.goto 4, 3) := by decide +kernel
theorem dX7_holds_26 : decode cX7_holds 26 = .ok (.iconst 0, 1) := by decide +kernel
theorem dX7_holds_27 : decode cX7_holds 27 = .ok (.ireturn, 1) := by decide +kernel
theorem dX7_put_0 : decode cX7_put 0 = .ok (.aload_n 0, 1) := by decide +kernel
theorem dX7_put_1 : decode cX7_put 1 = .ok (.iload_n 1, 1) := by decide +kernel
theorem dX7_put_2 : decode cX7_put 2 = .ok (.invokevirtual 26, 3) := by decide +kernel
theorem dX7_put_5 : decode cX7_put 5 = .ok (.astore_n 3, 1) := by decide +kernel
theorem dX7_put_6 : decode cX7_put 6 = .ok (.aload_n 3, 1) := by decide +kernel
theorem dX7_put_7 : decode cX7_put 7 = .ok (.ifnull 28, 3) := by decide +kernel
theorem dX7_put_10 : decode cX7_put 10 = .ok (.iload_n 1, 1) := by decide +kernel
theorem dX7_put_11 : decode cX7_put 11 = .ok (.ifCond .lt 24, 3) := by decide +kernel
theorem dX7_put_14 : decode cX7_put 14 = .ok (.iload_n 1, 1) := by decide +kernel
theorem dX7_put_15 : decode cX7_put 15 = .ok (.aload_n 0, 1) := by decide +kernel
theorem dX7_put_16 : decode cX7_put 16 = .ok (.getfield 21, 3) := by decide +kernel
theorem dX7_put_19 : decode cX7_put 19 = .ok (.arraylength, 1) := by decide +kernel
theorem dX7_put_20 : decode cX7_put 20 = .ok (.if_icmp .ge 15, 3) := by decide +kernel
theorem dX7_put_23 : decode cX7_put 23 = .ok (.aload_n 3, 1) := by decide +kernel
theorem dX7_put_24 : decode cX7_put 24 = .ok (.aload_n 2, 1) := by decide +kernel
theorem dX7_put_25 : decode cX7_put 25 = .ok (.invokevirtual 30, 3) := by decide +kernel
theorem dX7_put_28 : decode cX7_put 28 = .ok (.aload_n 0, 1) := by decide +kernel
theorem dX7_put_29 : decode cX7_put 29 = .ok (.getfield 21, 3) := by decide +kernel
theorem dX7_put_32 : decode cX7_put 32 = .ok (.iload_n 1, 1) := by decide +kernel
theorem dX7_put_33 : decode cX7_put 33 = .ok (.iconst 1, 1) := by decide +kernel
theorem dX7_put_34 : decode cX7_put 34 = .ok (.bastore, 1) := by decide +kernel
theorem dX7_put_35 : decode cX7_put 35 = .ok (.return_, 1) := by decide +kernel
theorem dX7_copyTo_0 : decode cX7_copyTo 0 = .ok (.aload_n 0, 1) := by decide +kernel
theorem dX7_copyTo_1 : decode cX7_copyTo 1 = .ok (.iload_n 1, 1) := by decide +kernel
theorem dX7_copyTo_2 : decode cX7_copyTo 2 = .ok (.invokevirtual 26, 3) := by decide +kernel
theorem dX7_copyTo_5 : decode cX7_copyTo 5 = .ok (.astore_n 3, 1) := by decide +kernel
theorem dX7_copyTo_6 : decode cX7_copyTo 6 = .ok (.aload_n 3, 1) := by decide +kernel
theorem dX7_copyTo_7 : decode cX7_copyTo 7 = .ok (.ifnull 8, 3) := by decide +kernel
theorem dX7_copyTo_10 : decode cX7_copyTo 10 = .ok (.aload_n 2, 1) := by decide +kernel
theorem dX7_copyTo_11 : decode cX7_copyTo 11 = .ok (.aload_n 3, 1) := by decide +kernel
theorem dX7_copyTo_12 : decode cX7_copyTo 12 = .ok (.invokevirtual 30, 3) := by decide +kernel
theorem dX7_copyTo_15 : decode cX7_copyTo 15 = .ok (.return_, 1) := by decide +kernel
theorem dX7_at_0 : decode cX7_at 0 = .ok (.iload_n 1, 1) := by decide +kernel
theorem dX7_at_1 : decode cX7_at 1 = .ok (.ifCond .lt 21, 3) := by decide +kernel
theorem dX7_at_4 : decode cX7_at 4 = .ok (.iload_n 1, 1) := by decide +kernel
theorem dX7_at_5 : decode cX7_at 5 = .ok (.aload_n 0, 1) := by decide +kernel
theorem dX7_at_6 : decode cX7_at 6 = .ok (.getfield 15, 3) := by decide +kernel
theorem dX7_at_9 : decode cX7_at 9 = .ok (.arraylength, 1) := by decide +kernel
theorem dX7_at_10 : decode cX7_at 10 = .ok (.if_icmp .ge 12, 3) := by decide +kernel
theorem dX7_at_13 : decode cX7_at 13 = .ok (.aload_n 0, 1) := by decide +kernel
theorem dX7_at_14 : decode cX7_at 14 = .ok (.getfield 15, 3) := by decide +kernel
theorem dX7_at_17 : decode cX7_at 17 = .ok (.iload_n 1, 1) := by decide +kernel
theorem dX7_at_18 : decode cX7_at 18 = .ok (.aaload, 1) := by decide +kernel
theorem dX7_at_19 : decode cX7_at 19 = .ok (.goto 4, 3) := by decide +kernel
theorem dX7_at_22 : decode cX7_at 22 = .ok (.aconst_null, 1) := by decide +kernel
theorem dX7_at_23 : decode cX7_at 23 = .ok (.areturn, 1) := by decide +kernel
theorem dX8_init_0 : decode cX8_init 0 = .ok (.aload_n 0, 1) := by decide +kernel
theorem dX8_init_1 : decode cX8_init 1 = .ok (.invokespecial 3, 3) := by decide +kernel
theorem dX8_init_4 : decode cX8_init 4 = .ok (.aload_n 0, 1) := by decide +kernel
theorem dX8_init_5 : decode cX8_init 5 = .ok (.bipush 60, 2) := by decide +kernel
theorem dX8_init_7 : decode cX8_init 7 = .ok (.newarray .int, 2) := by decide +kernel
theorem dX8_init_9 : decode cX8_init 9 = .ok (.putfield 9, 3) := by decide +kernel
theorem dX8_init_12 : decode cX8_init 12 = .ok (.return_, 1) := by decide +kernel
theorem dX8_length_0 : decode cX8_length 0 = .ok (.aload_n 0, 1) := by decide +kernel
theorem dX8_length_1 : decode cX8_length 1 = .ok (.getfield 15, 3) := by decide +kernel
theorem dX8_length_4 : decode cX8_length 4 = .ok (.ireturn, 1) := by decide +kernel
theorem dX8_isFull_0 : decode cX8_isFull 0 = .ok (.aload_n 0, 1) := by decide +kernel
theorem dX8_isFull_1 : decode cX8_isFull 1 = .ok (.getfield 15, 3) := by decide +kernel
theorem dX8_isFull_4 : decode cX8_isFull 4 = .ok (.bipush 60, 2) := by decide +kernel
theorem dX8_isFull_6 : decode cX8_isFull 6 = .ok (.if_icmp .lt 7, 3) := by decide +kernel
theorem dX8_isFull_9 : decode cX8_isFull 9 = .ok (.iconst 1, 1) := by decide +kernel
theorem dX8_isFull_10 : decode cX8_isFull 10 = .ok (.goto 4, 3) := by decide +kernel
theorem dX8_isFull_13 : decode cX8_isFull 13 = .ok (.iconst 0, 1) := by decide +kernel
theorem dX8_isFull_14 : decode cX8_isFull 14 = .ok (.ireturn, 1) := by decide +kernel
theorem dX8_code_0 : decode cX8_code 0 = .ok (.iload_n 1, 1) := by decide +kernel
theorem dX8_code_1 : decode cX8_code 1 = .ok (.ifCond .lt 26, 3) := by decide +kernel
theorem dX8_code_4 : decode cX8_code 4 = .ok (.iload_n 1, 1) := by decide +kernel
theorem dX8_code_5 : decode cX8_code 5 = .ok (.aload_n 0, 1) := by decide +kernel
theorem dX8_code_6 : decode cX8_code 6 = .ok (.getfield 15, 3) := by decide +kernel
theorem dX8_code_9 : decode cX8_code 9 = .ok (.if_icmp .ge 18, 3) := by decide +kernel
theorem dX8_code_12 : decode cX8_code 12 = .ok (.iload_n 1, 1) := by decide +kernel
theorem dX8_code_13 : decode cX8_code 13 = .ok (.bipush 60, 2) := by decide +kernel
theorem dX8_code_15 : decode cX8_code 15 = .ok (.if_icmp .ge 12, 3) := by decide +kernel
theorem dX8_code_18 : decode cX8_code 18 = .ok (.aload_n 0, 1) := by decide +kernel
theorem dX8_code_19 : decode cX8_code 19 = .ok (.getfield 9, 3) := by decide +kernel
theorem dX8_code_22 : decode cX8_code 22 = .ok (.iload_n 1, 1) := by decide +kernel
theorem dX8_code_23 : decode cX8_code 23 = .ok (.iaload, 1) := by decide +kernel
theorem dX8_code_24 : decode cX8_code 24 = .ok (.goto 4, 3) := by decide +kernel
theorem dX8_code_27 : decode cX8_code 27 = .ok (.iconst 0, 1) := by decide +kernel
theorem dX8_code_28 : decode cX8_code 28 = .ok (.ireturn, 1) := by decide +kernel
theorem dX8_digit_0 : decode cX8_digit 0 = .ok (.aload_n 0, 1) := by decide +kernel
theorem dX8_digit_1 : decode cX8_digit 1 = .ok (.iload_n 1, 1) := by decide +kernel
theorem dX8_digit_2 : decode cX8_digit 2 = .ok (.invokevirtual 19, 3) := by decide +kernel
theorem dX8_digit_5 : decode cX8_digit 5 = .ok (.bipush 48, 2) := by decide +kernel
theorem dX8_digit_7 : decode cX8_digit 7 = .ok (.isub, 1) := by decide +kernel
theorem dX8_digit_8 : decode cX8_digit 8 = .ok (.ireturn, 1) := by decide +kernel
theorem dX8_add_0 : decode cX8_add 0 = .ok (.aload_n 0, 1) := by decide +kernel
theorem dX8_add_1 : decode cX8_add 1 = .ok (.getfield 15, 3) := by decide +kernel
theorem dX8_add_4 : decode cX8_add 4 = .ok (.ifCond .lt 32, 3) := by decide +kernel
theorem dX8_add_7 : decode cX8_add 7 = .ok (.aload_n 0, 1) := by decide +kernel
theorem dX8_add_8 : decode cX8_add 8 = .ok (.getfield 15, 3) := by decide +kernel
theorem dX8_add_11 : decode cX8_add 11 = .ok (.bipush 60, 2) := by decide +kernel
theorem dX8_add_13 : decode cX8_add 13 = .ok (.if_icmp .ge 23, 3) := by decide +kernel
theorem dX8_add_16 : decode cX8_add 16 = .ok (.aload_n 0, 1) := by decide +kernel
theorem dX8_add_17 : decode cX8_add 17 = .ok (.getfield 9, 3) := by decide +kernel
theorem dX8_add_20 : decode cX8_add 20 = .ok (.aload_n 0, 1) := by decide +kernel
theorem dX8_add_21 : decode cX8_add 21 = .ok (.getfield 15, 3) := by decide +kernel
theorem dX8_add_24 : decode cX8_add 24 = .ok (.iload_n 1, 1) := by decide +kernel
theorem dX8_add_25 : decode cX8_add 25 = .ok (.iastore, 1) := by decide +kernel
theorem dX8_add_26 : decode cX8_add 26 = .ok (.aload_n 0, 1) := by decide +kernel
theorem dX8_add_27 : decode cX8_add 27 = .ok (.dup, 1) := by decide +kernel
theorem dX8_add_28 : decode cX8_add 28 = .ok (.getfield 15, 3) := by decide +kernel
theorem dX8_add_31 : decode cX8_add 31 = .ok (.iconst 1, 1) := by decide +kernel
theorem dX8_add_32 : decode cX8_add 32 = .ok (.iadd, 1) := by decide +kernel
theorem dX8_add_33 : decode cX8_add 33 = .ok (.putfield 15, 3) := by decide +kernel
theorem dX8_add_36 : decode cX8_add 36 = .ok (.aload_n 0, 1) := by decide +kernel
theorem dX8_add_37 : decode cX8_add 37 = .ok (.getfield 15, 3) := by decide +kernel
theorem dX8_add_40 : decode cX8_add 40 = .ok (.ireturn, 1) := by decide +kernel
theorem dX8_wipe_0 : decode cX8_wipe 0 = .ok (.aload_n 0, 1) := by decide +kernel
theorem dX8_wipe_1 : decode cX8_wipe 1 = .ok (.getfield 15, 3) := by decide +kernel
theorem dX8_wipe_4 : decode cX8_wipe 4 = .ok (.istore_n 1, 1) := by decide +kernel
theorem dX8_wipe_5 : decode cX8_wipe 5 = .ok (.aload_n 0, 1) := by decide +kernel
theorem dX8_wipe_6 : decode cX8_wipe 6 = .ok (.iconst 0, 1) := by decide +kernel
theorem dX8_wipe_7 : decode cX8_wipe 7 = .ok (.putfield 15, 3) := by decide +kernel
theorem dX8_wipe_10 : decode cX8_wipe 10 = .ok (.iload_n 1, 1) := by decide +kernel
theorem dX8_wipe_11 : decode cX8_wipe 11 = .ok (.ireturn, 1) := by decide +kernel
theorem dX8_isDay_0 : decode cX8_isDay 0 = .ok (.iconst 0, 1) := by decide +kernel
theorem dX8_isDay_1 : decode cX8_isDay 1 = .ok (.istore_n 1, 1) := by decide +kernel
theorem dX8_isDay_2 : decode cX8_isDay 2 = .ok (.iconst 0, 1) := by decide +kernel
theorem dX8_isDay_3 : decode cX8_isDay 3 = .ok (.istore_n 2, 1) := by decide +kernel
theorem dX8_isDay_4 : decode cX8_isDay 4 = .ok (.iload_n 2, 1) := by decide +kernel
theorem dX8_isDay_5 : decode cX8_isDay 5 = .ok (.aload_n 0, 1) := by decide +kernel
theorem dX8_isDay_6 : decode cX8_isDay 6 = .ok (.getfield 15, 3) := by decide +kernel
theorem dX8_isDay_9 : decode cX8_isDay 9 = .ok (.if_icmp .ge 16, 3) := by decide +kernel
theorem dX8_isDay_12 : decode cX8_isDay 12 = .ok (.aload_n 0, 1) := by decide +kernel
theorem dX8_isDay_13 : decode cX8_isDay 13 = .ok (.iload_n 1, 1) := by decide +kernel
theorem dX8_isDay_14 : decode cX8_isDay 14 = .ok (.iload_n 2, 1) := by decide +kernel
theorem dX8_isDay_15 : decode cX8_isDay 15 = .ok (.invokevirtual 23, 3) := by decide +kernel
theorem dX8_isDay_18 : decode cX8_isDay 18 = .ok (.istore_n 1, 1) := by decide +kernel
theorem dX8_isDay_19 : decode cX8_isDay 19 = .ok (.iinc 2 1, 3) := by decide +kernel
theorem dX8_isDay_22 : decode cX8_isDay 22 = .ok (.goto (-18), 3) := by decide +kernel
theorem dX8_isDay_25 : decode cX8_isDay 25 = .ok (.iload_n 1, 1) := by decide +kernel
theorem dX8_isDay_26 : decode cX8_isDay 26 = .ok (.iconst 4, 1) := by decide +kernel
theorem dX8_isDay_27 : decode cX8_isDay 27 = .ok (.if_icmp .eq 15, 3) := by decide +kernel
theorem dX8_isDay_30 : decode cX8_isDay 30 = .ok (.iload_n 1, 1) := by decide +kernel
theorem dX8_isDay_31 : decode cX8_isDay 31 = .ok (.bipush 10, 2) := by decide +kernel
theorem dX8_isDay_33 : decode cX8_isDay 33 = .ok (.if_icmp .eq 9, 3) := by decide +kernel
theorem dX8_isDay_36 : decode cX8_isDay 36 = .ok (.iload_n 1, 1) := by decide +kernel
theorem dX8_isDay_37 : decode cX8_isDay 37 = .ok (.bipush 12, 2) := by decide +kernel
theorem dX8_isDay_39 : decode cX8_isDay 39 = .ok (.if_icmp .ne 7, 3) := by decide +kernel
theorem dX8_isDay_42 : decode cX8_isDay 42 = .ok (.iconst 1, 1) := by decide +kernel
theorem dX8_isDay_43 : decode cX8_isDay 43 = .ok (.goto 4, 3) := by decide +kernel
theorem dX8_isDay_46 : decode cX8_isDay 46 = .ok (.iconst 0, 1) := by decide +kernel
theorem dX8_isDay_47 : decode cX8_isDay 47 = .ok (.ireturn, 1) := by decide +kernel
theorem dX8_beginsOrder_0 : decode cX8_beginsOrder 0 = .ok (.iload_n 1, 1) := by decide +kernel
theorem dX8_beginsOrder_1 : decode cX8_beginsOrder 1 = .ok (.ifCond .eq 15, 3) := by decide +kernel
theorem dX8_beginsOrder_4 : decode cX8_beginsOrder 4 = .ok (.aload_n 0, 1) := by decide +kernel
theorem dX8_beginsOrder_5 : decode cX8_beginsOrder 5 = .ok (.iload_n 1, 1) := by decide +kernel
theorem dX8_beginsOrder_6 : decode cX8_beginsOrder 6 = .ok (.iconst 1, 1) := by decide +kernel
theorem dX8_beginsOrder_7 : decode cX8_beginsOrder 7 = .ok (.isub, 1) := by decide +kernel
theorem dX8_beginsOrder_8 : decode cX8_beginsOrder 8 = .ok (.invokevirtual 19, 3) := by decide +kernel
theorem dX8_beginsOrder_11 : decode cX8_beginsOrder 11 = .ok (.bipush 59, 2) := by decide +kernel
theorem dX8_beginsOrder_13 : decode cX8_beginsOrder 13 = .ok (.if_icmp .ne 7, 3) := by decide +kernel
theorem dX8_beginsOrder_16 : decode cX8_beginsOrder 16 = .ok (.iconst 1, 1) := by decide +kernel
theorem dX8_beginsOrder_17 : decode cX8_beginsOrder 17 = .ok (.goto 4, 3) := by decide +kernel
theorem dX8_beginsOrder_20 : decode cX8_beginsOrder 20 = .ok (.iconst 0, 1) := by decide +kernel
theorem dX8_beginsOrder_21 : decode cX8_beginsOrder 21 = .ok (.ireturn, 1) := by decide +kernel
theorem dX8_loaves_0 : decode cX8_loaves 0 = .ok (.aload_n 0, 1) := by decide +kernel
theorem dX8_loaves_1 : decode cX8_loaves 1 = .ok (.iload_n 1, 1) := by decide +kernel
theorem dX8_loaves_2 : decode cX8_loaves 2 = .ok (.iconst 4, 1) := by decide +kernel
theorem dX8_loaves_3 : decode cX8_loaves 3 = .ok (.iadd, 1) := by decide +kernel
theorem dX8_loaves_4 : decode cX8_loaves 4 = .ok (.invokevirtual 19, 3) := by decide +kernel
theorem dX8_loaves_7 : decode cX8_loaves 7 = .ok (.bipush 42, 2) := by decide +kernel
theorem dX8_loaves_9 : decode cX8_loaves 9 = .ok (.if_icmp .ne 13, 3) := by decide +kernel
theorem dX8_loaves_12 : decode cX8_loaves 12 = .ok (.aload_n 0, 1) := by decide +kernel
theorem dX8_loaves_13 : decode cX8_loaves 13 = .ok (.iload_n 1, 1) := by decide +kernel
theorem dX8_loaves_14 : decode cX8_loaves 14 = .ok (.iconst 5, 1) := by decide +kernel
theorem dX8_loaves_15 : decode cX8_loaves 15 = .ok (.iadd, 1) := by decide +kernel
theorem dX8_loaves_16 : decode cX8_loaves 16 = .ok (.invokevirtual 27, 3) := by decide +kernel
theorem dX8_loaves_19 : decode cX8_loaves 19 = .ok (.goto 4, 3) := by decide +kernel
theorem dX8_loaves_22 : decode cX8_loaves 22 = .ok (.iconst 1, 1) := by decide +kernel
theorem dX8_loaves_23 : decode cX8_loaves 23 = .ok (.ireturn, 1) := by decide +kernel
theorem dX8_cost_0 : decode cX8_cost 0 = .ok (.aload_n 0, 1) := by decide +kernel
theorem dX8_cost_1 : decode cX8_cost 1 = .ok (.iload_n 1, 1) := by decide +kernel
theorem dX8_cost_2 : decode cX8_cost 2 = .ok (.iconst 5, 1) := by decide +kernel
theorem dX8_cost_3 : decode cX8_cost 3 = .ok (.iadd, 1) := by decide +kernel
theorem dX8_cost_4 : decode cX8_cost 4 = .ok (.invokevirtual 19, 3) := by decide +kernel
theorem dX8_cost_7 : decode cX8_cost 7 = .ok (.bipush 48, 2) := by decide +kernel
theorem dX8_cost_9 : decode cX8_cost 9 = .ok (.bipush 57, 2) := by decide +kernel
theorem dX8_cost_11 : decode cX8_cost 11 = .ok (.invokestatic 30, 3) := by decide +kernel
theorem dX8_cost_14 : decode cX8_cost 14 = .ok (.ifCond .eq 24, 3) := by decide +kernel
theorem dX8_cost_17 : decode cX8_cost 17 = .ok (.bipush 10, 2) := by decide +kernel
theorem dX8_cost_19 : decode cX8_cost 19 = .ok (.aload_n 0, 1) := by decide +kernel
theorem dX8_cost_20 : decode cX8_cost 20 = .ok (.iload_n 1, 1) := by decide +kernel
theorem dX8_cost_21 : decode cX8_cost 21 = .ok (.iconst 4, 1) := by decide +kernel
theorem dX8_cost_22 : decode cX8_cost 22 = .ok (.iadd, 1) := by decide +kernel
theorem dX8_cost_23 : decode cX8_cost 23 = .ok (.invokevirtual 27, 3) := by decide +kernel
theorem dX8_cost_26 : decode cX8_cost 26 = .ok (.imul, 1) := by decide +kernel
theorem dX8_cost_27 : decode cX8_cost 27 = .ok (.aload_n 0, 1) := by decide +kernel
theorem dX8_cost_28 : decode cX8_cost 28 = .ok (.iload_n 1, 1) := by decide +kernel
theorem dX8_cost_29 : decode cX8_cost 29 = .ok (.iconst 5, 1) := by decide +kernel
theorem dX8_cost_30 : decode cX8_cost 30 = .ok (.iadd, 1) := by decide +kernel
theorem dX8_cost_31 : decode cX8_cost 31 = .ok (.invokevirtual 27, 3) := by decide +kernel
theorem dX8_cost_34 : decode cX8_cost 34 = .ok (.iadd, 1) := by decide +kernel
theorem dX8_cost_35 : decode cX8_cost 35 = .ok (.goto 10, 3) := by decide +kernel
theorem dX8_cost_38 : decode cX8_cost 38 = .ok (.aload_n 0, 1) := by decide +kernel
theorem dX8_cost_39 : decode cX8_cost 39 = .ok (.iload_n 1, 1) := by decide +kernel
theorem dX8_cost_40 : decode cX8_cost 40 = .ok (.iconst 4, 1) := by decide +kernel
theorem dX8_cost_41 : decode cX8_cost 41 = .ok (.iadd, 1) := by decide +kernel
theorem dX8_cost_42 : decode cX8_cost 42 = .ok (.invokevirtual 27, 3) := by decide +kernel
theorem dX8_cost_45 : decode cX8_cost 45 = .ok (.ireturn, 1) := by decide +kernel
theorem dX8_placeAfter_0 : decode cX8_placeAfter 0 = .ok (.aload_n 0, 1) := by decide +kernel
theorem dX8_placeAfter_1 : decode cX8_placeAfter 1 = .ok (.iload_n 2, 1) := by decide +kernel
theorem dX8_placeAfter_2 : decode cX8_placeAfter 2 = .ok (.invokevirtual 19, 3) := by decide +kernel
theorem dX8_placeAfter_5 : decode cX8_placeAfter 5 = .ok (.istore_n 3, 1) := by decide +kernel
theorem dX8_placeAfter_6 : decode cX8_placeAfter 6 = .ok (.iload_n 1, 1) := by decide +kernel
theorem dX8_placeAfter_7 : decode cX8_placeAfter 7 = .ok (.tableswitch 254 0 12 #[65, 70, 84, 97, 115, 130, 149, 164, 190, 204, 209, 230, 249], 65) := by decide +kernel
theorem dX8_placeAfter_72 : decode cX8_placeAfter 72 = .ok (.iload_n 3, 1) := by decide +kernel
theorem dX8_placeAfter_73 : decode cX8_placeAfter 73 = .ok (.invokestatic 34, 3) := by decide +kernel
theorem dX8_placeAfter_76 : decode cX8_placeAfter 76 = .ok (.ireturn, 1) := by decide +kernel
theorem dX8_placeAfter_77 : decode cX8_placeAfter 77 = .ok (.iload_n 3, 1) := by decide +kernel
theorem dX8_placeAfter_78 : decode cX8_placeAfter 78 = .ok (.invokestatic 37, 3) := by decide +kernel
theorem dX8_placeAfter_81 : decode cX8_placeAfter 81 = .ok (.ifCond .eq 7, 3) := by decide +kernel
theorem dX8_placeAfter_84 : decode cX8_placeAfter 84 = .ok (.iconst 2, 1) := by decide +kernel
theorem dX8_placeAfter_85 : decode cX8_placeAfter 85 = .ok (.goto 5, 3) := by decide +kernel
theorem dX8_placeAfter_88 : decode cX8_placeAfter 88 = .ok (.bipush 13, 2) := by decide +kernel
theorem dX8_placeAfter_90 : decode cX8_placeAfter 90 = .ok (.ireturn, 1) := by decide +kernel
theorem dX8_placeAfter_91 : decode cX8_placeAfter 91 = .ok (.iload_n 3, 1) := by decide +kernel
theorem dX8_placeAfter_92 : decode cX8_placeAfter 92 = .ok (.bipush 62, 2) := by decide +kernel
theorem dX8_placeAfter_94 : decode cX8_placeAfter 94 = .ok (.if_icmp .ne 7, 3) := by decide +kernel
theorem dX8_placeAfter_97 : decode cX8_placeAfter 97 = .ok (.iconst 3, 1) := by decide +kernel
theorem dX8_placeAfter_98 : decode cX8_placeAfter 98 = .ok (.goto 5, 3) := by decide +kernel
theorem dX8_placeAfter_101 : decode cX8_placeAfter 101 = .ok (.bipush 13, 2) := by decide +kernel
theorem dX8_placeAfter_103 : decode cX8_placeAfter 103 = .ok (.ireturn, 1) := by decide +kernel
theorem dX8_placeAfter_104 : decode cX8_placeAfter 104 = .ok (.iload_n 3, 1) := by decide +kernel
theorem dX8_placeAfter_105 : decode cX8_placeAfter 105 = .ok (.bipush 48, 2) := by decide +kernel
theorem dX8_placeAfter_107 : decode cX8_placeAfter 107 = .ok (.bipush 51, 2) := by decide +kernel
theorem dX8_placeAfter_109 : decode cX8_placeAfter 109 = .ok (.invokestatic 30, 3) := by decide +kernel
theorem dX8_placeAfter_112 : decode cX8_placeAfter 112 = .ok (.ifCond .eq 7, 3) := by decide +kernel
theorem dX8_placeAfter_115 : decode cX8_placeAfter 115 = .ok (.iconst 4, 1) := by decide +kernel
theorem dX8_placeAfter_116 : decode cX8_placeAfter 116 = .ok (.goto 5, 3) := by decide +kernel
theorem dX8_placeAfter_119 : decode cX8_placeAfter 119 = .ok (.bipush 13, 2) := by decide +kernel
theorem dX8_placeAfter_121 : decode cX8_placeAfter 121 = .ok (.ireturn, 1) := by decide +kernel
theorem dX8_placeAfter_122 : decode cX8_placeAfter 122 = .ok (.iload_n 3, 1) := by decide +kernel
theorem dX8_placeAfter_123 : decode cX8_placeAfter 123 = .ok (.bipush 42, 2) := by decide +kernel
theorem dX8_placeAfter_125 : decode cX8_placeAfter 125 = .ok (.if_icmp .ne 7, 3) := by decide +kernel
theorem dX8_placeAfter_128 : decode cX8_placeAfter 128 = .ok (.iconst 5, 1) := by decide +kernel
theorem dX8_placeAfter_129 : decode cX8_placeAfter 129 = .ok (.goto 7, 3) := by decide +kernel
theorem dX8_placeAfter_132 : decode cX8_placeAfter 132 = .ok (.iload_n 3, 1) := by decide +kernel
theorem dX8_placeAfter_133 : decode cX8_placeAfter 133 = .ok (.invokestatic 41, 3) := by decide +kernel
theorem dX8_placeAfter_136 : decode cX8_placeAfter 136 = .ok (.ireturn, 1) := by decide +kernel
theorem dX8_placeAfter_137 : decode cX8_placeAfter 137 = .ok (.iload_n 3, 1) := by decide +kernel
theorem dX8_placeAfter_138 : decode cX8_placeAfter 138 = .ok (.bipush 50, 2) := by decide +kernel
theorem dX8_placeAfter_140 : decode cX8_placeAfter 140 = .ok (.bipush 57, 2) := by decide +kernel
theorem dX8_placeAfter_142 : decode cX8_placeAfter 142 = .ok (.invokestatic 30, 3) := by decide +kernel
theorem dX8_placeAfter_145 : decode cX8_placeAfter 145 = .ok (.ifCond .eq 8, 3) := by decide +kernel
theorem dX8_placeAfter_148 : decode cX8_placeAfter 148 = .ok (.bipush 12, 2) := by decide +kernel
theorem dX8_placeAfter_150 : decode cX8_placeAfter 150 = .ok (.goto 5, 3) := by decide +kernel
theorem dX8_placeAfter_153 : decode cX8_placeAfter 153 = .ok (.bipush 13, 2) := by decide +kernel
theorem dX8_placeAfter_155 : decode cX8_placeAfter 155 = .ok (.ireturn, 1) := by decide +kernel
theorem dX8_placeAfter_156 : decode cX8_placeAfter 156 = .ok (.iload_n 3, 1) := by decide +kernel
theorem dX8_placeAfter_157 : decode cX8_placeAfter 157 = .ok (.invokestatic 37, 3) := by decide +kernel
theorem dX8_placeAfter_160 : decode cX8_placeAfter 160 = .ok (.ifCond .eq 8, 3) := by decide +kernel
theorem dX8_placeAfter_163 : decode cX8_placeAfter 163 = .ok (.bipush 7, 2) := by decide +kernel
theorem dX8_placeAfter_165 : decode cX8_placeAfter 165 = .ok (.goto 5, 3) := by decide +kernel
theorem dX8_placeAfter_168 : decode cX8_placeAfter 168 = .ok (.bipush 13, 2) := by decide +kernel
theorem dX8_placeAfter_170 : decode cX8_placeAfter 170 = .ok (.ireturn, 1) := by decide +kernel
theorem dX8_placeAfter_171 : decode cX8_placeAfter 171 = .ok (.iload_n 3, 1) := by decide +kernel
theorem dX8_placeAfter_172 : decode cX8_placeAfter 172 = .ok (.invokestatic 37, 3) := by decide +kernel
theorem dX8_placeAfter_175 : decode cX8_placeAfter 175 = .ok (.ifCond .eq 19, 3) := by decide +kernel
theorem dX8_placeAfter_178 : decode cX8_placeAfter 178 = .ok (.iload_n 3, 1) := by decide +kernel
theorem dX8_placeAfter_179 : decode cX8_placeAfter 179 = .ok (.aload_n 0, 1) := by decide +kernel
theorem dX8_placeAfter_180 : decode cX8_placeAfter 180 = .ok (.iload_n 2, 1) := by decide +kernel
theorem dX8_placeAfter_181 : decode cX8_placeAfter 181 = .ok (.iconst 1, 1) := by decide +kernel
theorem dX8_placeAfter_182 : decode cX8_placeAfter 182 = .ok (.isub, 1) := by decide +kernel
theorem dX8_placeAfter_183 : decode cX8_placeAfter 183 = .ok (.invokevirtual 19, 3) := by decide +kernel
theorem dX8_placeAfter_186 : decode cX8_placeAfter 186 = .ok (.if_icmp .eq 8, 3) := by decide +kernel
theorem dX8_placeAfter_189 : decode cX8_placeAfter 189 = .ok (.bipush 8, 2) := by decide +kernel
theorem dX8_placeAfter_191 : decode cX8_placeAfter 191 = .ok (.goto 5, 3) := by decide +kernel
theorem dX8_placeAfter_194 : decode cX8_placeAfter 194 = .ok (.bipush 13, 2) := by decide +kernel
theorem dX8_placeAfter_196 : decode cX8_placeAfter 196 = .ok (.ireturn, 1) := by decide +kernel
theorem dX8_placeAfter_197 : decode cX8_placeAfter 197 = .ok (.iload_n 3, 1) := by decide +kernel
theorem dX8_placeAfter_198 : decode cX8_placeAfter 198 = .ok (.bipush 61, 2) := by decide +kernel
theorem dX8_placeAfter_200 : decode cX8_placeAfter 200 = .ok (.if_icmp .ne 8, 3) := by decide +kernel
theorem dX8_placeAfter_203 : decode cX8_placeAfter 203 = .ok (.bipush 9, 2) := by decide +kernel
theorem dX8_placeAfter_205 : decode cX8_placeAfter 205 = .ok (.goto 5, 3) := by decide +kernel
theorem dX8_placeAfter_208 : decode cX8_placeAfter 208 = .ok (.bipush 13, 2) := by decide +kernel
theorem dX8_placeAfter_210 : decode cX8_placeAfter 210 = .ok (.ireturn, 1) := by decide +kernel
theorem dX8_placeAfter_211 : decode cX8_placeAfter 211 = .ok (.iload_n 3, 1) := by decide +kernel
theorem dX8_placeAfter_212 : decode cX8_placeAfter 212 = .ok (.invokestatic 44, 3) := by decide +kernel
theorem dX8_placeAfter_215 : decode cX8_placeAfter 215 = .ok (.ireturn, 1) := by decide +kernel
theorem dX8_placeAfter_216 : decode cX8_placeAfter 216 = .ok (.iload_n 3, 1) := by decide +kernel
theorem dX8_placeAfter_217 : decode cX8_placeAfter 217 = .ok (.bipush 48, 2) := by decide +kernel
theorem dX8_placeAfter_219 : decode cX8_placeAfter 219 = .ok (.bipush 57, 2) := by decide +kernel
theorem dX8_placeAfter_221 : decode cX8_placeAfter 221 = .ok (.invokestatic 30, 3) := by decide +kernel
theorem dX8_placeAfter_224 : decode cX8_placeAfter 224 = .ok (.ifCond .eq 8, 3) := by decide +kernel
theorem dX8_placeAfter_227 : decode cX8_placeAfter 227 = .ok (.bipush 12, 2) := by decide +kernel
theorem dX8_placeAfter_229 : decode cX8_placeAfter 229 = .ok (.goto 7, 3) := by decide +kernel
theorem dX8_placeAfter_232 : decode cX8_placeAfter 232 = .ok (.iload_n 3, 1) := by decide +kernel
theorem dX8_placeAfter_233 : decode cX8_placeAfter 233 = .ok (.invokestatic 41, 3) := by decide +kernel
theorem dX8_placeAfter_236 : decode cX8_placeAfter 236 = .ok (.ireturn, 1) := by decide +kernel
theorem dX8_placeAfter_237 : decode cX8_placeAfter 237 = .ok (.iload_n 3, 1) := by decide +kernel
theorem dX8_placeAfter_238 : decode cX8_placeAfter 238 = .ok (.bipush 48, 2) := by decide +kernel
theorem dX8_placeAfter_240 : decode cX8_placeAfter 240 = .ok (.bipush 55, 2) := by decide +kernel
theorem dX8_placeAfter_242 : decode cX8_placeAfter 242 = .ok (.invokestatic 30, 3) := by decide +kernel
theorem dX8_placeAfter_245 : decode cX8_placeAfter 245 = .ok (.ifCond .eq 8, 3) := by decide +kernel
theorem dX8_placeAfter_248 : decode cX8_placeAfter 248 = .ok (.bipush 12, 2) := by decide +kernel
theorem dX8_placeAfter_250 : decode cX8_placeAfter 250 = .ok (.goto 5, 3) := by decide +kernel
theorem dX8_placeAfter_253 : decode cX8_placeAfter 253 = .ok (.bipush 13, 2) := by decide +kernel
theorem dX8_placeAfter_255 : decode cX8_placeAfter 255 = .ok (.ireturn, 1) := by decide +kernel
theorem dX8_placeAfter_256 : decode cX8_placeAfter 256 = .ok (.iload_n 3, 1) := by decide +kernel
theorem dX8_placeAfter_257 : decode cX8_placeAfter 257 = .ok (.invokestatic 41, 3) := by decide +kernel
theorem dX8_placeAfter_260 : decode cX8_placeAfter 260 = .ok (.ireturn, 1) := by decide +kernel
theorem dX8_placeAfter_261 : decode cX8_placeAfter 261 = .ok (.bipush 13, 2) := by decide +kernel
theorem dX8_placeAfter_263 : decode cX8_placeAfter 263 = .ok (.ireturn, 1) := by decide +kernel
theorem dX8_afterLetter_0 : decode cX8_afterLetter 0 = .ok (.iload_n 0, 1) := by decide +kernel
theorem dX8_afterLetter_1 : decode cX8_afterLetter 1 = .ok (.lookupswitch 43 #[(114, 37), (115, 35), (120, 40)], 35) := by decide +kernel
theorem dX8_afterLetter_36 : decode cX8_afterLetter 36 = .ok (.iconst 1, 1) := by decide +kernel
theorem dX8_afterLetter_37 : decode cX8_afterLetter 37 = .ok (.ireturn, 1) := by decide +kernel
theorem dX8_afterLetter_38 : decode cX8_afterLetter 38 = .ok (.bipush 6, 2) := by decide +kernel
theorem dX8_afterLetter_40 : decode cX8_afterLetter 40 = .ok (.ireturn, 1) := by decide +kernel
theorem dX8_afterLetter_41 : decode cX8_afterLetter 41 = .ok (.bipush 11, 2) := by decide +kernel
theorem dX8_afterLetter_43 : decode cX8_afterLetter 43 = .ok (.ireturn, 1) := by decide +kernel
theorem dX8_afterLetter_44 : decode cX8_afterLetter 44 = .ok (.bipush 13, 2) := by decide +kernel
theorem dX8_afterLetter_46 : decode cX8_afterLetter 46 = .ok (.ireturn, 1) := by decide +kernel
theorem dX8_afterFirstDigit_0 : decode cX8_afterFirstDigit 0 = .ok (.iload_n 0, 1) := by decide +kernel
theorem dX8_afterFirstDigit_1 : decode cX8_afterFirstDigit 1 = .ok (.bipush 48, 2) := by decide +kernel
theorem dX8_afterFirstDigit_3 : decode cX8_afterFirstDigit 3 = .ok (.if_icmp .ne 6, 3) := by decide +kernel
theorem dX8_afterFirstDigit_6 : decode cX8_afterFirstDigit 6 = .ok (.bipush 12, 2) := by decide +kernel
theorem dX8_afterFirstDigit_8 : decode cX8_afterFirstDigit 8 = .ok (.ireturn, 1) := by decide +kernel
theorem dX8_afterFirstDigit_9 : decode cX8_afterFirstDigit 9 = .ok (.iload_n 0, 1) := by decide +kernel
theorem dX8_afterFirstDigit_10 : decode cX8_afterFirstDigit 10 = .ok (.bipush 49, 2) := by decide +kernel
theorem dX8_afterFirstDigit_12 : decode cX8_afterFirstDigit 12 = .ok (.bipush 57, 2) := by decide +kernel
theorem dX8_afterFirstDigit_14 : decode cX8_afterFirstDigit 14 = .ok (.invokestatic 30, 3) := by decide +kernel
theorem dX8_afterFirstDigit_17 : decode cX8_afterFirstDigit 17 = .ok (.ifCond .eq 8, 3) := by decide +kernel
theorem dX8_afterFirstDigit_20 : decode cX8_afterFirstDigit 20 = .ok (.bipush 10, 2) := by decide +kernel
theorem dX8_afterFirstDigit_22 : decode cX8_afterFirstDigit 22 = .ok (.goto 5, 3) := by decide +kernel
theorem dX8_afterFirstDigit_25 : decode cX8_afterFirstDigit 25 = .ok (.bipush 13, 2) := by decide +kernel
theorem dX8_afterFirstDigit_27 : decode cX8_afterFirstDigit 27 = .ok (.ireturn, 1) := by decide +kernel
theorem dX8_afterOrder_0 : decode cX8_afterOrder 0 = .ok (.iload_n 0, 1) := by decide +kernel
theorem dX8_afterOrder_1 : decode cX8_afterOrder 1 = .ok (.bipush 59, 2) := by decide +kernel
theorem dX8_afterOrder_3 : decode cX8_afterOrder 3 = .ok (.if_icmp .ne 7, 3) := by decide +kernel
theorem dX8_afterOrder_6 : decode cX8_afterOrder 6 = .ok (.iconst 0, 1) := by decide +kernel
theorem dX8_afterOrder_7 : decode cX8_afterOrder 7 = .ok (.goto 5, 3) := by decide +kernel
theorem dX8_afterOrder_10 : decode cX8_afterOrder 10 = .ok (.bipush 13, 2) := by decide +kernel
theorem dX8_afterOrder_12 : decode cX8_afterOrder 12 = .ok (.ireturn, 1) := by decide +kernel
theorem dX8_isTownDigit_0 : decode cX8_isTownDigit 0 = .ok (.iload_n 0, 1) := by decide +kernel
theorem dX8_isTownDigit_1 : decode cX8_isTownDigit 1 = .ok (.bipush 48, 2) := by decide +kernel
theorem dX8_isTownDigit_3 : decode cX8_isTownDigit 3 = .ok (.bipush 55, 2) := by decide +kernel
theorem dX8_isTownDigit_5 : decode cX8_isTownDigit 5 = .ok (.invokestatic 30, 3) := by decide +kernel
theorem dX8_isTownDigit_8 : decode cX8_isTownDigit 8 = .ok (.ireturn, 1) := by decide +kernel
theorem dX8_isIn_0 : decode cX8_isIn 0 = .ok (.iload_n 0, 1) := by decide +kernel
theorem dX8_isIn_1 : decode cX8_isIn 1 = .ok (.iload_n 1, 1) := by decide +kernel
theorem dX8_isIn_2 : decode cX8_isIn 2 = .ok (.if_icmp .lt 12, 3) := by decide +kernel
theorem dX8_isIn_5 : decode cX8_isIn 5 = .ok (.iload_n 0, 1) := by decide +kernel
theorem dX8_isIn_6 : decode cX8_isIn 6 = .ok (.iload_n 2, 1) := by decide +kernel
theorem dX8_isIn_7 : decode cX8_isIn 7 = .ok (.if_icmp .gt 7, 3) := by decide +kernel
theorem dX8_isIn_10 : decode cX8_isIn 10 = .ok (.iconst 1, 1) := by decide +kernel
theorem dX8_isIn_11 : decode cX8_isIn 11 = .ok (.goto 4, 3) := by decide +kernel
theorem dX8_isIn_14 : decode cX8_isIn 14 = .ok (.iconst 0, 1) := by decide +kernel
theorem dX8_isIn_15 : decode cX8_isIn 15 = .ok (.ireturn, 1) := by decide +kernel
theorem dX9_init_0 : decode cX9_init 0 = .ok (.aload_n 0, 1) := by decide +kernel
theorem dX9_init_1 : decode cX9_init 1 = .ok (.invokespecial 1, 3) := by decide +kernel
theorem dX9_init_4 : decode cX9_init 4 = .ok (.aload_n 0, 1) := by decide +kernel
theorem dX9_init_5 : decode cX9_init 5 = .ok (.new 7, 3) := by decide +kernel
theorem dX9_init_8 : decode cX9_init 8 = .ok (.dup, 1) := by decide +kernel
theorem dX9_init_9 : decode cX9_init 9 = .ok (.invokespecial 9, 3) := by decide +kernel
theorem dX9_init_12 : decode cX9_init 12 = .ok (.putfield 10, 3) := by decide +kernel
theorem dX9_init_15 : decode cX9_init 15 = .ok (.aload_n 0, 1) := by decide +kernel
theorem dX9_init_16 : decode cX9_init 16 = .ok (.new 7, 3) := by decide +kernel
theorem dX9_init_19 : decode cX9_init 19 = .ok (.dup, 1) := by decide +kernel
theorem dX9_init_20 : decode cX9_init 20 = .ok (.invokespecial 9, 3) := by decide +kernel
theorem dX9_init_23 : decode cX9_init 23 = .ok (.putfield 16, 3) := by decide +kernel
theorem dX9_init_26 : decode cX9_init 26 = .ok (.aload_n 0, 1) := by decide +kernel
theorem dX9_init_27 : decode cX9_init 27 = .ok (.new 19, 3) := by decide +kernel
theorem dX9_init_30 : decode cX9_init 30 = .ok (.dup, 1) := by decide +kernel
theorem dX9_init_31 : decode cX9_init 31 = .ok (.invokespecial 21, 3) := by decide +kernel
theorem dX9_init_34 : decode cX9_init 34 = .ok (.putfield 22, 3) := by decide +kernel
theorem dX9_init_37 : decode cX9_init 37 = .ok (.aload_n 0, 1) := by decide +kernel
theorem dX9_init_38 : decode cX9_init 38 = .ok (.new 26, 3) := by decide +kernel
theorem dX9_init_41 : decode cX9_init 41 = .ok (.dup, 1) := by decide +kernel
theorem dX9_init_42 : decode cX9_init 42 = .ok (.invokespecial 28, 3) := by decide +kernel
theorem dX9_init_45 : decode cX9_init 45 = .ok (.putfield 29, 3) := by decide +kernel
theorem dX9_init_48 : decode cX9_init 48 = .ok (.aload_n 0, 1) := by decide +kernel
theorem dX9_init_49 : decode cX9_init 49 = .ok (.new 33, 3) := by decide +kernel
theorem dX9_init_52 : decode cX9_init 52 = .ok (.dup, 1) := by decide +kernel
theorem dX9_init_53 : decode cX9_init 53 = .ok (.invokespecial 35, 3) := by decide +kernel
theorem dX9_init_56 : decode cX9_init 56 = .ok (.putfield 36, 3) := by decide +kernel
theorem dX9_init_59 : decode cX9_init 59 = .ok (.aload_n 0, 1) := by decide +kernel
theorem dX9_init_60 : decode cX9_init 60 = .ok (.new 40, 3) := by decide +kernel
theorem dX9_init_63 : decode cX9_init 63 = .ok (.dup, 1) := by decide +kernel
theorem dX9_init_64 : decode cX9_init 64 = .ok (.iconst 2, 1) := by decide +kernel
theorem dX9_init_65 : decode cX9_init 65 = .ok (.invokespecial 42, 3) := by decide +kernel
theorem dX9_init_68 : decode cX9_init 68 = .ok (.putfield 45, 3) := by decide +kernel
theorem dX9_init_71 : decode cX9_init 71 = .ok (.aload_n 0, 1) := by decide +kernel
theorem dX9_init_72 : decode cX9_init 72 = .ok (.new 49, 3) := by decide +kernel
theorem dX9_init_75 : decode cX9_init 75 = .ok (.dup, 1) := by decide +kernel
theorem dX9_init_76 : decode cX9_init 76 = .ok (.invokespecial 51, 3) := by decide +kernel
theorem dX9_init_79 : decode cX9_init 79 = .ok (.putfield 52, 3) := by decide +kernel
theorem dX9_init_82 : decode cX9_init 82 = .ok (.return_, 1) := by decide +kernel
theorem dX9_road_0 : decode cX9_road 0 = .ok (.iload_n 1, 1) := by decide +kernel
theorem dX9_road_1 : decode cX9_road 1 = .ok (.iload_n 2, 1) := by decide +kernel
theorem dX9_road_2 : decode cX9_road 2 = .ok (.invokestatic 56, 3) := by decide +kernel
theorem dX9_road_5 : decode cX9_road 5 = .ok (.iload_n 3, 1) := by decide +kernel
theorem dX9_road_6 : decode cX9_road 6 = .ok (.invokestatic 60, 3) := by decide +kernel
theorem dX9_road_9 : decode cX9_road 9 = .ok (.aload_n 0, 1) := by decide +kernel
theorem dX9_road_10 : decode cX9_road 10 = .ok (.getfield 52, 3) := by decide +kernel
theorem dX9_road_13 : decode cX9_road 13 = .ok (.aload_n 0, 1) := by decide +kernel
theorem dX9_road_14 : decode cX9_road 14 = .ok (.getfield 10, 3) := by decide +kernel
theorem dX9_road_17 : decode cX9_road 17 = .ok (.invokevirtual 63, 3) := by decide +kernel
theorem dX9_road_20 : decode cX9_road 20 = .ok (.aload_n 0, 1) := by decide +kernel
theorem dX9_road_21 : decode cX9_road 21 = .ok (.getfield 10, 3) := by decide +kernel
theorem dX9_road_24 : decode cX9_road 24 = .ok (.getfield 67, 3) := by decide +kernel
theorem dX9_road_27 : decode cX9_road 27 = .ok (.iload_n 1, 1) := by decide +kernel
theorem dX9_road_28 : decode cX9_road 28 = .ok (.iload_n 2, 1) := by decide +kernel
theorem dX9_road_29 : decode cX9_road 29 = .ok (.iload_n 3, 1) := by decide +kernel
theorem dX9_road_30 : decode cX9_road 30 = .ok (.invokevirtual 71, 3) := by decide +kernel
theorem dX9_road_33 : decode cX9_road 33 = .ok (.ireturn, 1) := by decide +kernel
theorem dX9_exit_0 : decode cX9_exit 0 = .ok (.iload_n 1, 1) := by decide +kernel
theorem dX9_exit_1 : decode cX9_exit 1 = .ok (.invokestatic 77, 3) := by decide +kernel
theorem dX9_exit_4 : decode cX9_exit 4 = .ok (.iload_n 2, 1) := by decide +kernel
theorem dX9_exit_5 : decode cX9_exit 5 = .ok (.invokestatic 80, 3) := by decide +kernel
theorem dX9_exit_8 : decode cX9_exit 8 = .ok (.aload_n 0, 1) := by decide +kernel
theorem dX9_exit_9 : decode cX9_exit 9 = .ok (.getfield 10, 3) := by decide +kernel
theorem dX9_exit_12 : decode cX9_exit 12 = .ok (.getfield 83, 3) := by decide +kernel
theorem dX9_exit_15 : decode cX9_exit 15 = .ok (.invokevirtual 87, 3) := by decide +kernel
theorem dX9_exit_18 : decode cX9_exit 18 = .ok (.ifCond .eq 13, 3) := by decide +kernel
theorem dX9_exit_21 : decode cX9_exit 21 = .ok (.new 93, 3) := by decide +kernel
theorem dX9_exit_24 : decode cX9_exit 24 = .ok (.dup, 1) := by decide +kernel
theorem dX9_exit_25 : decode cX9_exit 25 = .ok (.ldc 95, 2) := by decide +kernel
theorem dX9_exit_27 : decode cX9_exit 27 = .ok (.invokespecial 97, 3) := by decide +kernel
theorem dX9_exit_30 : decode cX9_exit 30 = .ok (.athrow, 1) := by decide +kernel
theorem dX9_exit_31 : decode cX9_exit 31 = .ok (.aload_n 0, 1) := by decide +kernel
theorem dX9_exit_32 : decode cX9_exit 32 = .ok (.getfield 52, 3) := by decide +kernel
theorem dX9_exit_35 : decode cX9_exit 35 = .ok (.aload_n 0, 1) := by decide +kernel
theorem dX9_exit_36 : decode cX9_exit 36 = .ok (.getfield 10, 3) := by decide +kernel
theorem dX9_exit_39 : decode cX9_exit 39 = .ok (.invokevirtual 63, 3) := by decide +kernel
theorem dX9_exit_42 : decode cX9_exit 42 = .ok (.aload_n 0, 1) := by decide +kernel
theorem dX9_exit_43 : decode cX9_exit 43 = .ok (.getfield 10, 3) := by decide +kernel
theorem dX9_exit_46 : decode cX9_exit 46 = .ok (.getfield 83, 3) := by decide +kernel
theorem dX9_exit_49 : decode cX9_exit 49 = .ok (.iload_n 1, 1) := by decide +kernel
theorem dX9_exit_50 : decode cX9_exit 50 = .ok (.iload_n 2, 1) := by decide +kernel
theorem dX9_exit_51 : decode cX9_exit 51 = .ok (.invokevirtual 100, 3) := by decide +kernel
theorem dX9_exit_54 : decode cX9_exit 54 = .ok (.ireturn, 1) := by decide +kernel
theorem dX9_turn_0 : decode cX9_turn 0 = .ok (.aload_n 0, 1) := by decide +kernel
theorem dX9_turn_1 : decode cX9_turn 1 = .ok (.iload_n 1, 1) := by decide +kernel
theorem dX9_turn_2 : decode cX9_turn 2 = .ok (.invokevirtual 104, 3) := by decide +kernel
theorem dX9_turn_5 : decode cX9_turn 5 = .ok (.aload_n 0, 1) := by decide +kernel
theorem dX9_turn_6 : decode cX9_turn 6 = .ok (.getfield 52, 3) := by decide +kernel
theorem dX9_turn_9 : decode cX9_turn 9 = .ok (.aload_n 0, 1) := by decide +kernel
theorem dX9_turn_10 : decode cX9_turn 10 = .ok (.getfield 10, 3) := by decide +kernel
theorem dX9_turn_13 : decode cX9_turn 13 = .ok (.invokevirtual 63, 3) := by decide +kernel
theorem dX9_turn_16 : decode cX9_turn 16 = .ok (.aload_n 0, 1) := by decide +kernel
theorem dX9_turn_17 : decode cX9_turn 17 = .ok (.getfield 10, 3) := by decide +kernel
theorem dX9_turn_20 : decode cX9_turn 20 = .ok (.getfield 83, 3) := by decide +kernel
theorem dX9_turn_23 : decode cX9_turn 23 = .ok (.iload_n 1, 1) := by decide +kernel
theorem dX9_turn_24 : decode cX9_turn 24 = .ok (.invokevirtual 107, 3) := by decide +kernel
theorem dX9_turn_27 : decode cX9_turn 27 = .ok (.aload_n 0, 1) := by decide +kernel
theorem dX9_turn_28 : decode cX9_turn 28 = .ok (.getfield 10, 3) := by decide +kernel
theorem dX9_turn_31 : decode cX9_turn 31 = .ok (.getfield 83, 3) := by decide +kernel
theorem dX9_turn_34 : decode cX9_turn 34 = .ok (.iload_n 1, 1) := by decide +kernel
theorem dX9_turn_35 : decode cX9_turn 35 = .ok (.invokevirtual 110, 3) := by decide +kernel
theorem dX9_turn_38 : decode cX9_turn 38 = .ok (.ifCond .eq 7, 3) := by decide +kernel
theorem dX9_turn_41 : decode cX9_turn 41 = .ok (.iconst 1, 1) := by decide +kernel
theorem dX9_turn_42 : decode cX9_turn 42 = .ok (.goto 4, 3) := by decide +kernel
theorem dX9_turn_45 : decode cX9_turn 45 = .ok (.iconst 0, 1) := by decide +kernel
theorem dX9_turn_46 : decode cX9_turn 46 = .ok (.ireturn, 1) := by decide +kernel
theorem dX9_offer_0 : decode cX9_offer 0 = .ok (.iload_n 1, 1) := by decide +kernel
theorem dX9_offer_1 : decode cX9_offer 1 = .ok (.invokestatic 80, 3) := by decide +kernel
theorem dX9_offer_4 : decode cX9_offer 4 = .ok (.iload_n 2, 1) := by decide +kernel
theorem dX9_offer_5 : decode cX9_offer 5 = .ok (.invokestatic 114, 3) := by decide +kernel
theorem dX9_offer_8 : decode cX9_offer 8 = .ok (.iload_n 3, 1) := by decide +kernel
theorem dX9_offer_9 : decode cX9_offer 9 = .ok (.bipush 9, 2) := by decide +kernel
theorem dX9_offer_11 : decode cX9_offer 11 = .ok (.invokestatic 117, 3) := by decide +kernel
theorem dX9_offer_14 : decode cX9_offer 14 = .ok (.aload_n 0, 1) := by decide +kernel
theorem dX9_offer_15 : decode cX9_offer 15 = .ok (.getfield 52, 3) := by decide +kernel
theorem dX9_offer_18 : decode cX9_offer 18 = .ok (.aload_n 0, 1) := by decide +kernel
theorem dX9_offer_19 : decode cX9_offer 19 = .ok (.getfield 10, 3) := by decide +kernel
theorem dX9_offer_22 : decode cX9_offer 22 = .ok (.invokevirtual 63, 3) := by decide +kernel
theorem dX9_offer_25 : decode cX9_offer 25 = .ok (.aload_n 0, 1) := by decide +kernel
theorem dX9_offer_26 : decode cX9_offer 26 = .ok (.getfield 10, 3) := by decide +kernel
theorem dX9_offer_29 : decode cX9_offer 29 = .ok (.getfield 120, 3) := by decide +kernel
theorem dX9_offer_32 : decode cX9_offer 32 = .ok (.iload_n 1, 1) := by decide +kernel
theorem dX9_offer_33 : decode cX9_offer 33 = .ok (.iload_n 2, 1) := by decide +kernel
theorem dX9_offer_34 : decode cX9_offer 34 = .ok (.iload_n 3, 1) := by decide +kernel
theorem dX9_offer_35 : decode cX9_offer 35 = .ok (.invokevirtual 124, 3) := by decide +kernel
theorem dX9_offer_38 : decode cX9_offer 38 = .ok (.ireturn, 1) := by decide +kernel
theorem dX9_bound_0 : decode cX9_bound 0 = .ok (.iload_n 1, 1) := by decide +kernel
theorem dX9_bound_1 : decode cX9_bound 1 = .ok (.invokestatic 80, 3) := by decide +kernel
theorem dX9_bound_4 : decode cX9_bound 4 = .ok (.iload_n 2, 1) := by decide +kernel
theorem dX9_bound_5 : decode cX9_bound 5 = .ok (.bipush 99, 2) := by decide +kernel
theorem dX9_bound_7 : decode cX9_bound 7 = .ok (.invokestatic 117, 3) := by decide +kernel
theorem dX9_bound_10 : decode cX9_bound 10 = .ok (.aload_n 0, 1) := by decide +kernel
theorem dX9_bound_11 : decode cX9_bound 11 = .ok (.getfield 52, 3) := by decide +kernel
theorem dX9_bound_14 : decode cX9_bound 14 = .ok (.aload_n 0, 1) := by decide +kernel
theorem dX9_bound_15 : decode cX9_bound 15 = .ok (.getfield 10, 3) := by decide +kernel
theorem dX9_bound_18 : decode cX9_bound 18 = .ok (.invokevirtual 63, 3) := by decide +kernel
theorem dX9_bound_21 : decode cX9_bound 21 = .ok (.aload_n 0, 1) := by decide +kernel
theorem dX9_bound_22 : decode cX9_bound 22 = .ok (.getfield 10, 3) := by decide +kernel
theorem dX9_bound_25 : decode cX9_bound 25 = .ok (.getfield 120, 3) := by decide +kernel
theorem dX9_bound_28 : decode cX9_bound 28 = .ok (.iload_n 1, 1) := by decide +kernel
theorem dX9_bound_29 : decode cX9_bound 29 = .ok (.iload_n 2, 1) := by decide +kernel
theorem dX9_bound_30 : decode cX9_bound 30 = .ok (.invokevirtual 129, 3) := by decide +kernel
theorem dX9_bound_33 : decode cX9_bound 33 = .ok (.ireturn, 1) := by decide +kernel
theorem dX9_set_0 : decode cX9_set 0 = .ok (.iload_n 1, 1) := by decide +kernel
theorem dX9_set_1 : decode cX9_set 1 = .ok (.ifCond .lt 8, 3) := by decide +kernel
theorem dX9_set_4 : decode cX9_set 4 = .ok (.iload_n 1, 1) := by decide +kernel
theorem dX9_set_5 : decode cX9_set 5 = .ok (.iconst 2, 1) := by decide +kernel
theorem dX9_set_6 : decode cX9_set 6 = .ok (.if_icmp .lt 13, 3) := by decide +kernel
theorem dX9_set_9 : decode cX9_set 9 = .ok (.new 132, 3) := by decide +kernel
theorem dX9_set_12 : decode cX9_set 12 = .ok (.dup, 1) := by decide +kernel
theorem dX9_set_13 : decode cX9_set 13 = .ok (.ldc 134, 2) := by decide +kernel
theorem dX9_set_15 : decode cX9_set 15 = .ok (.invokespecial 136, 3) := by decide +kernel
theorem dX9_set_18 : decode cX9_set 18 = .ok (.athrow, 1) := by decide +kernel
theorem dX9_set_19 : decode cX9_set 19 = .ok (.iload_n 2, 1) := by decide +kernel
theorem dX9_set_20 : decode cX9_set 20 = .ok (.iconst 1, 1) := by decide +kernel
theorem dX9_set_21 : decode cX9_set 21 = .ok (.invokestatic 117, 3) := by decide +kernel
theorem dX9_set_24 : decode cX9_set 24 = .ok (.aload_n 0, 1) := by decide +kernel
theorem dX9_set_25 : decode cX9_set 25 = .ok (.getfield 52, 3) := by decide +kernel
theorem dX9_set_28 : decode cX9_set 28 = .ok (.aload_n 0, 1) := by decide +kernel
theorem dX9_set_29 : decode cX9_set 29 = .ok (.getfield 10, 3) := by decide +kernel
theorem dX9_set_32 : decode cX9_set 32 = .ok (.invokevirtual 63, 3) := by decide +kernel
theorem dX9_set_35 : decode cX9_set 35 = .ok (.aload_n 0, 1) := by decide +kernel
theorem dX9_set_36 : decode cX9_set 36 = .ok (.getfield 10, 3) := by decide +kernel
theorem dX9_set_39 : decode cX9_set 39 = .ok (.iload_n 1, 1) := by decide +kernel
theorem dX9_set_40 : decode cX9_set 40 = .ok (.iload_n 2, 1) := by decide +kernel
theorem dX9_set_41 : decode cX9_set 41 = .ok (.invokevirtual 137, 3) := by decide +kernel
theorem dX9_set_44 : decode cX9_set 44 = .ok (.ireturn, 1) := by decide +kernel
theorem dX9_send_0 : decode cX9_send 0 = .ok (.iload_n 1, 1) := by decide +kernel
theorem dX9_send_1 : decode cX9_send 1 = .ok (.invokestatic 77, 3) := by decide +kernel
theorem dX9_send_4 : decode cX9_send 4 = .ok (.iload_n 2, 1) := by decide +kernel
theorem dX9_send_5 : decode cX9_send 5 = .ok (.invokestatic 114, 3) := by decide +kernel
theorem dX9_send_8 : decode cX9_send 8 = .ok (.aload_n 0, 1) := by decide +kernel
theorem dX9_send_9 : decode cX9_send 9 = .ok (.getfield 10, 3) := by decide +kernel
theorem dX9_send_12 : decode cX9_send 12 = .ok (.getfield 140, 3) := by decide +kernel
theorem dX9_send_15 : decode cX9_send 15 = .ok (.sipush 9999, 3) := by decide +kernel
theorem dX9_send_18 : decode cX9_send 18 = .ok (.if_icmp .lt 13, 3) := by decide +kernel
theorem dX9_send_21 : decode cX9_send 21 = .ok (.new 93, 3) := by decide +kernel
theorem dX9_send_24 : decode cX9_send 24 = .ok (.dup, 1) := by decide +kernel
theorem dX9_send_25 : decode cX9_send 25 = .ok (.ldc 144, 2) := by decide +kernel
theorem dX9_send_27 : decode cX9_send 27 = .ok (.invokespecial 97, 3) := by decide +kernel
theorem dX9_send_30 : decode cX9_send 30 = .ok (.athrow, 1) := by decide +kernel
theorem dX9_send_31 : decode cX9_send 31 = .ok (.aload_n 0, 1) := by decide +kernel
theorem dX9_send_32 : decode cX9_send 32 = .ok (.getfield 52, 3) := by decide +kernel
theorem dX9_send_35 : decode cX9_send 35 = .ok (.aload_n 0, 1) := by decide +kernel
theorem dX9_send_36 : decode cX9_send 36 = .ok (.getfield 10, 3) := by decide +kernel
theorem dX9_send_39 : decode cX9_send 39 = .ok (.invokevirtual 63, 3) := by decide +kernel
theorem dX9_send_42 : decode cX9_send 42 = .ok (.aload_n 0, 1) := by decide +kernel
theorem dX9_send_43 : decode cX9_send 43 = .ok (.iload_n 1, 1) := by decide +kernel
theorem dX9_send_44 : decode cX9_send 44 = .ok (.iload_n 2, 1) := by decide +kernel
theorem dX9_send_45 : decode cX9_send 45 = .ok (.invokevirtual 146, 3) := by decide +kernel
theorem dX9_send_48 : decode cX9_send 48 = .ok (.ireturn, 1) := by decide +kernel
theorem dX9_settle_0 : decode cX9_settle 0 = .ok (.aload_n 0, 1) := by decide +kernel
theorem dX9_settle_1 : decode cX9_settle 1 = .ok (.getfield 52, 3) := by decide +kernel
theorem dX9_settle_4 : decode cX9_settle 4 = .ok (.aload_n 0, 1) := by decide +kernel
theorem dX9_settle_5 : decode cX9_settle 5 = .ok (.getfield 10, 3) := by decide +kernel
theorem dX9_settle_8 : decode cX9_settle 8 = .ok (.invokevirtual 63, 3) := by decide +kernel
theorem dX9_settle_11 : decode cX9_settle 11 = .ok (.aload_n 0, 1) := by decide +kernel
theorem dX9_settle_12 : decode cX9_settle 12 = .ok (.getfield 10, 3) := by decide +kernel
theorem dX9_settle_15 : decode cX9_settle 15 = .ok (.getfield 120, 3) := by decide +kernel
theorem dX9_settle_18 : decode cX9_settle 18 = .ok (.invokevirtual 149, 3) := by decide +kernel
theorem dX9_settle_21 : decode cX9_settle 21 = .ok (.ireturn, 1) := by decide +kernel
theorem dX9_append_0 : decode cX9_append 0 = .ok (.iload_n 1, 1) := by decide +kernel
theorem dX9_append_1 : decode cX9_append 1 = .ok (.bipush 33, 2) := by decide +kernel
theorem dX9_append_3 : decode cX9_append 3 = .ok (.if_icmp .lt 9, 3) := by decide +kernel
theorem dX9_append_6 : decode cX9_append 6 = .ok (.iload_n 1, 1) := by decide +kernel
theorem dX9_append_7 : decode cX9_append 7 = .ok (.bipush 126, 2) := by decide +kernel
theorem dX9_append_9 : decode cX9_append 9 = .ok (.if_icmp .le 13, 3) := by decide +kernel
theorem dX9_append_12 : decode cX9_append 12 = .ok (.new 153, 3) := by decide +kernel
theorem dX9_append_15 : decode cX9_append 15 = .ok (.dup, 1) := by decide +kernel
theorem dX9_append_16 : decode cX9_append 16 = .ok (.ldc 155, 2) := by decide +kernel
theorem dX9_append_18 : decode cX9_append 18 = .ok (.invokespecial 157, 3) := by decide +kernel
theorem dX9_append_21 : decode cX9_append 21 = .ok (.athrow, 1) := by decide +kernel
theorem dX9_append_22 : decode cX9_append 22 = .ok (.aload_n 0, 1) := by decide +kernel
theorem dX9_append_23 : decode cX9_append 23 = .ok (.getfield 36, 3) := by decide +kernel
theorem dX9_append_26 : decode cX9_append 26 = .ok (.invokevirtual 158, 3) := by decide +kernel
theorem dX9_append_29 : decode cX9_append 29 = .ok (.ifCond .eq 13, 3) := by decide +kernel
theorem dX9_append_32 : decode cX9_append 32 = .ok (.new 93, 3) := by decide +kernel
theorem dX9_append_35 : decode cX9_append 35 = .ok (.dup, 1) := by decide +kernel
theorem dX9_append_36 : decode cX9_append 36 = .ok (.ldc 159, 2) := by decide +kernel
theorem dX9_append_38 : decode cX9_append 38 = .ok (.invokespecial 97, 3) := by decide +kernel
theorem dX9_append_41 : decode cX9_append 41 = .ok (.athrow, 1) := by decide +kernel
theorem dX9_append_42 : decode cX9_append 42 = .ok (.aload_n 0, 1) := by decide +kernel
theorem dX9_append_43 : decode cX9_append 43 = .ok (.getfield 36, 3) := by decide +kernel
theorem dX9_append_46 : decode cX9_append 46 = .ok (.iload_n 1, 1) := by decide +kernel
theorem dX9_append_47 : decode cX9_append 47 = .ok (.invokevirtual 161, 3) := by decide +kernel
theorem dX9_append_50 : decode cX9_append 50 = .ok (.ireturn, 1) := by decide +kernel
theorem dX9_run_0 : decode cX9_run 0 = .ok (.aload_n 0, 1) := by decide +kernel
theorem dX9_run_1 : decode cX9_run 1 = .ok (.getfield 36, 3) := by decide +kernel
theorem dX9_run_4 : decode cX9_run 4 = .ok (.invokevirtual 170, 3) := by decide +kernel
theorem dX9_run_7 : decode cX9_run 7 = .ok (.ifCond .ne 13, 3) := by decide +kernel
theorem dX9_run_10 : decode cX9_run 10 = .ok (.new 153, 3) := by decide +kernel
theorem dX9_run_13 : decode cX9_run 13 = .ok (.dup, 1) := by decide +kernel
theorem dX9_run_14 : decode cX9_run 14 = .ok (.ldc 173, 2) := by decide +kernel
theorem dX9_run_16 : decode cX9_run 16 = .ok (.invokespecial 157, 3) := by decide +kernel
theorem dX9_run_19 : decode cX9_run 19 = .ok (.athrow, 1) := by decide +kernel
theorem dX9_run_20 : decode cX9_run 20 = .ok (.aload_n 0, 1) := by decide +kernel
theorem dX9_run_21 : decode cX9_run 21 = .ok (.getfield 52, 3) := by decide +kernel
theorem dX9_run_24 : decode cX9_run 24 = .ok (.aload_n 0, 1) := by decide +kernel
theorem dX9_run_25 : decode cX9_run 25 = .ok (.getfield 10, 3) := by decide +kernel
theorem dX9_run_28 : decode cX9_run 28 = .ok (.invokevirtual 63, 3) := by decide +kernel
theorem dX9_run_31 : decode cX9_run 31 = .ok (.iconst 0, 1) := by decide +kernel
theorem dX9_run_32 : decode cX9_run 32 = .ok (.istore_n 1, 1) := by decide +kernel
theorem dX9_run_33 : decode cX9_run 33 = .ok (.iconst 0, 1) := by decide +kernel
theorem dX9_run_34 : decode cX9_run 34 = .ok (.istore_n 2, 1) := by decide +kernel
theorem dX9_run_35 : decode cX9_run 35 = .ok (.iload_n 2, 1) := by decide +kernel
theorem dX9_run_36 : decode cX9_run 36 = .ok (.aload_n 0, 1) := by decide +kernel
theorem dX9_run_37 : decode cX9_run 37 = .ok (.getfield 36, 3) := by decide +kernel
theorem dX9_run_40 : decode cX9_run 40 = .ok (.invokevirtual 175, 3) := by decide +kernel
theorem dX9_run_43 : decode cX9_run 43 = .ok (.if_icmp .ge 34, 3) := by decide +kernel
theorem dX9_run_46 : decode cX9_run 46 = .ok (.aload_n 0, 1) := by decide +kernel
theorem dX9_run_47 : decode cX9_run 47 = .ok (.getfield 36, 3) := by decide +kernel
theorem dX9_run_50 : decode cX9_run 50 = .ok (.iload_n 2, 1) := by decide +kernel
theorem dX9_run_51 : decode cX9_run 51 = .ok (.invokevirtual 178, 3) := by decide +kernel
theorem dX9_run_54 : decode cX9_run 54 = .ok (.ifCond .eq 17, 3) := by decide +kernel
theorem dX9_run_57 : decode cX9_run 57 = .ok (.aload_n 0, 1) := by decide +kernel
theorem dX9_run_58 : decode cX9_run 58 = .ok (.iload_n 2, 1) := by decide +kernel
theorem dX9_run_59 : decode cX9_run 59 = .ok (.invokevirtual 181, 3) := by decide +kernel
theorem dX9_run_62 : decode cX9_run 62 = .ok (.ifCond .ne 6, 3) := by decide +kernel
theorem dX9_run_65 : decode cX9_run 65 = .ok (.goto 12, 3) := by decide +kernel
theorem dX9_run_68 : decode cX9_run 68 = .ok (.iinc 1 1, 3) := by decide +kernel
theorem dX9_run_71 : decode cX9_run 71 = .ok (.iinc 2 1, 3) := by decide +kernel
theorem dX9_run_74 : decode cX9_run 74 = .ok (.goto (-39), 3) := by decide +kernel
theorem dX9_run_77 : decode cX9_run 77 = .ok (.aload_n 0, 1) := by decide +kernel
theorem dX9_run_78 : decode cX9_run 78 = .ok (.getfield 36, 3) := by decide +kernel
theorem dX9_run_81 : decode cX9_run 81 = .ok (.invokevirtual 164, 3) := by decide +kernel
theorem dX9_run_84 : decode cX9_run 84 = .ok (.pop, 1) := by decide +kernel
theorem dX9_run_85 : decode cX9_run 85 = .ok (.iload_n 1, 1) := by decide +kernel
theorem dX9_run_86 : decode cX9_run 86 = .ok (.ireturn, 1) := by decide +kernel
theorem dX9_keep_0 : decode cX9_keep 0 = .ok (.iload_n 1, 1) := by decide +kernel
theorem dX9_keep_1 : decode cX9_keep 1 = .ok (.invokestatic 184, 3) := by decide +kernel
theorem dX9_keep_4 : decode cX9_keep 4 = .ok (.aload_n 0, 1) := by decide +kernel
theorem dX9_keep_5 : decode cX9_keep 5 = .ok (.getfield 45, 3) := by decide +kernel
theorem dX9_keep_8 : decode cX9_keep 8 = .ok (.iload_n 1, 1) := by decide +kernel
theorem dX9_keep_9 : decode cX9_keep 9 = .ok (.aload_n 0, 1) := by decide +kernel
theorem dX9_keep_10 : decode cX9_keep 10 = .ok (.getfield 10, 3) := by decide +kernel
theorem dX9_keep_13 : decode cX9_keep 13 = .ok (.invokevirtual 187, 3) := by decide +kernel
theorem dX9_keep_16 : decode cX9_keep 16 = .ok (.aload_n 0, 1) := by decide +kernel
theorem dX9_keep_17 : decode cX9_keep 17 = .ok (.getfield 10, 3) := by decide +kernel
theorem dX9_keep_20 : decode cX9_keep 20 = .ok (.getfield 140, 3) := by decide +kernel
theorem dX9_keep_23 : decode cX9_keep 23 = .ok (.ireturn, 1) := by decide +kernel
theorem dX9_goBack_0 : decode cX9_goBack 0 = .ok (.iload_n 1, 1) := by decide +kernel
theorem dX9_goBack_1 : decode cX9_goBack 1 = .ok (.invokestatic 184, 3) := by decide +kernel
theorem dX9_goBack_4 : decode cX9_goBack 4 = .ok (.aload_n 0, 1) := by decide +kernel
theorem dX9_goBack_5 : decode cX9_goBack 5 = .ok (.getfield 45, 3) := by decide +kernel
theorem dX9_goBack_8 : decode cX9_goBack 8 = .ok (.iload_n 1, 1) := by decide +kernel
theorem dX9_goBack_9 : decode cX9_goBack 9 = .ok (.invokevirtual 191, 3) := by decide +kernel
theorem dX9_goBack_12 : decode cX9_goBack 12 = .ok (.ifCond .ne 13, 3) := by decide +kernel
theorem dX9_goBack_15 : decode cX9_goBack 15 = .ok (.new 93, 3) := by decide +kernel
theorem dX9_goBack_18 : decode cX9_goBack 18 = .ok (.dup, 1) := by decide +kernel
theorem dX9_goBack_19 : decode cX9_goBack 19 = .ok (.ldc 194, 2) := by decide +kernel
theorem dX9_goBack_21 : decode cX9_goBack 21 = .ok (.invokespecial 97, 3) := by decide +kernel
theorem dX9_goBack_24 : decode cX9_goBack 24 = .ok (.athrow, 1) := by decide +kernel
theorem dX9_goBack_25 : decode cX9_goBack 25 = .ok (.aload_n 0, 1) := by decide +kernel
theorem dX9_goBack_26 : decode cX9_goBack 26 = .ok (.getfield 52, 3) := by decide +kernel
theorem dX9_goBack_29 : decode cX9_goBack 29 = .ok (.aload_n 0, 1) := by decide +kernel
theorem dX9_goBack_30 : decode cX9_goBack 30 = .ok (.getfield 10, 3) := by decide +kernel
theorem dX9_goBack_33 : decode cX9_goBack 33 = .ok (.invokevirtual 63, 3) := by decide +kernel
theorem dX9_goBack_36 : decode cX9_goBack 36 = .ok (.aload_n 0, 1) := by decide +kernel
theorem dX9_goBack_37 : decode cX9_goBack 37 = .ok (.getfield 45, 3) := by decide +kernel
theorem dX9_goBack_40 : decode cX9_goBack 40 = .ok (.iload_n 1, 1) := by decide +kernel
theorem dX9_goBack_41 : decode cX9_goBack 41 = .ok (.aload_n 0, 1) := by decide +kernel
theorem dX9_goBack_42 : decode cX9_goBack 42 = .ok (.getfield 10, 3) := by decide +kernel
theorem dX9_goBack_45 : decode cX9_goBack 45 = .ok (.invokevirtual 196, 3) := by decide +kernel
theorem dX9_goBack_48 : decode cX9_goBack 48 = .ok (.aload_n 0, 1) := by decide +kernel
theorem dX9_goBack_49 : decode cX9_goBack 49 = .ok (.getfield 10, 3) := by decide +kernel
theorem dX9_goBack_52 : decode cX9_goBack 52 = .ok (.getfield 140, 3) := by decide +kernel
theorem dX9_goBack_55 : decode cX9_goBack 55 = .ok (.ireturn, 1) := by decide +kernel
theorem dX9_undo_0 : decode cX9_undo 0 = .ok (.aload_n 0, 1) := by decide +kernel
theorem dX9_undo_1 : decode cX9_undo 1 = .ok (.getfield 52, 3) := by decide +kernel
theorem dX9_undo_4 : decode cX9_undo 4 = .ok (.invokevirtual 199, 3) := by decide +kernel
theorem dX9_undo_7 : decode cX9_undo 7 = .ok (.ifCond .ne 13, 3) := by decide +kernel
theorem dX9_undo_10 : decode cX9_undo 10 = .ok (.new 93, 3) := by decide +kernel
theorem dX9_undo_13 : decode cX9_undo 13 = .ok (.dup, 1) := by decide +kernel
theorem dX9_undo_14 : decode cX9_undo 14 = .ok (.ldc 202, 2) := by decide +kernel
theorem dX9_undo_16 : decode cX9_undo 16 = .ok (.invokespecial 97, 3) := by decide +kernel
theorem dX9_undo_19 : decode cX9_undo 19 = .ok (.athrow, 1) := by decide +kernel
theorem dX9_undo_20 : decode cX9_undo 20 = .ok (.aload_n 0, 1) := by decide +kernel
theorem dX9_undo_21 : decode cX9_undo 21 = .ok (.getfield 52, 3) := by decide +kernel
theorem dX9_undo_24 : decode cX9_undo 24 = .ok (.aload_n 0, 1) := by decide +kernel
theorem dX9_undo_25 : decode cX9_undo 25 = .ok (.getfield 10, 3) := by decide +kernel
theorem dX9_undo_28 : decode cX9_undo 28 = .ok (.invokevirtual 204, 3) := by decide +kernel
theorem dX9_undo_31 : decode cX9_undo 31 = .ok (.aload_n 0, 1) := by decide +kernel
theorem dX9_undo_32 : decode cX9_undo 32 = .ok (.getfield 52, 3) := by decide +kernel
theorem dX9_undo_35 : decode cX9_undo 35 = .ok (.invokevirtual 199, 3) := by decide +kernel
theorem dX9_undo_38 : decode cX9_undo 38 = .ok (.ireturn, 1) := by decide +kernel
theorem dX9_roadOf_0 : decode cX9_roadOf 0 = .ok (.iload_n 1, 1) := by decide +kernel
theorem dX9_roadOf_1 : decode cX9_roadOf 1 = .ok (.invokestatic 77, 3) := by decide +kernel
theorem dX9_roadOf_4 : decode cX9_roadOf 4 = .ok (.iload_n 2, 1) := by decide +kernel
theorem dX9_roadOf_5 : decode cX9_roadOf 5 = .ok (.invokestatic 77, 3) := by decide +kernel
theorem dX9_roadOf_8 : decode cX9_roadOf 8 = .ok (.aload_n 0, 1) := by decide +kernel
theorem dX9_roadOf_9 : decode cX9_roadOf 9 = .ok (.getfield 10, 3) := by decide +kernel
theorem dX9_roadOf_12 : decode cX9_roadOf 12 = .ok (.getfield 67, 3) := by decide +kernel
theorem dX9_roadOf_15 : decode cX9_roadOf 15 = .ok (.iload_n 1, 1) := by decide +kernel
theorem dX9_roadOf_16 : decode cX9_roadOf 16 = .ok (.iload_n 2, 1) := by decide +kernel
theorem dX9_roadOf_17 : decode cX9_roadOf 17 = .ok (.invokevirtual 207, 3) := by decide +kernel
theorem dX9_roadOf_20 : decode cX9_roadOf 20 = .ok (.ireturn, 1) := by decide +kernel
theorem dX9_distance_0 : decode cX9_distance 0 = .ok (.iload_n 1, 1) := by decide +kernel
theorem dX9_distance_1 : decode cX9_distance 1 = .ok (.invokestatic 77, 3) := by decide +kernel
theorem dX9_distance_4 : decode cX9_distance 4 = .ok (.iload_n 2, 1) := by decide +kernel
theorem dX9_distance_5 : decode cX9_distance 5 = .ok (.invokestatic 77, 3) := by decide +kernel
theorem dX9_distance_8 : decode cX9_distance 8 = .ok (.iload_n 3, 1) := by decide +kernel
theorem dX9_distance_9 : decode cX9_distance 9 = .ok (.iconst 1, 1) := by decide +kernel
theorem dX9_distance_10 : decode cX9_distance 10 = .ok (.invokestatic 117, 3) := by decide +kernel
theorem dX9_distance_13 : decode cX9_distance 13 = .ok (.iload_n 3, 1) := by decide +kernel
theorem dX9_distance_14 : decode cX9_distance 14 = .ok (.ifCond .ne 22, 3) := by decide +kernel
theorem dX9_distance_17 : decode cX9_distance 17 = .ok (.aload_n 0, 1) := by decide +kernel
theorem dX9_distance_18 : decode cX9_distance 18 = .ok (.getfield 29, 3) := by decide +kernel
theorem dX9_distance_21 : decode cX9_distance 21 = .ok (.aload_n 0, 1) := by decide +kernel
theorem dX9_distance_22 : decode cX9_distance 22 = .ok (.getfield 10, 3) := by decide +kernel
theorem dX9_distance_25 : decode cX9_distance 25 = .ok (.getfield 67, 3) := by decide +kernel
theorem dX9_distance_28 : decode cX9_distance 28 = .ok (.iload_n 1, 1) := by decide +kernel
theorem dX9_distance_29 : decode cX9_distance 29 = .ok (.iload_n 2, 1) := by decide +kernel
theorem dX9_distance_30 : decode cX9_distance 30 = .ok (.invokevirtual 210, 3) := by decide +kernel
theorem dX9_distance_33 : decode cX9_distance 33 = .ok (.goto 15, 3) := by decide +kernel
theorem dX9_distance_36 : decode cX9_distance 36 = .ok (.aload_n 0, 1) := by decide +kernel
theorem dX9_distance_37 : decode cX9_distance 37 = .ok (.getfield 10, 3) := by decide +kernel
theorem dX9_distance_40 : decode cX9_distance 40 = .ok (.getfield 67, 3) := by decide +kernel
theorem dX9_distance_43 : decode cX9_distance 43 = .ok (.iload_n 1, 1) := by decide +kernel
theorem dX9_distance_44 : decode cX9_distance 44 = .ok (.iload_n 2, 1) := by decide +kernel
theorem dX9_distance_45 : decode cX9_distance 45 = .ok (.invokevirtual 214, 3) := by decide +kernel
theorem dX9_distance_48 : decode cX9_distance 48 = .ok (.ireturn, 1) := by decide +kernel
theorem dX9_exitOf_0 : decode cX9_exitOf 0 = .ok (.aload_n 0, 1) := by decide +kernel
theorem dX9_exitOf_1 : decode cX9_exitOf 1 = .ok (.iload_n 1, 1) := by decide +kernel
theorem dX9_exitOf_2 : decode cX9_exitOf 2 = .ok (.invokevirtual 104, 3) := by decide +kernel
theorem dX9_exitOf_5 : decode cX9_exitOf 5 = .ok (.iload_n 2, 1) := by decide +kernel
theorem dX9_exitOf_6 : decode cX9_exitOf 6 = .ok (.iconst 4, 1) := by decide +kernel
theorem dX9_exitOf_7 : decode cX9_exitOf 7 = .ok (.invokestatic 117, 3) := by decide +kernel
theorem dX9_exitOf_10 : decode cX9_exitOf 10 = .ok (.iload_n 2, 1) := by decide +kernel
theorem dX9_exitOf_11 : decode cX9_exitOf 11 = .ok (.tableswitch 85 0 3 #[29, 41, 53, 73], 29) := by decide +kernel
theorem dX9_exitOf_40 : decode cX9_exitOf 40 = .ok (.aload_n 0, 1) := by decide +kernel
theorem dX9_exitOf_41 : decode cX9_exitOf 41 = .ok (.getfield 10, 3) := by decide +kernel
theorem dX9_exitOf_44 : decode cX9_exitOf 44 = .ok (.getfield 83, 3) := by decide +kernel
theorem dX9_exitOf_47 : decode cX9_exitOf 47 = .ok (.iload_n 1, 1) := by decide +kernel
theorem dX9_exitOf_48 : decode cX9_exitOf 48 = .ok (.invokevirtual 216, 3) := by decide +kernel
theorem dX9_exitOf_51 : decode cX9_exitOf 51 = .ok (.ireturn, 1) := by decide +kernel
theorem dX9_exitOf_52 : decode cX9_exitOf 52 = .ok (.aload_n 0, 1) := by decide +kernel
theorem dX9_exitOf_53 : decode cX9_exitOf 53 = .ok (.getfield 10, 3) := by decide +kernel
theorem dX9_exitOf_56 : decode cX9_exitOf 56 = .ok (.getfield 83, 3) := by decide +kernel
theorem dX9_exitOf_59 : decode cX9_exitOf 59 = .ok (.iload_n 1, 1) := by decide +kernel
theorem dX9_exitOf_60 : decode cX9_exitOf 60 = .ok (.invokevirtual 219, 3) := by decide +kernel
theorem dX9_exitOf_63 : decode cX9_exitOf 63 = .ok (.ireturn, 1) := by decide +kernel
theorem dX9_exitOf_64 : decode cX9_exitOf 64 = .ok (.aload_n 0, 1) := by decide +kernel
theorem dX9_exitOf_65 : decode cX9_exitOf 65 = .ok (.getfield 10, 3) := by decide +kernel
theorem dX9_exitOf_68 : decode cX9_exitOf 68 = .ok (.getfield 83, 3) := by decide +kernel
theorem dX9_exitOf_71 : decode cX9_exitOf 71 = .ok (.iload_n 1, 1) := by decide +kernel
theorem dX9_exitOf_72 : decode cX9_exitOf 72 = .ok (.invokevirtual 110, 3) := by decide +kernel
theorem dX9_exitOf_75 : decode cX9_exitOf 75 = .ok (.ifCond .eq 7, 3) := by decide +kernel
theorem dX9_exitOf_78 : decode cX9_exitOf 78 = .ok (.iconst 1, 1) := by decide +kernel
theorem dX9_exitOf_79 : decode cX9_exitOf 79 = .ok (.goto 4, 3) := by decide +kernel
theorem dX9_exitOf_82 : decode cX9_exitOf 82 = .ok (.iconst 0, 1) := by decide +kernel
theorem dX9_exitOf_83 : decode cX9_exitOf 83 = .ok (.ireturn, 1) := by decide +kernel
theorem dX9_exitOf_84 : decode cX9_exitOf 84 = .ok (.aload_n 0, 1) := by decide +kernel
theorem dX9_exitOf_85 : decode cX9_exitOf 85 = .ok (.getfield 10, 3) := by decide +kernel
theorem dX9_exitOf_88 : decode cX9_exitOf 88 = .ok (.getfield 83, 3) := by decide +kernel
theorem dX9_exitOf_91 : decode cX9_exitOf 91 = .ok (.iload_n 1, 1) := by decide +kernel
theorem dX9_exitOf_92 : decode cX9_exitOf 92 = .ok (.invokevirtual 222, 3) := by decide +kernel
theorem dX9_exitOf_95 : decode cX9_exitOf 95 = .ok (.ireturn, 1) := by decide +kernel
theorem dX9_exitOf_96 : decode cX9_exitOf 96 = .ok (.aload_n 0, 1) := by decide +kernel
theorem dX9_exitOf_97 : decode cX9_exitOf 97 = .ok (.getfield 10, 3) := by decide +kernel
theorem dX9_exitOf_100 : decode cX9_exitOf 100 = .ok (.getfield 83, 3) := by decide +kernel
theorem dX9_exitOf_103 : decode cX9_exitOf 103 = .ok (.iload_n 1, 1) := by decide +kernel
theorem dX9_exitOf_104 : decode cX9_exitOf 104 = .ok (.invokevirtual 225, 3) := by decide +kernel
theorem dX9_exitOf_107 : decode cX9_exitOf 107 = .ok (.ireturn, 1) := by decide +kernel
theorem dX9_neighbourOf_0 : decode cX9_neighbourOf 0 = .ok (.iload_n 1, 1) := by decide +kernel
theorem dX9_neighbourOf_1 : decode cX9_neighbourOf 1 = .ok (.invokestatic 80, 3) := by decide +kernel
theorem dX9_neighbourOf_4 : decode cX9_neighbourOf 4 = .ok (.iload_n 2, 1) := by decide +kernel
theorem dX9_neighbourOf_5 : decode cX9_neighbourOf 5 = .ok (.bipush 7, 2) := by decide +kernel
theorem dX9_neighbourOf_7 : decode cX9_neighbourOf 7 = .ok (.invokestatic 117, 3) := by decide +kernel
theorem dX9_neighbourOf_10 : decode cX9_neighbourOf 10 = .ok (.iload_n 2, 1) := by decide +kernel
theorem dX9_neighbourOf_11 : decode cX9_neighbourOf 11 = .ok (.tableswitch 77 4 7 #[29, 41, 53, 65], 29) := by decide +kernel
theorem dX9_neighbourOf_40 : decode cX9_neighbourOf 40 = .ok (.aload_n 0, 1) := by decide +kernel
theorem dX9_neighbourOf_41 : decode cX9_neighbourOf 41 = .ok (.getfield 10, 3) := by decide +kernel
theorem dX9_neighbourOf_44 : decode cX9_neighbourOf 44 = .ok (.getfield 120, 3) := by decide +kernel
theorem dX9_neighbourOf_47 : decode cX9_neighbourOf 47 = .ok (.iload_n 1, 1) := by decide +kernel
theorem dX9_neighbourOf_48 : decode cX9_neighbourOf 48 = .ok (.invokevirtual 228, 3) := by decide +kernel
theorem dX9_neighbourOf_51 : decode cX9_neighbourOf 51 = .ok (.ireturn, 1) := by decide +kernel
theorem dX9_neighbourOf_52 : decode cX9_neighbourOf 52 = .ok (.aload_n 0, 1) := by decide +kernel
theorem dX9_neighbourOf_53 : decode cX9_neighbourOf 53 = .ok (.getfield 10, 3) := by decide +kernel
theorem dX9_neighbourOf_56 : decode cX9_neighbourOf 56 = .ok (.getfield 120, 3) := by decide +kernel
theorem dX9_neighbourOf_59 : decode cX9_neighbourOf 59 = .ok (.iload_n 1, 1) := by decide +kernel
theorem dX9_neighbourOf_60 : decode cX9_neighbourOf 60 = .ok (.invokevirtual 231, 3) := by decide +kernel
theorem dX9_neighbourOf_63 : decode cX9_neighbourOf 63 = .ok (.ireturn, 1) := by decide +kernel
theorem dX9_neighbourOf_64 : decode cX9_neighbourOf 64 = .ok (.aload_n 0, 1) := by decide +kernel
theorem dX9_neighbourOf_65 : decode cX9_neighbourOf 65 = .ok (.getfield 10, 3) := by decide +kernel
theorem dX9_neighbourOf_68 : decode cX9_neighbourOf 68 = .ok (.getfield 120, 3) := by decide +kernel
theorem dX9_neighbourOf_71 : decode cX9_neighbourOf 71 = .ok (.iload_n 1, 1) := by decide +kernel
theorem dX9_neighbourOf_72 : decode cX9_neighbourOf 72 = .ok (.invokevirtual 234, 3) := by decide +kernel
theorem dX9_neighbourOf_75 : decode cX9_neighbourOf 75 = .ok (.ireturn, 1) := by decide +kernel
theorem dX9_neighbourOf_76 : decode cX9_neighbourOf 76 = .ok (.aload_n 0, 1) := by decide +kernel
theorem dX9_neighbourOf_77 : decode cX9_neighbourOf 77 = .ok (.getfield 10, 3) := by decide +kernel
theorem dX9_neighbourOf_80 : decode cX9_neighbourOf 80 = .ok (.getfield 120, 3) := by decide +kernel
theorem dX9_neighbourOf_83 : decode cX9_neighbourOf 83 = .ok (.iload_n 1, 1) := by decide +kernel
theorem dX9_neighbourOf_84 : decode cX9_neighbourOf 84 = .ok (.invokevirtual 237, 3) := by decide +kernel
theorem dX9_neighbourOf_87 : decode cX9_neighbourOf 87 = .ok (.ireturn, 1) := by decide +kernel
theorem dX9_neighbourOf_88 : decode cX9_neighbourOf 88 = .ok (.aload_n 0, 1) := by decide +kernel
theorem dX9_neighbourOf_89 : decode cX9_neighbourOf 89 = .ok (.getfield 10, 3) := by decide +kernel
theorem dX9_neighbourOf_92 : decode cX9_neighbourOf 92 = .ok (.getfield 120, 3) := by decide +kernel
theorem dX9_neighbourOf_95 : decode cX9_neighbourOf 95 = .ok (.iload_n 1, 1) := by decide +kernel
theorem dX9_neighbourOf_96 : decode cX9_neighbourOf 96 = .ok (.iload_n 2, 1) := by decide +kernel
theorem dX9_neighbourOf_97 : decode cX9_neighbourOf 97 = .ok (.invokevirtual 240, 3) := by decide +kernel
theorem dX9_neighbourOf_100 : decode cX9_neighbourOf 100 = .ok (.ireturn, 1) := by decide +kernel
theorem dX9_choice_0 : decode cX9_choice 0 = .ok (.iload_n 1, 1) := by decide +kernel
theorem dX9_choice_1 : decode cX9_choice 1 = .ok (.invokestatic 77, 3) := by decide +kernel
theorem dX9_choice_4 : decode cX9_choice 4 = .ok (.iload_n 2, 1) := by decide +kernel
theorem dX9_choice_5 : decode cX9_choice 5 = .ok (.invokestatic 114, 3) := by decide +kernel
theorem dX9_choice_8 : decode cX9_choice 8 = .ok (.iload_n 3, 1) := by decide +kernel
theorem dX9_choice_9 : decode cX9_choice 9 = .ok (.iconst 5, 1) := by decide +kernel
theorem dX9_choice_10 : decode cX9_choice 10 = .ok (.invokestatic 117, 3) := by decide +kernel
theorem dX9_choice_13 : decode cX9_choice 13 = .ok (.aload_n 0, 1) := by decide +kernel
theorem dX9_choice_14 : decode cX9_choice 14 = .ok (.getfield 22, 3) := by decide +kernel
theorem dX9_choice_17 : decode cX9_choice 17 = .ok (.aload_n 0, 1) := by decide +kernel
theorem dX9_choice_18 : decode cX9_choice 18 = .ok (.getfield 10, 3) := by decide +kernel
theorem dX9_choice_21 : decode cX9_choice 21 = .ok (.iload_n 1, 1) := by decide +kernel
theorem dX9_choice_22 : decode cX9_choice 22 = .ok (.iload_n 2, 1) := by decide +kernel
theorem dX9_choice_23 : decode cX9_choice 23 = .ok (.invokevirtual 242, 3) := by decide +kernel
theorem dX9_choice_26 : decode cX9_choice 26 = .ok (.iload_n 3, 1) := by decide +kernel
theorem dX9_choice_27 : decode cX9_choice 27 = .ok (.tableswitch 75 0 4 #[33, 41, 49, 57, 65], 33) := by decide +kernel
theorem dX9_choice_60 : decode cX9_choice 60 = .ok (.aload_n 0, 1) := by decide +kernel
theorem dX9_choice_61 : decode cX9_choice 61 = .ok (.getfield 22, 3) := by decide +kernel
theorem dX9_choice_64 : decode cX9_choice 64 = .ok (.getfield 246, 3) := by decide +kernel
theorem dX9_choice_67 : decode cX9_choice 67 = .ok (.ireturn, 1) := by decide +kernel
theorem dX9_choice_68 : decode cX9_choice 68 = .ok (.aload_n 0, 1) := by decide +kernel
theorem dX9_choice_69 : decode cX9_choice 69 = .ok (.getfield 22, 3) := by decide +kernel
theorem dX9_choice_72 : decode cX9_choice 72 = .ok (.getfield 249, 3) := by decide +kernel
theorem dX9_choice_75 : decode cX9_choice 75 = .ok (.ireturn, 1) := by decide +kernel
theorem dX9_choice_76 : decode cX9_choice 76 = .ok (.aload_n 0, 1) := by decide +kernel
theorem dX9_choice_77 : decode cX9_choice 77 = .ok (.getfield 22, 3) := by decide +kernel
theorem dX9_choice_80 : decode cX9_choice 80 = .ok (.getfield 251, 3) := by decide +kernel
theorem dX9_choice_83 : decode cX9_choice 83 = .ok (.ireturn, 1) := by decide +kernel
theorem dX9_choice_84 : decode cX9_choice 84 = .ok (.aload_n 0, 1) := by decide +kernel
theorem dX9_choice_85 : decode cX9_choice 85 = .ok (.getfield 22, 3) := by decide +kernel
theorem dX9_choice_88 : decode cX9_choice 88 = .ok (.getfield 254, 3) := by decide +kernel
theorem dX9_choice_91 : decode cX9_choice 91 = .ok (.ireturn, 1) := by decide +kernel
theorem dX9_choice_92 : decode cX9_choice 92 = .ok (.aload_n 0, 1) := by decide +kernel
theorem dX9_choice_93 : decode cX9_choice 93 = .ok (.getfield 10, 3) := by decide +kernel
theorem dX9_choice_96 : decode cX9_choice 96 = .ok (.iload_n 1, 1) := by decide +kernel
theorem dX9_choice_97 : decode cX9_choice 97 = .ok (.iload_n 2, 1) := by decide +kernel
theorem dX9_choice_98 : decode cX9_choice 98 = .ok (.invokevirtual 257, 3) := by decide +kernel
theorem dX9_choice_101 : decode cX9_choice 101 = .ok (.ireturn, 1) := by decide +kernel
theorem dX9_choice_102 : decode cX9_choice 102 = .ok (.aload_n 0, 1) := by decide +kernel
theorem dX9_choice_103 : decode cX9_choice 103 = .ok (.getfield 10, 3) := by decide +kernel
theorem dX9_choice_106 : decode cX9_choice 106 = .ok (.getfield 67, 3) := by decide +kernel
theorem dX9_choice_109 : decode cX9_choice 109 = .ok (.iload_n 1, 1) := by decide +kernel
theorem dX9_choice_110 : decode cX9_choice 110 = .ok (.aload_n 0, 1) := by decide +kernel
theorem dX9_choice_111 : decode cX9_choice 111 = .ok (.getfield 10, 3) := by decide +kernel
theorem dX9_choice_114 : decode cX9_choice 114 = .ok (.getfield 83, 3) := by decide +kernel
theorem dX9_choice_117 : decode cX9_choice 117 = .ok (.aload_n 0, 1) := by decide +kernel
theorem dX9_choice_118 : decode cX9_choice 118 = .ok (.getfield 22, 3) := by decide +kernel
theorem dX9_choice_121 : decode cX9_choice 121 = .ok (.getfield 246, 3) := by decide +kernel
theorem dX9_choice_124 : decode cX9_choice 124 = .ok (.invokevirtual 216, 3) := by decide +kernel
theorem dX9_choice_127 : decode cX9_choice 127 = .ok (.invokevirtual 260, 3) := by decide +kernel
theorem dX9_choice_130 : decode cX9_choice 130 = .ok (.ireturn, 1) := by decide +kernel
theorem dX9_why_0 : decode cX9_why 0 = .ok (.iload_n 1, 1) := by decide +kernel
theorem dX9_why_1 : decode cX9_why 1 = .ok (.invokestatic 77, 3) := by decide +kernel
theorem dX9_why_4 : decode cX9_why 4 = .ok (.iload_n 2, 1) := by decide +kernel
theorem dX9_why_5 : decode cX9_why 5 = .ok (.invokestatic 114, 3) := by decide +kernel
theorem dX9_why_8 : decode cX9_why 8 = .ok (.aload_n 0, 1) := by decide +kernel
theorem dX9_why_9 : decode cX9_why 9 = .ok (.iload_n 3, 1) := by decide +kernel
theorem dX9_why_10 : decode cX9_why 10 = .ok (.invokevirtual 104, 3) := by decide +kernel
theorem dX9_why_13 : decode cX9_why 13 = .ok (.aload_n 0, 1) := by decide +kernel
theorem dX9_why_14 : decode cX9_why 14 = .ok (.getfield 22, 3) := by decide +kernel
theorem dX9_why_17 : decode cX9_why 17 = .ok (.aload_n 0, 1) := by decide +kernel
theorem dX9_why_18 : decode cX9_why 18 = .ok (.getfield 10, 3) := by decide +kernel
theorem dX9_why_21 : decode cX9_why 21 = .ok (.iload_n 1, 1) := by decide +kernel
theorem dX9_why_22 : decode cX9_why 22 = .ok (.iload_n 2, 1) := by decide +kernel
theorem dX9_why_23 : decode cX9_why 23 = .ok (.invokevirtual 242, 3) := by decide +kernel
theorem dX9_why_26 : decode cX9_why 26 = .ok (.aload_n 0, 1) := by decide +kernel
theorem dX9_why_27 : decode cX9_why 27 = .ok (.getfield 22, 3) := by decide +kernel
theorem dX9_why_30 : decode cX9_why 30 = .ok (.aload_n 0, 1) := by decide +kernel
theorem dX9_why_31 : decode cX9_why 31 = .ok (.getfield 10, 3) := by decide +kernel
theorem dX9_why_34 : decode cX9_why 34 = .ok (.iload_n 1, 1) := by decide +kernel
theorem dX9_why_35 : decode cX9_why 35 = .ok (.iload_n 2, 1) := by decide +kernel
theorem dX9_why_36 : decode cX9_why 36 = .ok (.iload_n 3, 1) := by decide +kernel
theorem dX9_why_37 : decode cX9_why 37 = .ok (.invokevirtual 263, 3) := by decide +kernel
theorem dX9_why_40 : decode cX9_why 40 = .ok (.ireturn, 1) := by decide +kernel
theorem dX9_count_0 : decode cX9_count 0 = .ok (.iload_n 1, 1) := by decide +kernel
theorem dX9_count_1 : decode cX9_count 1 = .ok (.bipush 9, 2) := by decide +kernel
theorem dX9_count_3 : decode cX9_count 3 = .ok (.invokestatic 117, 3) := by decide +kernel
theorem dX9_count_6 : decode cX9_count 6 = .ok (.iload_n 1, 1) := by decide +kernel
theorem dX9_count_7 : decode cX9_count 7 = .ok (.tableswitch 133 0 8 #[49, 60, 71, 82, 93, 101, 109, 117, 128], 49) := by decide +kernel
theorem dX9_count_56 : decode cX9_count 56 = .ok (.aload_n 0, 1) := by decide +kernel
theorem dX9_count_57 : decode cX9_count 57 = .ok (.getfield 10, 3) := by decide +kernel
theorem dX9_count_60 : decode cX9_count 60 = .ok (.getfield 67, 3) := by decide +kernel
theorem dX9_count_63 : decode cX9_count 63 = .ok (.invokevirtual 267, 3) := by decide +kernel
theorem dX9_count_66 : decode cX9_count 66 = .ok (.ireturn, 1) := by decide +kernel
theorem dX9_count_67 : decode cX9_count 67 = .ok (.aload_n 0, 1) := by decide +kernel
theorem dX9_count_68 : decode cX9_count 68 = .ok (.getfield 10, 3) := by decide +kernel
theorem dX9_count_71 : decode cX9_count 71 = .ok (.getfield 83, 3) := by decide +kernel
theorem dX9_count_74 : decode cX9_count 74 = .ok (.invokevirtual 270, 3) := by decide +kernel
theorem dX9_count_77 : decode cX9_count 77 = .ok (.ireturn, 1) := by decide +kernel
theorem dX9_count_78 : decode cX9_count 78 = .ok (.aload_n 0, 1) := by decide +kernel
theorem dX9_count_79 : decode cX9_count 79 = .ok (.getfield 10, 3) := by decide +kernel
theorem dX9_count_82 : decode cX9_count 82 = .ok (.getfield 83, 3) := by decide +kernel
theorem dX9_count_85 : decode cX9_count 85 = .ok (.invokevirtual 271, 3) := by decide +kernel
theorem dX9_count_88 : decode cX9_count 88 = .ok (.ireturn, 1) := by decide +kernel
theorem dX9_count_89 : decode cX9_count 89 = .ok (.aload_n 0, 1) := by decide +kernel
theorem dX9_count_90 : decode cX9_count 90 = .ok (.getfield 10, 3) := by decide +kernel
theorem dX9_count_93 : decode cX9_count 93 = .ok (.getfield 120, 3) := by decide +kernel
theorem dX9_count_96 : decode cX9_count 96 = .ok (.invokevirtual 274, 3) := by decide +kernel
theorem dX9_count_99 : decode cX9_count 99 = .ok (.ireturn, 1) := by decide +kernel
theorem dX9_count_100 : decode cX9_count 100 = .ok (.aload_n 0, 1) := by decide +kernel
theorem dX9_count_101 : decode cX9_count 101 = .ok (.getfield 10, 3) := by decide +kernel
theorem dX9_count_104 : decode cX9_count 104 = .ok (.getfield 140, 3) := by decide +kernel
theorem dX9_count_107 : decode cX9_count 107 = .ok (.ireturn, 1) := by decide +kernel
theorem dX9_count_108 : decode cX9_count 108 = .ok (.aload_n 0, 1) := by decide +kernel
theorem dX9_count_109 : decode cX9_count 109 = .ok (.getfield 10, 3) := by decide +kernel
theorem dX9_count_112 : decode cX9_count 112 = .ok (.getfield 277, 3) := by decide +kernel
theorem dX9_count_115 : decode cX9_count 115 = .ok (.ireturn, 1) := by decide +kernel
theorem dX9_count_116 : decode cX9_count 116 = .ok (.aload_n 0, 1) := by decide +kernel
theorem dX9_count_117 : decode cX9_count 117 = .ok (.getfield 10, 3) := by decide +kernel
theorem dX9_count_120 : decode cX9_count 120 = .ok (.getfield 280, 3) := by decide +kernel
theorem dX9_count_123 : decode cX9_count 123 = .ok (.ireturn, 1) := by decide +kernel
theorem dX9_count_124 : decode cX9_count 124 = .ok (.aload_n 0, 1) := by decide +kernel
theorem dX9_count_125 : decode cX9_count 125 = .ok (.getfield 10, 3) := by decide +kernel
theorem dX9_count_128 : decode cX9_count 128 = .ok (.getfield 120, 3) := by decide +kernel
theorem dX9_count_131 : decode cX9_count 131 = .ok (.invokevirtual 282, 3) := by decide +kernel
theorem dX9_count_134 : decode cX9_count 134 = .ok (.ireturn, 1) := by decide +kernel
theorem dX9_count_135 : decode cX9_count 135 = .ok (.aload_n 0, 1) := by decide +kernel
theorem dX9_count_136 : decode cX9_count 136 = .ok (.invokevirtual 285, 3) := by decide +kernel
theorem dX9_count_139 : decode cX9_count 139 = .ok (.ireturn, 1) := by decide +kernel
theorem dX9_count_140 : decode cX9_count 140 = .ok (.aload_n 0, 1) := by decide +kernel
theorem dX9_count_141 : decode cX9_count 141 = .ok (.getfield 52, 3) := by decide +kernel
theorem dX9_count_144 : decode cX9_count 144 = .ok (.invokevirtual 199, 3) := by decide +kernel
theorem dX9_count_147 : decode cX9_count 147 = .ok (.ireturn, 1) := by decide +kernel
theorem dX9_ifRoad_0 : decode cX9_ifRoad 0 = .ok (.iload_n 1, 1) := by decide +kernel
theorem dX9_ifRoad_1 : decode cX9_ifRoad 1 = .ok (.iload_n 2, 1) := by decide +kernel
theorem dX9_ifRoad_2 : decode cX9_ifRoad 2 = .ok (.invokestatic 56, 3) := by decide +kernel
theorem dX9_ifRoad_5 : decode cX9_ifRoad 5 = .ok (.iload_n 3, 1) := by decide +kernel
theorem dX9_ifRoad_6 : decode cX9_ifRoad 6 = .ok (.invokestatic 60, 3) := by decide +kernel
theorem dX9_ifRoad_9 : decode cX9_ifRoad 9 = .ok (.aload_n 0, 1) := by decide +kernel
theorem dX9_ifRoad_10 : decode cX9_ifRoad 10 = .ok (.getfield 16, 3) := by decide +kernel
theorem dX9_ifRoad_13 : decode cX9_ifRoad 13 = .ok (.aload_n 0, 1) := by decide +kernel
theorem dX9_ifRoad_14 : decode cX9_ifRoad 14 = .ok (.getfield 10, 3) := by decide +kernel
theorem dX9_ifRoad_17 : decode cX9_ifRoad 17 = .ok (.invokevirtual 288, 3) := by decide +kernel
theorem dX9_ifRoad_20 : decode cX9_ifRoad 20 = .ok (.aload_n 0, 1) := by decide +kernel
theorem dX9_ifRoad_21 : decode cX9_ifRoad 21 = .ok (.getfield 16, 3) := by decide +kernel
theorem dX9_ifRoad_24 : decode cX9_ifRoad 24 = .ok (.getfield 67, 3) := by decide +kernel
theorem dX9_ifRoad_27 : decode cX9_ifRoad 27 = .ok (.iload_n 1, 1) := by decide +kernel
theorem dX9_ifRoad_28 : decode cX9_ifRoad 28 = .ok (.iload_n 2, 1) := by decide +kernel
theorem dX9_ifRoad_29 : decode cX9_ifRoad 29 = .ok (.iload_n 3, 1) := by decide +kernel
theorem dX9_ifRoad_30 : decode cX9_ifRoad 30 = .ok (.invokevirtual 71, 3) := by decide +kernel
theorem dX9_ifRoad_33 : decode cX9_ifRoad 33 = .ok (.pop, 1) := by decide +kernel
theorem dX9_ifRoad_34 : decode cX9_ifRoad 34 = .ok (.aload_n 0, 1) := by decide +kernel
theorem dX9_ifRoad_35 : decode cX9_ifRoad 35 = .ok (.invokevirtual 291, 3) := by decide +kernel
theorem dX9_ifRoad_38 : decode cX9_ifRoad 38 = .ok (.ireturn, 1) := by decide +kernel
theorem dX9_dearest_0 : decode cX9_dearest 0 = .ok (.aload_n 0, 1) := by decide +kernel
theorem dX9_dearest_1 : decode cX9_dearest 1 = .ok (.getfield 16, 3) := by decide +kernel
theorem dX9_dearest_4 : decode cX9_dearest 4 = .ok (.aload_n 0, 1) := by decide +kernel
theorem dX9_dearest_5 : decode cX9_dearest 5 = .ok (.getfield 10, 3) := by decide +kernel
theorem dX9_dearest_8 : decode cX9_dearest 8 = .ok (.invokevirtual 288, 3) := by decide +kernel
theorem dX9_dearest_11 : decode cX9_dearest 11 = .ok (.iconst (-1), 1) := by decide +kernel
theorem dX9_dearest_12 : decode cX9_dearest 12 = .ok (.istore_n 1, 1) := by decide +kernel
theorem dX9_dearest_13 : decode cX9_dearest 13 = .ok (.iconst (-1), 1) := by decide +kernel
theorem dX9_dearest_14 : decode cX9_dearest 14 = .ok (.istore_n 2, 1) := by decide +kernel
theorem dX9_dearest_15 : decode cX9_dearest 15 = .ok (.iconst 0, 1) := by decide +kernel
theorem dX9_dearest_16 : decode cX9_dearest 16 = .ok (.istore_n 3, 1) := by decide +kernel
theorem dX9_dearest_17 : decode cX9_dearest 17 = .ok (.iload_n 3, 1) := by decide +kernel
theorem dX9_dearest_18 : decode cX9_dearest 18 = .ok (.aload_n 0, 1) := by decide +kernel
theorem dX9_dearest_19 : decode cX9_dearest 19 = .ok (.getfield 10, 3) := by decide +kernel
theorem dX9_dearest_22 : decode cX9_dearest 22 = .ok (.getfield 83, 3) := by decide +kernel
theorem dX9_dearest_25 : decode cX9_dearest 25 = .ok (.invokevirtual 270, 3) := by decide +kernel
theorem dX9_dearest_28 : decode cX9_dearest 28 = .ok (.if_icmp .ge 45, 3) := by decide +kernel
theorem dX9_dearest_31 : decode cX9_dearest 31 = .ok (.aload_n 0, 1) := by decide +kernel
theorem dX9_dearest_32 : decode cX9_dearest 32 = .ok (.getfield 10, 3) := by decide +kernel
theorem dX9_dearest_35 : decode cX9_dearest 35 = .ok (.getfield 83, 3) := by decide +kernel
theorem dX9_dearest_38 : decode cX9_dearest 38 = .ok (.iload_n 3, 1) := by decide +kernel
theorem dX9_dearest_39 : decode cX9_dearest 39 = .ok (.invokevirtual 110, 3) := by decide +kernel
theorem dX9_dearest_42 : decode cX9_dearest 42 = .ok (.ifCond .eq 11, 3) := by decide +kernel
theorem dX9_dearest_45 : decode cX9_dearest 45 = .ok (.aload_n 0, 1) := by decide +kernel
theorem dX9_dearest_46 : decode cX9_dearest 46 = .ok (.iload_n 3, 1) := by decide +kernel
theorem dX9_dearest_47 : decode cX9_dearest 47 = .ok (.invokevirtual 294, 3) := by decide +kernel
theorem dX9_dearest_50 : decode cX9_dearest 50 = .ok (.goto 4, 3) := by decide +kernel
theorem dX9_dearest_53 : decode cX9_dearest 53 = .ok (.iconst (-1), 1) := by decide +kernel
theorem dX9_dearest_54 : decode cX9_dearest 54 = .ok (.istore 4, 2) := by decide +kernel
theorem dX9_dearest_56 : decode cX9_dearest 56 = .ok (.iload 4, 2) := by decide +kernel
theorem dX9_dearest_58 : decode cX9_dearest 58 = .ok (.iload_n 2, 1) := by decide +kernel
theorem dX9_dearest_59 : decode cX9_dearest 59 = .ok (.if_icmp .le 8, 3) := by decide +kernel
theorem dX9_dearest_62 : decode cX9_dearest 62 = .ok (.iload 4, 2) := by decide +kernel
theorem dX9_dearest_64 : decode cX9_dearest 64 = .ok (.istore_n 2, 1) := by decide +kernel
theorem dX9_dearest_65 : decode cX9_dearest 65 = .ok (.iload_n 3, 1) := by decide +kernel
theorem dX9_dearest_66 : decode cX9_dearest 66 = .ok (.istore_n 1, 1) := by decide +kernel
theorem dX9_dearest_67 : decode cX9_dearest 67 = .ok (.iinc 3 1, 3) := by decide +kernel
theorem dX9_dearest_70 : decode cX9_dearest 70 = .ok (.goto (-53), 3) := by decide +kernel
theorem dX9_dearest_73 : decode cX9_dearest 73 = .ok (.iload_n 1, 1) := by decide +kernel
theorem dX9_dearest_74 : decode cX9_dearest 74 = .ok (.ireturn, 1) := by decide +kernel
theorem dX9_idle_0 : decode cX9_idle 0 = .ok (.iload_n 1, 1) := by decide +kernel
theorem dX9_idle_1 : decode cX9_idle 1 = .ok (.iload_n 2, 1) := by decide +kernel
theorem dX9_idle_2 : decode cX9_idle 2 = .ok (.invokestatic 56, 3) := by decide +kernel
theorem dX9_idle_5 : decode cX9_idle 5 = .ok (.aload_n 0, 1) := by decide +kernel
theorem dX9_idle_6 : decode cX9_idle 6 = .ok (.getfield 16, 3) := by decide +kernel
theorem dX9_idle_9 : decode cX9_idle 9 = .ok (.getfield 67, 3) := by decide +kernel
theorem dX9_idle_12 : decode cX9_idle 12 = .ok (.aload_n 0, 1) := by decide +kernel
theorem dX9_idle_13 : decode cX9_idle 13 = .ok (.getfield 10, 3) := by decide +kernel
theorem dX9_idle_16 : decode cX9_idle 16 = .ok (.getfield 67, 3) := by decide +kernel
theorem dX9_idle_19 : decode cX9_idle 19 = .ok (.invokevirtual 297, 3) := by decide +kernel
theorem dX9_idle_22 : decode cX9_idle 22 = .ok (.aload_n 0, 1) := by decide +kernel
theorem dX9_idle_23 : decode cX9_idle 23 = .ok (.getfield 16, 3) := by decide +kernel
theorem dX9_idle_26 : decode cX9_idle 26 = .ok (.getfield 67, 3) := by decide +kernel
theorem dX9_idle_29 : decode cX9_idle 29 = .ok (.iload_n 1, 1) := by decide +kernel
theorem dX9_idle_30 : decode cX9_idle 30 = .ok (.iload_n 2, 1) := by decide +kernel
theorem dX9_idle_31 : decode cX9_idle 31 = .ok (.iconst 0, 1) := by decide +kernel
theorem dX9_idle_32 : decode cX9_idle 32 = .ok (.invokevirtual 71, 3) := by decide +kernel
theorem dX9_idle_35 : decode cX9_idle 35 = .ok (.pop, 1) := by decide +kernel
theorem dX9_idle_36 : decode cX9_idle 36 = .ok (.aload_n 0, 1) := by decide +kernel
theorem dX9_idle_37 : decode cX9_idle 37 = .ok (.getfield 16, 3) := by decide +kernel
theorem dX9_idle_40 : decode cX9_idle 40 = .ok (.getfield 67, 3) := by decide +kernel
theorem dX9_idle_43 : decode cX9_idle 43 = .ok (.iload_n 1, 1) := by decide +kernel
theorem dX9_idle_44 : decode cX9_idle 44 = .ok (.iload_n 2, 1) := by decide +kernel
theorem dX9_idle_45 : decode cX9_idle 45 = .ok (.invokevirtual 214, 3) := by decide +kernel
theorem dX9_idle_48 : decode cX9_idle 48 = .ok (.istore_n 3, 1) := by decide +kernel
theorem dX9_idle_49 : decode cX9_idle 49 = .ok (.iload_n 3, 1) := by decide +kernel
