/-! ===== what each instruction is (printed rows) ===== -/
theorem dX9_readSum_5 : decode cX9_readSum 5 = .ok (.aload_n 0, 1) := by decide +kernel
theorem dX9_readSum_6 : decode cX9_readSum 6 = .ok (.getfield 258, 3) := by decide +kernel
theorem dX9_readSum_9 : decode cX9_readSum 9 = .ok (.iastore, 1) := by decide +kernel
theorem dX9_readSum_10 : decode cX9_readSum 10 = .ok (.aload_n 0, 1) := by decide +kernel
theorem dX9_readSum_11 : decode cX9_readSum 11 = .ok (.getfield 223, 3) := by decide +kernel
theorem dX9_readSum_14 : decode cX9_readSum 14 = .ok (.ifCond .ne 8, 3) := by decide +kernel
theorem dX9_readSum_17 : decode cX9_readSum 17 = .ok (.aload_n 0, 1) := by decide +kernel
theorem dX9_readSum_18 : decode cX9_readSum 18 = .ok (.iconst 0, 1) := by decide +kernel
theorem dX9_readSum_19 : decode cX9_readSum 19 = .ok (.invokevirtual 351, 3) := by decide +kernel
theorem dX9_readSum_22 : decode cX9_readSum 22 = .ok (.aload_n 0, 1) := by decide +kernel
theorem dX9_readSum_23 : decode cX9_readSum 23 = .ok (.getfield 125, 3) := by decide +kernel
theorem dX9_readSum_26 : decode cX9_readSum 26 = .ok (.iload_n 1, 1) := by decide +kernel
theorem dX9_readSum_27 : decode cX9_readSum 27 = .ok (.iconst 1, 1) := by decide +kernel
theorem dX9_readSum_28 : decode cX9_readSum 28 = .ok (.iadd, 1) := by decide +kernel
theorem dX9_readSum_29 : decode cX9_readSum 29 = .ok (.aload_n 0, 1) := by decide +kernel
theorem dX9_readSum_30 : decode cX9_readSum 30 = .ok (.getfield 258, 3) := by decide +kernel
theorem dX9_readSum_33 : decode cX9_readSum 33 = .ok (.iastore, 1) := by decide +kernel
theorem dX9_readSum_34 : decode cX9_readSum 34 = .ok (.return_, 1) := by decide +kernel
theorem dX9_behind_0 : decode cX9_behind 0 = .ok (.aload_n 0, 1) := by decide +kernel
theorem dX9_behind_1 : decode cX9_behind 1 = .ok (.getfield 223, 3) := by decide +kernel
theorem dX9_behind_4 : decode cX9_behind 4 = .ok (.ifCond .ne 12, 3) := by decide +kernel
theorem dX9_behind_7 : decode cX9_behind 7 = .ok (.aload_n 0, 1) := by decide +kernel
theorem dX9_behind_8 : decode cX9_behind 8 = .ok (.aload_n 0, 1) := by decide +kernel
theorem dX9_behind_9 : decode cX9_behind 9 = .ok (.lload_n 1, 1) := by decide +kernel
theorem dX9_behind_10 : decode cX9_behind 10 = .ok (.invokevirtual 277, 3) := by decide +kernel
theorem dX9_behind_13 : decode cX9_behind 13 = .ok (.invokevirtual 254, 3) := by decide +kernel
theorem dX9_behind_16 : decode cX9_behind 16 = .ok (.aload_n 0, 1) := by decide +kernel
theorem dX9_behind_17 : decode cX9_behind 17 = .ok (.iload_n 3, 1) := by decide +kernel
theorem dX9_behind_18 : decode cX9_behind 18 = .ok (.invokevirtual 491, 3) := by decide +kernel
theorem dX9_behind_21 : decode cX9_behind 21 = .ok (.return_, 1) := by decide +kernel
theorem dX9_readOrder_0 : decode cX9_readOrder 0 = .ok (.iconst (-1), 1) := by decide +kernel
theorem dX9_readOrder_1 : decode cX9_readOrder 1 = .ok (.istore_n 1, 1) := by decide +kernel
theorem dX9_readOrder_2 : decode cX9_readOrder 2 = .ok (.iconst 0, 1) := by decide +kernel
theorem dX9_readOrder_3 : decode cX9_readOrder 3 = .ok (.istore_n 2, 1) := by decide +kernel
theorem dX9_readOrder_4 : decode cX9_readOrder 4 = .ok (.iload_n 2, 1) := by decide +kernel
theorem dX9_readOrder_5 : decode cX9_readOrder 5 = .ok (.iconst 4, 1) := by decide +kernel
theorem dX9_readOrder_6 : decode cX9_readOrder 6 = .ok (.if_icmp .ge 28, 3) := by decide +kernel
theorem dX9_readOrder_9 : decode cX9_readOrder 9 = .ok (.aload_n 0, 1) := by decide +kernel
theorem dX9_readOrder_10 : decode cX9_readOrder 10 = .ok (.aload_n 0, 1) := by decide +kernel
theorem dX9_readOrder_11 : decode cX9_readOrder 11 = .ok (.getfield 122, 3) := by decide +kernel
theorem dX9_readOrder_14 : decode cX9_readOrder 14 = .ok (.iload_n 2, 1) := by decide +kernel
theorem dX9_readOrder_15 : decode cX9_readOrder 15 = .ok (.laload, 1) := by decide +kernel
theorem dX9_readOrder_16 : decode cX9_readOrder 16 = .ok (.invokevirtual 277, 3) := by decide +kernel
theorem dX9_readOrder_19 : decode cX9_readOrder 19 = .ok (.ifCond .eq 7, 3) := by decide +kernel
theorem dX9_readOrder_22 : decode cX9_readOrder 22 = .ok (.iload_n 2, 1) := by decide +kernel
theorem dX9_readOrder_23 : decode cX9_readOrder 23 = .ok (.goto 4, 3) := by decide +kernel
theorem dX9_readOrder_26 : decode cX9_readOrder 26 = .ok (.iload_n 1, 1) := by decide +kernel
theorem dX9_readOrder_27 : decode cX9_readOrder 27 = .ok (.istore_n 1, 1) := by decide +kernel
theorem dX9_readOrder_28 : decode cX9_readOrder 28 = .ok (.iinc 2 1, 3) := by decide +kernel
theorem dX9_readOrder_31 : decode cX9_readOrder 31 = .ok (.goto (-27), 3) := by decide +kernel
theorem dX9_readOrder_34 : decode cX9_readOrder 34 = .ok (.aload_n 0, 1) := by decide +kernel
theorem dX9_readOrder_35 : decode cX9_readOrder 35 = .ok (.iload_n 1, 1) := by decide +kernel
theorem dX9_readOrder_36 : decode cX9_readOrder 36 = .ok (.iconst (-1), 1) := by decide +kernel
theorem dX9_readOrder_37 : decode cX9_readOrder 37 = .ok (.if_icmp .eq 16, 3) := by decide +kernel
theorem dX9_readOrder_40 : decode cX9_readOrder 40 = .ok (.aload_n 0, 1) := by decide +kernel
theorem dX9_readOrder_41 : decode cX9_readOrder 41 = .ok (.getfield 348, 3) := by decide +kernel
theorem dX9_readOrder_44 : decode cX9_readOrder 44 = .ok (.bipush 12, 2) := by decide +kernel
theorem dX9_readOrder_46 : decode cX9_readOrder 46 = .ok (.if_icmp .ge 7, 3) := by decide +kernel
theorem dX9_readOrder_49 : decode cX9_readOrder 49 = .ok (.iconst 1, 1) := by decide +kernel
theorem dX9_readOrder_50 : decode cX9_readOrder 50 = .ok (.goto 4, 3) := by decide +kernel
theorem dX9_readOrder_53 : decode cX9_readOrder 53 = .ok (.iconst 0, 1) := by decide +kernel
theorem dX9_readOrder_54 : decode cX9_readOrder 54 = .ok (.invokevirtual 254, 3) := by decide +kernel
theorem dX9_readOrder_57 : decode cX9_readOrder 57 = .ok (.aload_n 0, 1) := by decide +kernel
theorem dX9_readOrder_58 : decode cX9_readOrder 58 = .ok (.getfield 223, 3) := by decide +kernel
theorem dX9_readOrder_61 : decode cX9_readOrder 61 = .ok (.ifCond .eq 4, 3) := by decide +kernel
theorem dX9_readOrder_64 : decode cX9_readOrder 64 = .ok (.return_, 1) := by decide +kernel
theorem dX9_readOrder_65 : decode cX9_readOrder 65 = .ok (.bipush 10, 2) := by decide +kernel
theorem dX9_readOrder_67 : decode cX9_readOrder 67 = .ok (.aload_n 0, 1) := by decide +kernel
theorem dX9_readOrder_68 : decode cX9_readOrder 68 = .ok (.getfield 348, 3) := by decide +kernel
theorem dX9_readOrder_71 : decode cX9_readOrder 71 = .ok (.imul, 1) := by decide +kernel
theorem dX9_readOrder_72 : decode cX9_readOrder 72 = .ok (.istore_n 2, 1) := by decide +kernel
theorem dX9_readOrder_73 : decode cX9_readOrder 73 = .ok (.aload_n 0, 1) := by decide +kernel
theorem dX9_readOrder_74 : decode cX9_readOrder 74 = .ok (.dup, 1) := by decide +kernel
theorem dX9_readOrder_75 : decode cX9_readOrder 75 = .ok (.getfield 348, 3) := by decide +kernel
theorem dX9_readOrder_78 : decode cX9_readOrder 78 = .ok (.iconst 1, 1) := by decide +kernel
theorem dX9_readOrder_79 : decode cX9_readOrder 79 = .ok (.iadd, 1) := by decide +kernel
theorem dX9_readOrder_80 : decode cX9_readOrder 80 = .ok (.putfield 348, 3) := by decide +kernel
theorem dX9_readOrder_83 : decode cX9_readOrder 83 = .ok (.iconst 0, 1) := by decide +kernel
theorem dX9_readOrder_84 : decode cX9_readOrder 84 = .ok (.istore_n 3, 1) := by decide +kernel
theorem dX9_readOrder_85 : decode cX9_readOrder 85 = .ok (.iload_n 3, 1) := by decide +kernel
theorem dX9_readOrder_86 : decode cX9_readOrder 86 = .ok (.bipush 10, 2) := by decide +kernel
theorem dX9_readOrder_88 : decode cX9_readOrder 88 = .ok (.if_icmp .ge 18, 3) := by decide +kernel
theorem dX9_readOrder_91 : decode cX9_readOrder 91 = .ok (.aload_n 0, 1) := by decide +kernel
theorem dX9_readOrder_92 : decode cX9_readOrder 92 = .ok (.getfield 125, 3) := by decide +kernel
theorem dX9_readOrder_95 : decode cX9_readOrder 95 = .ok (.iload_n 2, 1) := by decide +kernel
theorem dX9_readOrder_96 : decode cX9_readOrder 96 = .ok (.iload_n 3, 1) := by decide +kernel
theorem dX9_readOrder_97 : decode cX9_readOrder 97 = .ok (.iadd, 1) := by decide +kernel
theorem dX9_readOrder_98 : decode cX9_readOrder 98 = .ok (.iconst 0, 1) := by decide +kernel
theorem dX9_readOrder_99 : decode cX9_readOrder 99 = .ok (.iastore, 1) := by decide +kernel
theorem dX9_readOrder_100 : decode cX9_readOrder 100 = .ok (.iinc 3 1, 3) := by decide +kernel
theorem dX9_readOrder_103 : decode cX9_readOrder 103 = .ok (.goto (-18), 3) := by decide +kernel
theorem dX9_readOrder_106 : decode cX9_readOrder 106 = .ok (.aload_n 0, 1) := by decide +kernel
theorem dX9_readOrder_107 : decode cX9_readOrder 107 = .ok (.getfield 125, 3) := by decide +kernel
theorem dX9_readOrder_110 : decode cX9_readOrder 110 = .ok (.iload_n 2, 1) := by decide +kernel
theorem dX9_readOrder_111 : decode cX9_readOrder 111 = .ok (.iload_n 1, 1) := by decide +kernel
theorem dX9_readOrder_112 : decode cX9_readOrder 112 = .ok (.iastore, 1) := by decide +kernel
theorem dX9_readOrder_113 : decode cX9_readOrder 113 = .ok (.iload_n 1, 1) := by decide +kernel
theorem dX9_readOrder_114 : decode cX9_readOrder 114 = .ok (.iconst 3, 1) := by decide +kernel
theorem dX9_readOrder_115 : decode cX9_readOrder 115 = .ok (.if_icmp .eq 31, 3) := by decide +kernel
theorem dX9_readOrder_118 : decode cX9_readOrder 118 = .ok (.aload_n 0, 1) := by decide +kernel
theorem dX9_readOrder_119 : decode cX9_readOrder 119 = .ok (.iload_n 2, 1) := by decide +kernel
theorem dX9_readOrder_120 : decode cX9_readOrder 120 = .ok (.iconst 1, 1) := by decide +kernel
theorem dX9_readOrder_121 : decode cX9_readOrder 121 = .ok (.iadd, 1) := by decide +kernel
theorem dX9_readOrder_122 : decode cX9_readOrder 122 = .ok (.invokevirtual 491, 3) := by decide +kernel
theorem dX9_readOrder_125 : decode cX9_readOrder 125 = .ok (.aload_n 0, 1) := by decide +kernel
theorem dX9_readOrder_126 : decode cX9_readOrder 126 = .ok (.iload_n 1, 1) := by decide +kernel
theorem dX9_readOrder_127 : decode cX9_readOrder 127 = .ok (.iconst 2, 1) := by decide +kernel
theorem dX9_readOrder_128 : decode cX9_readOrder 128 = .ok (.if_icmp .ne 9, 3) := by decide +kernel
theorem dX9_readOrder_131 : decode cX9_readOrder 131 = .ok (.ldc2_w 494, 3) := by decide +kernel
theorem dX9_readOrder_134 : decode cX9_readOrder 134 = .ok (.goto 6, 3) := by decide +kernel
theorem dX9_readOrder_137 : decode cX9_readOrder 137 = .ok (.ldc2_w 496, 3) := by decide +kernel
theorem dX9_readOrder_140 : decode cX9_readOrder 140 = .ok (.iload_n 2, 1) := by decide +kernel
theorem dX9_readOrder_141 : decode cX9_readOrder 141 = .ok (.iconst 3, 1) := by decide +kernel
theorem dX9_readOrder_142 : decode cX9_readOrder 142 = .ok (.iadd, 1) := by decide +kernel
theorem dX9_readOrder_143 : decode cX9_readOrder 143 = .ok (.invokevirtual 498, 3) := by decide +kernel
theorem dX9_readOrder_146 : decode cX9_readOrder 146 = .ok (.iload_n 1, 1) := by decide +kernel
theorem dX9_readOrder_147 : decode cX9_readOrder 147 = .ok (.iconst 1, 1) := by decide +kernel
theorem dX9_readOrder_148 : decode cX9_readOrder 148 = .ok (.if_icmp .ne 13, 3) := by decide +kernel
theorem dX9_readOrder_151 : decode cX9_readOrder 151 = .ok (.aload_n 0, 1) := by decide +kernel
theorem dX9_readOrder_152 : decode cX9_readOrder 152 = .ok (.ldc2_w 502, 3) := by decide +kernel
theorem dX9_readOrder_155 : decode cX9_readOrder 155 = .ok (.iload_n 2, 1) := by decide +kernel
theorem dX9_readOrder_156 : decode cX9_readOrder 156 = .ok (.iconst 5, 1) := by decide +kernel
theorem dX9_readOrder_157 : decode cX9_readOrder 157 = .ok (.iadd, 1) := by decide +kernel
theorem dX9_readOrder_158 : decode cX9_readOrder 158 = .ok (.invokevirtual 498, 3) := by decide +kernel
theorem dX9_readOrder_161 : decode cX9_readOrder 161 = .ok (.aload_n 0, 1) := by decide +kernel
theorem dX9_readOrder_162 : decode cX9_readOrder 162 = .ok (.getfield 125, 3) := by decide +kernel
theorem dX9_readOrder_165 : decode cX9_readOrder 165 = .ok (.iload_n 2, 1) := by decide +kernel
theorem dX9_readOrder_166 : decode cX9_readOrder 166 = .ok (.bipush 9, 2) := by decide +kernel
theorem dX9_readOrder_168 : decode cX9_readOrder 168 = .ok (.iadd, 1) := by decide +kernel
theorem dX9_readOrder_169 : decode cX9_readOrder 169 = .ok (.iconst 1, 1) := by decide +kernel
theorem dX9_readOrder_170 : decode cX9_readOrder 170 = .ok (.iastore, 1) := by decide +kernel
theorem dX9_readOrder_171 : decode cX9_readOrder 171 = .ok (.aload_n 0, 1) := by decide +kernel
theorem dX9_readOrder_172 : decode cX9_readOrder 172 = .ok (.getfield 223, 3) := by decide +kernel
theorem dX9_readOrder_175 : decode cX9_readOrder 175 = .ok (.ifCond .ne 34, 3) := by decide +kernel
theorem dX9_readOrder_178 : decode cX9_readOrder 178 = .ok (.aload_n 0, 1) := by decide +kernel
theorem dX9_readOrder_179 : decode cX9_readOrder 179 = .ok (.ldc2_w 504, 3) := by decide +kernel
theorem dX9_readOrder_182 : decode cX9_readOrder 182 = .ok (.invokevirtual 277, 3) := by decide +kernel
theorem dX9_readOrder_185 : decode cX9_readOrder 185 = .ok (.ifCond .eq 24, 3) := by decide +kernel
theorem dX9_readOrder_188 : decode cX9_readOrder 188 = .ok (.aload_n 0, 1) := by decide +kernel
theorem dX9_readOrder_189 : decode cX9_readOrder 189 = .ok (.invokevirtual 227, 3) := by decide +kernel
theorem dX9_readOrder_192 : decode cX9_readOrder 192 = .ok (.aload_n 0, 1) := by decide +kernel
theorem dX9_readOrder_193 : decode cX9_readOrder 193 = .ok (.getfield 125, 3) := by decide +kernel
theorem dX9_readOrder_196 : decode cX9_readOrder 196 = .ok (.iload_n 2, 1) := by decide +kernel
theorem dX9_readOrder_197 : decode cX9_readOrder 197 = .ok (.bipush 9, 2) := by decide +kernel
theorem dX9_readOrder_199 : decode cX9_readOrder 199 = .ok (.iadd, 1) := by decide +kernel
theorem dX9_readOrder_200 : decode cX9_readOrder 200 = .ok (.aload_n 0, 1) := by decide +kernel
theorem dX9_readOrder_201 : decode cX9_readOrder 201 = .ok (.lconst 1, 1) := by decide +kernel
theorem dX9_readOrder_202 : decode cX9_readOrder 202 = .ok (.ldc2_w 194, 3) := by decide +kernel
theorem dX9_readOrder_205 : decode cX9_readOrder 205 = .ok (.invokevirtual 312, 3) := by decide +kernel
theorem dX9_readOrder_208 : decode cX9_readOrder 208 = .ok (.iastore, 1) := by decide +kernel
theorem dX9_readOrder_209 : decode cX9_readOrder 209 = .ok (.aload_n 0, 1) := by decide +kernel
theorem dX9_readOrder_210 : decode cX9_readOrder 210 = .ok (.getfield 125, 3) := by decide +kernel
theorem dX9_readOrder_213 : decode cX9_readOrder 213 = .ok (.iload_n 2, 1) := by decide +kernel
theorem dX9_readOrder_214 : decode cX9_readOrder 214 = .ok (.bipush 7, 2) := by decide +kernel
theorem dX9_readOrder_216 : decode cX9_readOrder 216 = .ok (.iadd, 1) := by decide +kernel
theorem dX9_readOrder_217 : decode cX9_readOrder 217 = .ok (.aload_n 0, 1) := by decide +kernel
theorem dX9_readOrder_218 : decode cX9_readOrder 218 = .ok (.getfield 258, 3) := by decide +kernel
theorem dX9_readOrder_221 : decode cX9_readOrder 221 = .ok (.iastore, 1) := by decide +kernel
theorem dX9_readOrder_222 : decode cX9_readOrder 222 = .ok (.aload_n 0, 1) := by decide +kernel
theorem dX9_readOrder_223 : decode cX9_readOrder 223 = .ok (.getfield 223, 3) := by decide +kernel
theorem dX9_readOrder_226 : decode cX9_readOrder 226 = .ok (.ifCond .ne 22, 3) := by decide +kernel
theorem dX9_readOrder_229 : decode cX9_readOrder 229 = .ok (.aload_n 0, 1) := by decide +kernel
theorem dX9_readOrder_230 : decode cX9_readOrder 230 = .ok (.ldc2_w 354, 3) := by decide +kernel
theorem dX9_readOrder_233 : decode cX9_readOrder 233 = .ok (.invokevirtual 277, 3) := by decide +kernel
theorem dX9_readOrder_236 : decode cX9_readOrder 236 = .ok (.ifCond .eq 12, 3) := by decide +kernel
theorem dX9_readOrder_239 : decode cX9_readOrder 239 = .ok (.aload_n 0, 1) := by decide +kernel
theorem dX9_readOrder_240 : decode cX9_readOrder 240 = .ok (.invokevirtual 227, 3) := by decide +kernel
theorem dX9_readOrder_243 : decode cX9_readOrder 243 = .ok (.aload_n 0, 1) := by decide +kernel
theorem dX9_readOrder_244 : decode cX9_readOrder 244 = .ok (.iconst 1, 1) := by decide +kernel
theorem dX9_readOrder_245 : decode cX9_readOrder 245 = .ok (.invokevirtual 351, 3) := by decide +kernel
theorem dX9_readOrder_248 : decode cX9_readOrder 248 = .ok (.aload_n 0, 1) := by decide +kernel
theorem dX9_readOrder_249 : decode cX9_readOrder 249 = .ok (.getfield 125, 3) := by decide +kernel
theorem dX9_readOrder_252 : decode cX9_readOrder 252 = .ok (.iload_n 2, 1) := by decide +kernel
theorem dX9_readOrder_253 : decode cX9_readOrder 253 = .ok (.bipush 7, 2) := by decide +kernel
theorem dX9_readOrder_255 : decode cX9_readOrder 255 = .ok (.iadd, 1) := by decide +kernel
theorem dX9_readOrder_256 : decode cX9_readOrder 256 = .ok (.iconst 1, 1) := by decide +kernel
theorem dX9_readOrder_257 : decode cX9_readOrder 257 = .ok (.iadd, 1) := by decide +kernel
theorem dX9_readOrder_258 : decode cX9_readOrder 258 = .ok (.aload_n 0, 1) := by decide +kernel
theorem dX9_readOrder_259 : decode cX9_readOrder 259 = .ok (.getfield 258, 3) := by decide +kernel
theorem dX9_readOrder_262 : decode cX9_readOrder 262 = .ok (.iastore, 1) := by decide +kernel
theorem dX9_readOrder_263 : decode cX9_readOrder 263 = .ok (.return_, 1) := by decide +kernel
theorem dX9_sumOf_0 : decode cX9_sumOf 0 = .ok (.aload_n 0, 1) := by decide +kernel
theorem dX9_sumOf_1 : decode cX9_sumOf 1 = .ok (.getfield 506, 3) := by decide +kernel
theorem dX9_sumOf_4 : decode cX9_sumOf 4 = .ok (.ifCond .ne 20, 3) := by decide +kernel
theorem dX9_sumOf_7 : decode cX9_sumOf 7 = .ok (.aload_n 0, 1) := by decide +kernel
theorem dX9_sumOf_8 : decode cX9_sumOf 8 = .ok (.getfield 125, 3) := by decide +kernel
theorem dX9_sumOf_11 : decode cX9_sumOf 11 = .ok (.iload_n 1, 1) := by decide +kernel
theorem dX9_sumOf_12 : decode cX9_sumOf 12 = .ok (.iaload, 1) := by decide +kernel
theorem dX9_sumOf_13 : decode cX9_sumOf 13 = .ok (.aload_n 0, 1) := by decide +kernel
theorem dX9_sumOf_14 : decode cX9_sumOf 14 = .ok (.getfield 125, 3) := by decide +kernel
theorem dX9_sumOf_17 : decode cX9_sumOf 17 = .ok (.iload_n 1, 1) := by decide +kernel
theorem dX9_sumOf_18 : decode cX9_sumOf 18 = .ok (.iconst 1, 1) := by decide +kernel
theorem dX9_sumOf_19 : decode cX9_sumOf 19 = .ok (.iadd, 1) := by decide +kernel
theorem dX9_sumOf_20 : decode cX9_sumOf 20 = .ok (.iaload, 1) := by decide +kernel
theorem dX9_sumOf_21 : decode cX9_sumOf 21 = .ok (.if_icmp .ne 5, 3) := by decide +kernel
theorem dX9_sumOf_24 : decode cX9_sumOf 24 = .ok (.iconst (-1), 1) := by decide +kernel
theorem dX9_sumOf_25 : decode cX9_sumOf 25 = .ok (.ireturn, 1) := by decide +kernel
theorem dX9_sumOf_26 : decode cX9_sumOf 26 = .ok (.aload_n 0, 1) := by decide +kernel
theorem dX9_sumOf_27 : decode cX9_sumOf 27 = .ok (.iconst 1, 1) := by decide +kernel
theorem dX9_sumOf_28 : decode cX9_sumOf 28 = .ok (.putfield 296, 3) := by decide +kernel
theorem dX9_sumOf_31 : decode cX9_sumOf 31 = .ok (.aload_n 0, 1) := by decide +kernel
theorem dX9_sumOf_32 : decode cX9_sumOf 32 = .ok (.aload_n 0, 1) := by decide +kernel
theorem dX9_sumOf_33 : decode cX9_sumOf 33 = .ok (.getfield 125, 3) := by decide +kernel
theorem dX9_sumOf_36 : decode cX9_sumOf 36 = .ok (.iload_n 1, 1) := by decide +kernel
theorem dX9_sumOf_37 : decode cX9_sumOf 37 = .ok (.iaload, 1) := by decide +kernel
theorem dX9_sumOf_38 : decode cX9_sumOf 38 = .ok (.aload_n 0, 1) := by decide +kernel
theorem dX9_sumOf_39 : decode cX9_sumOf 39 = .ok (.getfield 125, 3) := by decide +kernel
theorem dX9_sumOf_42 : decode cX9_sumOf 42 = .ok (.iload_n 1, 1) := by decide +kernel
theorem dX9_sumOf_43 : decode cX9_sumOf 43 = .ok (.iconst 1, 1) := by decide +kernel
theorem dX9_sumOf_44 : decode cX9_sumOf 44 = .ok (.iadd, 1) := by decide +kernel
theorem dX9_sumOf_45 : decode cX9_sumOf 45 = .ok (.iaload, 1) := by decide +kernel
theorem dX9_sumOf_46 : decode cX9_sumOf 46 = .ok (.invokevirtual 385, 3) := by decide +kernel
theorem dX9_sumOf_49 : decode cX9_sumOf 49 = .ok (.aload_n 0, 1) := by decide +kernel
theorem dX9_sumOf_50 : decode cX9_sumOf 50 = .ok (.iconst 0, 1) := by decide +kernel
theorem dX9_sumOf_51 : decode cX9_sumOf 51 = .ok (.putfield 296, 3) := by decide +kernel
theorem dX9_sumOf_54 : decode cX9_sumOf 54 = .ok (.aload_n 0, 1) := by decide +kernel
theorem dX9_sumOf_55 : decode cX9_sumOf 55 = .ok (.aload_n 0, 1) := by decide +kernel
theorem dX9_sumOf_56 : decode cX9_sumOf 56 = .ok (.getfield 368, 3) := by decide +kernel
theorem dX9_sumOf_59 : decode cX9_sumOf 59 = .ok (.putfield 506, 3) := by decide +kernel
theorem dX9_sumOf_62 : decode cX9_sumOf 62 = .ok (.aload_n 0, 1) := by decide +kernel
theorem dX9_sumOf_63 : decode cX9_sumOf 63 = .ok (.getfield 382, 3) := by decide +kernel
theorem dX9_sumOf_66 : decode cX9_sumOf 66 = .ok (.l2i, 1) := by decide +kernel
theorem dX9_sumOf_67 : decode cX9_sumOf 67 = .ok (.ireturn, 1) := by decide +kernel
theorem dX9_act_0 : decode cX9_act 0 = .ok (.iload_n 1, 1) := by decide +kernel
theorem dX9_act_1 : decode cX9_act 1 = .ok (.tableswitch 50 0 2 #[27, 34, 43], 27) := by decide +kernel
theorem dX9_act_28 : decode cX9_act 28 = .ok (.aload_n 0, 1) := by decide +kernel
theorem dX9_act_29 : decode cX9_act 29 = .ok (.iload_n 2, 1) := by decide +kernel
theorem dX9_act_30 : decode cX9_act 30 = .ok (.iload_n 3, 1) := by decide +kernel
theorem dX9_act_31 : decode cX9_act 31 = .ok (.invokevirtual 418, 3) := by decide +kernel
theorem dX9_act_34 : decode cX9_act 34 = .ok (.ireturn, 1) := by decide +kernel
theorem dX9_act_35 : decode cX9_act 35 = .ok (.aload_n 0, 1) := by decide +kernel
theorem dX9_act_36 : decode cX9_act 36 = .ok (.iload_n 2, 1) := by decide +kernel
theorem dX9_act_37 : decode cX9_act 37 = .ok (.iload_n 3, 1) := by decide +kernel
theorem dX9_act_38 : decode cX9_act 38 = .ok (.iload 4, 2) := by decide +kernel
theorem dX9_act_40 : decode cX9_act 40 = .ok (.invokevirtual 426, 3) := by decide +kernel
theorem dX9_act_43 : decode cX9_act 43 = .ok (.ireturn, 1) := by decide +kernel
theorem dX9_act_44 : decode cX9_act 44 = .ok (.aload_n 0, 1) := by decide +kernel
theorem dX9_act_45 : decode cX9_act 45 = .ok (.iload_n 2, 1) := by decide +kernel
theorem dX9_act_46 : decode cX9_act 46 = .ok (.iload_n 3, 1) := by decide +kernel
theorem dX9_act_47 : decode cX9_act 47 = .ok (.invokevirtual 433, 3) := by decide +kernel
theorem dX9_act_50 : decode cX9_act 50 = .ok (.ireturn, 1) := by decide +kernel
theorem dX9_act_51 : decode cX9_act 51 = .ok (.aload_n 0, 1) := by decide +kernel
theorem dX9_act_52 : decode cX9_act 52 = .ok (.invokevirtual 439, 3) := by decide +kernel
theorem dX9_act_55 : decode cX9_act 55 = .ok (.ireturn, 1) := by decide +kernel
theorem dX9_run_0 : decode cX9_run 0 = .ok (.aload_n 0, 1) := by decide +kernel
theorem dX9_run_1 : decode cX9_run 1 = .ok (.getfield 102, 3) := by decide +kernel
theorem dX9_run_4 : decode cX9_run 4 = .ok (.iconst 1, 1) := by decide +kernel
theorem dX9_run_5 : decode cX9_run 5 = .ok (.aload_n 0, 1) := by decide +kernel
theorem dX9_run_6 : decode cX9_run 6 = .ok (.getfield 13, 3) := by decide +kernel
theorem dX9_run_9 : decode cX9_run 9 = .ok (.iconst 4, 1) := by decide +kernel
theorem dX9_run_10 : decode cX9_run 10 = .ok (.iaload, 1) := by decide +kernel
theorem dX9_run_11 : decode cX9_run 11 = .ok (.i2l, 1) := by decide +kernel
theorem dX9_run_12 : decode cX9_run 12 = .ok (.lastore, 1) := by decide +kernel
theorem dX9_run_13 : decode cX9_run 13 = .ok (.aload_n 0, 1) := by decide +kernel
theorem dX9_run_14 : decode cX9_run 14 = .ok (.getfield 102, 3) := by decide +kernel
theorem dX9_run_17 : decode cX9_run 17 = .ok (.iconst 2, 1) := by decide +kernel
theorem dX9_run_18 : decode cX9_run 18 = .ok (.aload_n 0, 1) := by decide +kernel
theorem dX9_run_19 : decode cX9_run 19 = .ok (.getfield 509, 3) := by decide +kernel
theorem dX9_run_22 : decode cX9_run 22 = .ok (.i2l, 1) := by decide +kernel
theorem dX9_run_23 : decode cX9_run 23 = .ok (.lastore, 1) := by decide +kernel
theorem dX9_run_24 : decode cX9_run 24 = .ok (.aload_n 0, 1) := by decide +kernel
theorem dX9_run_25 : decode cX9_run 25 = .ok (.getfield 102, 3) := by decide +kernel
theorem dX9_run_28 : decode cX9_run 28 = .ok (.iconst 3, 1) := by decide +kernel
theorem dX9_run_29 : decode cX9_run 29 = .ok (.aload_n 0, 1) := by decide +kernel
theorem dX9_run_30 : decode cX9_run 30 = .ok (.getfield 512, 3) := by decide +kernel
theorem dX9_run_33 : decode cX9_run 33 = .ok (.i2l, 1) := by decide +kernel
theorem dX9_run_34 : decode cX9_run 34 = .ok (.lastore, 1) := by decide +kernel
theorem dX9_run_35 : decode cX9_run 35 = .ok (.aload_n 0, 1) := by decide +kernel
theorem dX9_run_36 : decode cX9_run 36 = .ok (.iconst 0, 1) := by decide +kernel
theorem dX9_run_37 : decode cX9_run 37 = .ok (.putfield 506, 3) := by decide +kernel
theorem dX9_run_40 : decode cX9_run 40 = .ok (.aload_n 0, 1) := by decide +kernel
theorem dX9_run_41 : decode cX9_run 41 = .ok (.getfield 125, 3) := by decide +kernel
theorem dX9_run_44 : decode cX9_run 44 = .ok (.iload_n 1, 1) := by decide +kernel
theorem dX9_run_45 : decode cX9_run 45 = .ok (.bipush 7, 2) := by decide +kernel
theorem dX9_run_47 : decode cX9_run 47 = .ok (.iadd, 1) := by decide +kernel
theorem dX9_run_48 : decode cX9_run 48 = .ok (.iaload, 1) := by decide +kernel
theorem dX9_run_49 : decode cX9_run 49 = .ok (.aload_n 0, 1) := by decide +kernel
theorem dX9_run_50 : decode cX9_run 50 = .ok (.getfield 125, 3) := by decide +kernel
theorem dX9_run_53 : decode cX9_run 53 = .ok (.iload_n 1, 1) := by decide +kernel
theorem dX9_run_54 : decode cX9_run 54 = .ok (.bipush 7, 2) := by decide +kernel
theorem dX9_run_56 : decode cX9_run 56 = .ok (.iadd, 1) := by decide +kernel
theorem dX9_run_57 : decode cX9_run 57 = .ok (.iconst 1, 1) := by decide +kernel
theorem dX9_run_58 : decode cX9_run 58 = .ok (.iadd, 1) := by decide +kernel
theorem dX9_run_59 : decode cX9_run 59 = .ok (.iaload, 1) := by decide +kernel
theorem dX9_run_60 : decode cX9_run 60 = .ok (.if_icmp .ge 25, 3) := by decide +kernel
theorem dX9_run_63 : decode cX9_run 63 = .ok (.aload_n 0, 1) := by decide +kernel
theorem dX9_run_64 : decode cX9_run 64 = .ok (.iload_n 1, 1) := by decide +kernel
theorem dX9_run_65 : decode cX9_run 65 = .ok (.bipush 7, 2) := by decide +kernel
theorem dX9_run_67 : decode cX9_run 67 = .ok (.iadd, 1) := by decide +kernel
theorem dX9_run_68 : decode cX9_run 68 = .ok (.invokevirtual 515, 3) := by decide +kernel
theorem dX9_run_71 : decode cX9_run 71 = .ok (.istore_n 2, 1) := by decide +kernel
theorem dX9_run_72 : decode cX9_run 72 = .ok (.aload_n 0, 1) := by decide +kernel
theorem dX9_run_73 : decode cX9_run 73 = .ok (.getfield 506, 3) := by decide +kernel
theorem dX9_run_76 : decode cX9_run 76 = .ok (.ifCond .ne 7, 3) := by decide +kernel
theorem dX9_run_79 : decode cX9_run 79 = .ok (.iload_n 2, 1) := by decide +kernel
theorem dX9_run_80 : decode cX9_run 80 = .ok (.ifCond .ne 5, 3) := by decide +kernel
theorem dX9_run_83 : decode cX9_run 83 = .ok (.iconst 0, 1) := by decide +kernel
theorem dX9_run_84 : decode cX9_run 84 = .ok (.ireturn, 1) := by decide +kernel
theorem dX9_run_85 : decode cX9_run 85 = .ok (.aload_n 0, 1) := by decide +kernel
theorem dX9_run_86 : decode cX9_run 86 = .ok (.iload_n 1, 1) := by decide +kernel
theorem dX9_run_87 : decode cX9_run 87 = .ok (.iconst 1, 1) := by decide +kernel
theorem dX9_run_88 : decode cX9_run 88 = .ok (.iadd, 1) := by decide +kernel
theorem dX9_run_89 : decode cX9_run 89 = .ok (.invokevirtual 515, 3) := by decide +kernel
theorem dX9_run_92 : decode cX9_run 92 = .ok (.istore_n 2, 1) := by decide +kernel
theorem dX9_run_93 : decode cX9_run 93 = .ok (.aload_n 0, 1) := by decide +kernel
theorem dX9_run_94 : decode cX9_run 94 = .ok (.iload_n 1, 1) := by decide +kernel
theorem dX9_run_95 : decode cX9_run 95 = .ok (.iconst 3, 1) := by decide +kernel
theorem dX9_run_96 : decode cX9_run 96 = .ok (.iadd, 1) := by decide +kernel
theorem dX9_run_97 : decode cX9_run 97 = .ok (.invokevirtual 515, 3) := by decide +kernel
theorem dX9_run_100 : decode cX9_run 100 = .ok (.istore_n 3, 1) := by decide +kernel
theorem dX9_run_101 : decode cX9_run 101 = .ok (.aload_n 0, 1) := by decide +kernel
theorem dX9_run_102 : decode cX9_run 102 = .ok (.iload_n 1, 1) := by decide +kernel
theorem dX9_run_103 : decode cX9_run 103 = .ok (.iconst 5, 1) := by decide +kernel
theorem dX9_run_104 : decode cX9_run 104 = .ok (.iadd, 1) := by decide +kernel
theorem dX9_run_105 : decode cX9_run 105 = .ok (.invokevirtual 515, 3) := by decide +kernel
theorem dX9_run_108 : decode cX9_run 108 = .ok (.istore 4, 2) := by decide +kernel
theorem dX9_run_110 : decode cX9_run 110 = .ok (.aload_n 0, 1) := by decide +kernel
theorem dX9_run_111 : decode cX9_run 111 = .ok (.getfield 506, 3) := by decide +kernel
theorem dX9_run_114 : decode cX9_run 114 = .ok (.ifCond .eq 6, 3) := by decide +kernel
theorem dX9_run_117 : decode cX9_run 117 = .ok (.bipush (-3), 2) := by decide +kernel
theorem dX9_run_119 : decode cX9_run 119 = .ok (.ireturn, 1) := by decide +kernel
theorem dX9_run_120 : decode cX9_run 120 = .ok (.aload_n 0, 1) := by decide +kernel
theorem dX9_run_121 : decode cX9_run 121 = .ok (.aload_n 0, 1) := by decide +kernel
theorem dX9_run_122 : decode cX9_run 122 = .ok (.getfield 125, 3) := by decide +kernel
theorem dX9_run_125 : decode cX9_run 125 = .ok (.iload_n 1, 1) := by decide +kernel
theorem dX9_run_126 : decode cX9_run 126 = .ok (.iaload, 1) := by decide +kernel
theorem dX9_run_127 : decode cX9_run 127 = .ok (.iload_n 2, 1) := by decide +kernel
theorem dX9_run_128 : decode cX9_run 128 = .ok (.iload_n 3, 1) := by decide +kernel
theorem dX9_run_129 : decode cX9_run 129 = .ok (.iload 4, 2) := by decide +kernel
theorem dX9_run_131 : decode cX9_run 131 = .ok (.invokevirtual 518, 3) := by decide +kernel
theorem dX9_run_134 : decode cX9_run 134 = .ok (.istore 5, 2) := by decide +kernel
theorem dX9_run_136 : decode cX9_run 136 = .ok (.iload 5, 2) := by decide +kernel
theorem dX9_run_138 : decode cX9_run 138 = .ok (.ifCond .ge 6, 3) := by decide +kernel
theorem dX9_run_141 : decode cX9_run 141 = .ok (.bipush (-3), 2) := by decide +kernel
theorem dX9_run_143 : decode cX9_run 143 = .ok (.ireturn, 1) := by decide +kernel
theorem dX9_run_144 : decode cX9_run 144 = .ok (.aload_n 0, 1) := by decide +kernel
theorem dX9_run_145 : decode cX9_run 145 = .ok (.aload_n 0, 1) := by decide +kernel
theorem dX9_run_146 : decode cX9_run 146 = .ok (.getfield 125, 3) := by decide +kernel
theorem dX9_run_149 : decode cX9_run 149 = .ok (.iload_n 1, 1) := by decide +kernel
theorem dX9_run_150 : decode cX9_run 150 = .ok (.iaload, 1) := by decide +kernel
theorem dX9_run_151 : decode cX9_run 151 = .ok (.ifCond .ne 8, 3) := by decide +kernel
theorem dX9_run_154 : decode cX9_run 154 = .ok (.iload 5, 2) := by decide +kernel
theorem dX9_run_156 : decode cX9_run 156 = .ok (.goto 7, 3) := by decide +kernel
theorem dX9_run_159 : decode cX9_run 159 = .ok (.aload_n 0, 1) := by decide +kernel
theorem dX9_run_160 : decode cX9_run 160 = .ok (.getfield 512, 3) := by decide +kernel
theorem dX9_run_163 : decode cX9_run 163 = .ok (.putfield 512, 3) := by decide +kernel
theorem dX9_run_166 : decode cX9_run 166 = .ok (.aload_n 0, 1) := by decide +kernel
theorem dX9_run_167 : decode cX9_run 167 = .ok (.dup, 1) := by decide +kernel
theorem dX9_run_168 : decode cX9_run 168 = .ok (.getfield 509, 3) := by decide +kernel
theorem dX9_run_171 : decode cX9_run 171 = .ok (.iconst 1, 1) := by decide +kernel
theorem dX9_run_172 : decode cX9_run 172 = .ok (.iadd, 1) := by decide +kernel
theorem dX9_run_173 : decode cX9_run 173 = .ok (.putfield 509, 3) := by decide +kernel
theorem dX9_run_176 : decode cX9_run 176 = .ok (.iconst 0, 1) := by decide +kernel
theorem dX9_run_177 : decode cX9_run 177 = .ok (.ireturn, 1) := by decide +kernel
theorem dX9_orders_0 : decode cX9_orders 0 = .ok (.aload_n 0, 1) := by decide +kernel
theorem dX9_orders_1 : decode cX9_orders 1 = .ok (.iconst 0, 1) := by decide +kernel
theorem dX9_orders_2 : decode cX9_orders 2 = .ok (.putfield 134, 3) := by decide +kernel
theorem dX9_orders_5 : decode cX9_orders 5 = .ok (.aload_n 0, 1) := by decide +kernel
theorem dX9_orders_6 : decode cX9_orders 6 = .ok (.iconst (-1), 1) := by decide +kernel
theorem dX9_orders_7 : decode cX9_orders 7 = .ok (.putfield 128, 3) := by decide +kernel
theorem dX9_orders_10 : decode cX9_orders 10 = .ok (.aload_n 0, 1) := by decide +kernel
theorem dX9_orders_11 : decode cX9_orders 11 = .ok (.iconst 1, 1) := by decide +kernel
theorem dX9_orders_12 : decode cX9_orders 12 = .ok (.invokevirtual 356, 3) := by decide +kernel
theorem dX9_orders_15 : decode cX9_orders 15 = .ok (.aload_n 0, 1) := by decide +kernel
theorem dX9_orders_16 : decode cX9_orders 16 = .ok (.invokevirtual 521, 3) := by decide +kernel
theorem dX9_orders_19 : decode cX9_orders 19 = .ok (.aload_n 0, 1) := by decide +kernel
theorem dX9_orders_20 : decode cX9_orders 20 = .ok (.getfield 223, 3) := by decide +kernel
theorem dX9_orders_23 : decode cX9_orders 23 = .ok (.ifCond .ne 23, 3) := by decide +kernel
theorem dX9_orders_26 : decode cX9_orders 26 = .ok (.aload_n 0, 1) := by decide +kernel
theorem dX9_orders_27 : decode cX9_orders 27 = .ok (.bipush 59, 2) := by decide +kernel
theorem dX9_orders_29 : decode cX9_orders 29 = .ok (.invokevirtual 290, 3) := by decide +kernel
theorem dX9_orders_32 : decode cX9_orders 32 = .ok (.ifCond .eq 14, 3) := by decide +kernel
theorem dX9_orders_35 : decode cX9_orders 35 = .ok (.aload_n 0, 1) := by decide +kernel
theorem dX9_orders_36 : decode cX9_orders 36 = .ok (.invokevirtual 227, 3) := by decide +kernel
theorem dX9_orders_39 : decode cX9_orders 39 = .ok (.aload_n 0, 1) := by decide +kernel
theorem dX9_orders_40 : decode cX9_orders 40 = .ok (.invokevirtual 521, 3) := by decide +kernel
theorem dX9_orders_43 : decode cX9_orders 43 = .ok (.goto (-24), 3) := by decide +kernel
theorem dX9_orders_46 : decode cX9_orders 46 = .ok (.aload_n 0, 1) := by decide +kernel
theorem dX9_orders_47 : decode cX9_orders 47 = .ok (.invokevirtual 362, 3) := by decide +kernel
theorem dX9_orders_50 : decode cX9_orders 50 = .ok (.aload_n 0, 1) := by decide +kernel
theorem dX9_orders_51 : decode cX9_orders 51 = .ok (.getfield 223, 3) := by decide +kernel
theorem dX9_orders_54 : decode cX9_orders 54 = .ok (.ifCond .eq 10, 3) := by decide +kernel
theorem dX9_orders_57 : decode cX9_orders 57 = .ok (.aload_n 0, 1) := by decide +kernel
theorem dX9_orders_58 : decode cX9_orders 58 = .ok (.bipush (-6), 2) := by decide +kernel
theorem dX9_orders_60 : decode cX9_orders 60 = .ok (.invokevirtual 143, 3) := by decide +kernel
theorem dX9_orders_63 : decode cX9_orders 63 = .ok (.ireturn, 1) := by decide +kernel
theorem dX9_orders_64 : decode cX9_orders 64 = .ok (.aload_n 0, 1) := by decide +kernel
theorem dX9_orders_65 : decode cX9_orders 65 = .ok (.bipush 17, 2) := by decide +kernel
theorem dX9_orders_67 : decode cX9_orders 67 = .ok (.invokevirtual 147, 3) := by decide +kernel
theorem dX9_orders_70 : decode cX9_orders 70 = .ok (.aload_n 0, 1) := by decide +kernel
theorem dX9_orders_71 : decode cX9_orders 71 = .ok (.getfield 140, 3) := by decide +kernel
theorem dX9_orders_74 : decode cX9_orders 74 = .ok (.istore_n 1, 1) := by decide +kernel
theorem dX9_orders_75 : decode cX9_orders 75 = .ok (.iconst 0, 1) := by decide +kernel
theorem dX9_orders_76 : decode cX9_orders 76 = .ok (.istore_n 2, 1) := by decide +kernel
theorem dX9_orders_77 : decode cX9_orders 77 = .ok (.iload_n 2, 1) := by decide +kernel
theorem dX9_orders_78 : decode cX9_orders 78 = .ok (.sipush 496, 3) := by decide +kernel
theorem dX9_orders_81 : decode cX9_orders 81 = .ok (.if_icmp .ge 21, 3) := by decide +kernel
theorem dX9_orders_84 : decode cX9_orders 84 = .ok (.aload_n 0, 1) := by decide +kernel
theorem dX9_orders_85 : decode cX9_orders 85 = .ok (.getfield 29, 3) := by decide +kernel
theorem dX9_orders_88 : decode cX9_orders 88 = .ok (.iload_n 2, 1) := by decide +kernel
theorem dX9_orders_89 : decode cX9_orders 89 = .ok (.aload_n 0, 1) := by decide +kernel
theorem dX9_orders_90 : decode cX9_orders 90 = .ok (.getfield 23, 3) := by decide +kernel
theorem dX9_orders_93 : decode cX9_orders 93 = .ok (.iload_n 2, 1) := by decide +kernel
theorem dX9_orders_94 : decode cX9_orders 94 = .ok (.iaload, 1) := by decide +kernel
theorem dX9_orders_95 : decode cX9_orders 95 = .ok (.iastore, 1) := by decide +kernel
theorem dX9_orders_96 : decode cX9_orders 96 = .ok (.iinc 2 1, 3) := by decide +kernel
theorem dX9_orders_99 : decode cX9_orders 99 = .ok (.goto (-22), 3) := by decide +kernel
theorem dX9_orders_102 : decode cX9_orders 102 = .ok (.iconst 0, 1) := by decide +kernel
theorem dX9_orders_103 : decode cX9_orders 103 = .ok (.istore_n 2, 1) := by decide +kernel
theorem dX9_orders_104 : decode cX9_orders 104 = .ok (.iload_n 2, 1) := by decide +kernel
theorem dX9_orders_105 : decode cX9_orders 105 = .ok (.bipush 16, 2) := by decide +kernel
theorem dX9_orders_107 : decode cX9_orders 107 = .ok (.if_icmp .ge 21, 3) := by decide +kernel
theorem dX9_orders_110 : decode cX9_orders 110 = .ok (.aload_n 0, 1) := by decide +kernel
theorem dX9_orders_111 : decode cX9_orders 111 = .ok (.getfield 32, 3) := by decide +kernel
theorem dX9_orders_114 : decode cX9_orders 114 = .ok (.iload_n 2, 1) := by decide +kernel
theorem dX9_orders_115 : decode cX9_orders 115 = .ok (.aload_n 0, 1) := by decide +kernel
theorem dX9_orders_116 : decode cX9_orders 116 = .ok (.getfield 26, 3) := by decide +kernel
theorem dX9_orders_119 : decode cX9_orders 119 = .ok (.iload_n 2, 1) := by decide +kernel
theorem dX9_orders_120 : decode cX9_orders 120 = .ok (.iaload, 1) := by decide +kernel
theorem dX9_orders_121 : decode cX9_orders 121 = .ok (.iastore, 1) := by decide +kernel
theorem dX9_orders_122 : decode cX9_orders 122 = .ok (.iinc 2 1, 3) := by decide +kernel
theorem dX9_orders_125 : decode cX9_orders 125 = .ok (.goto (-21), 3) := by decide +kernel
theorem dX9_orders_128 : decode cX9_orders 128 = .ok (.aload_n 0, 1) := by decide +kernel
theorem dX9_orders_129 : decode cX9_orders 129 = .ok (.iconst 0, 1) := by decide +kernel
theorem dX9_orders_130 : decode cX9_orders 130 = .ok (.putfield 509, 3) := by decide +kernel
theorem dX9_orders_133 : decode cX9_orders 133 = .ok (.aload_n 0, 1) := by decide +kernel
theorem dX9_orders_134 : decode cX9_orders 134 = .ok (.iconst (-1), 1) := by decide +kernel
theorem dX9_orders_135 : decode cX9_orders 135 = .ok (.putfield 512, 3) := by decide +kernel
theorem dX9_orders_138 : decode cX9_orders 138 = .ok (.iconst 0, 1) := by decide +kernel
theorem dX9_orders_139 : decode cX9_orders 139 = .ok (.istore_n 2, 1) := by decide +kernel
theorem dX9_orders_140 : decode cX9_orders 140 = .ok (.iload_n 2, 1) := by decide +kernel
theorem dX9_orders_141 : decode cX9_orders 141 = .ok (.aload_n 0, 1) := by decide +kernel
theorem dX9_orders_142 : decode cX9_orders 142 = .ok (.getfield 348, 3) := by decide +kernel
theorem dX9_orders_145 : decode cX9_orders 145 = .ok (.if_icmp .ge 61, 3) := by decide +kernel
theorem dX9_orders_148 : decode cX9_orders 148 = .ok (.iconst 0, 1) := by decide +kernel
theorem dX9_orders_149 : decode cX9_orders 149 = .ok (.istore_n 3, 1) := by decide +kernel
theorem dX9_orders_150 : decode cX9_orders 150 = .ok (.iload_n 3, 1) := by decide +kernel
theorem dX9_orders_151 : decode cX9_orders 151 = .ok (.aload_n 0, 1) := by decide +kernel
theorem dX9_orders_152 : decode cX9_orders 152 = .ok (.getfield 125, 3) := by decide +kernel
theorem dX9_orders_155 : decode cX9_orders 155 = .ok (.bipush 10, 2) := by decide +kernel
theorem dX9_orders_157 : decode cX9_orders 157 = .ok (.iload_n 2, 1) := by decide +kernel
theorem dX9_orders_158 : decode cX9_orders 158 = .ok (.imul, 1) := by decide +kernel
theorem dX9_orders_159 : decode cX9_orders 159 = .ok (.bipush 9, 2) := by decide +kernel
theorem dX9_orders_161 : decode cX9_orders 161 = .ok (.iadd, 1) := by decide +kernel
theorem dX9_orders_162 : decode cX9_orders 162 = .ok (.iaload, 1) := by decide +kernel
theorem dX9_orders_163 : decode cX9_orders 163 = .ok (.if_icmp .ge 37, 3) := by decide +kernel
theorem dX9_orders_166 : decode cX9_orders 166 = .ok (.aload_n 0, 1) := by decide +kernel
theorem dX9_orders_167 : decode cX9_orders 167 = .ok (.bipush 10, 2) := by decide +kernel
theorem dX9_orders_169 : decode cX9_orders 169 = .ok (.iload_n 2, 1) := by decide +kernel
theorem dX9_orders_170 : decode cX9_orders 170 = .ok (.imul, 1) := by decide +kernel
theorem dX9_orders_171 : decode cX9_orders 171 = .ok (.invokevirtual 524, 3) := by decide +kernel
theorem dX9_orders_174 : decode cX9_orders 174 = .ok (.ifCond .ge 20, 3) := by decide +kernel
theorem dX9_orders_177 : decode cX9_orders 177 = .ok (.aload_n 0, 1) := by decide +kernel
theorem dX9_orders_178 : decode cX9_orders 178 = .ok (.iload_n 1, 1) := by decide +kernel
theorem dX9_orders_179 : decode cX9_orders 179 = .ok (.invokevirtual 527, 3) := by decide +kernel
theorem dX9_orders_182 : decode cX9_orders 182 = .ok (.aload_n 0, 1) := by decide +kernel
theorem dX9_orders_183 : decode cX9_orders 183 = .ok (.iload_n 2, 1) := by decide +kernel
theorem dX9_orders_184 : decode cX9_orders 184 = .ok (.putfield 128, 3) := by decide +kernel
theorem dX9_orders_187 : decode cX9_orders 187 = .ok (.aload_n 0, 1) := by decide +kernel
theorem dX9_orders_188 : decode cX9_orders 188 = .ok (.bipush (-3), 2) := by decide +kernel
theorem dX9_orders_190 : decode cX9_orders 190 = .ok (.invokevirtual 143, 3) := by decide +kernel
theorem dX9_orders_193 : decode cX9_orders 193 = .ok (.ireturn, 1) := by decide +kernel
theorem dX9_orders_194 : decode cX9_orders 194 = .ok (.iinc 3 1, 3) := by decide +kernel
theorem dX9_orders_197 : decode cX9_orders 197 = .ok (.goto (-47), 3) := by decide +kernel
theorem dX9_orders_200 : decode cX9_orders 200 = .ok (.iinc 2 1, 3) := by decide +kernel
theorem dX9_orders_203 : decode cX9_orders 203 = .ok (.goto (-63), 3) := by decide +kernel
theorem dX9_orders_206 : decode cX9_orders 206 = .ok (.aload_n 0, 1) := by decide +kernel
theorem dX9_orders_207 : decode cX9_orders 207 = .ok (.aload_n 0, 1) := by decide +kernel
theorem dX9_orders_208 : decode cX9_orders 208 = .ok (.getfield 509, 3) := by decide +kernel
theorem dX9_orders_211 : decode cX9_orders 211 = .ok (.invokevirtual 143, 3) := by decide +kernel
theorem dX9_orders_214 : decode cX9_orders 214 = .ok (.ireturn, 1) := by decide +kernel
theorem dX9_giveBack_0 : decode cX9_giveBack 0 = .ok (.aload_n 0, 1) := by decide +kernel
theorem dX9_giveBack_1 : decode cX9_giveBack 1 = .ok (.bipush 17, 2) := by decide +kernel
theorem dX9_giveBack_3 : decode cX9_giveBack 3 = .ok (.invokevirtual 151, 3) := by decide +kernel
theorem dX9_giveBack_6 : decode cX9_giveBack 6 = .ok (.iconst 0, 1) := by decide +kernel
theorem dX9_giveBack_7 : decode cX9_giveBack 7 = .ok (.istore_n 2, 1) := by decide +kernel
theorem dX9_giveBack_8 : decode cX9_giveBack 8 = .ok (.iload_n 2, 1) := by decide +kernel
theorem dX9_giveBack_9 : decode cX9_giveBack 9 = .ok (.sipush 496, 3) := by decide +kernel
theorem dX9_giveBack_12 : decode cX9_giveBack 12 = .ok (.if_icmp .ge 21, 3) := by decide +kernel
theorem dX9_giveBack_15 : decode cX9_giveBack 15 = .ok (.aload_n 0, 1) := by decide +kernel
theorem dX9_giveBack_16 : decode cX9_giveBack 16 = .ok (.getfield 23, 3) := by decide +kernel
theorem dX9_giveBack_19 : decode cX9_giveBack 19 = .ok (.iload_n 2, 1) := by decide +kernel
theorem dX9_giveBack_20 : decode cX9_giveBack 20 = .ok (.aload_n 0, 1) := by decide +kernel
theorem dX9_giveBack_21 : decode cX9_giveBack 21 = .ok (.getfield 29, 3) := by decide +kernel
theorem dX9_giveBack_24 : decode cX9_giveBack 24 = .ok (.iload_n 2, 1) := by decide +kernel
theorem dX9_giveBack_25 : decode cX9_giveBack 25 = .ok (.iaload, 1) := by decide +kernel
theorem dX9_giveBack_26 : decode cX9_giveBack 26 = .ok (.iastore, 1) := by decide +kernel
theorem dX9_giveBack_27 : decode cX9_giveBack 27 = .ok (.iinc 2 1, 3) := by decide +kernel
theorem dX9_giveBack_30 : decode cX9_giveBack 30 = .ok (.goto (-22), 3) := by decide +kernel
theorem dX9_giveBack_33 : decode cX9_giveBack 33 = .ok (.iconst 0, 1) := by decide +kernel
theorem dX9_giveBack_34 : decode cX9_giveBack 34 = .ok (.istore_n 2, 1) := by decide +kernel
theorem dX9_giveBack_35 : decode cX9_giveBack 35 = .ok (.iload_n 2, 1) := by decide +kernel
theorem dX9_giveBack_36 : decode cX9_giveBack 36 = .ok (.bipush 16, 2) := by decide +kernel
theorem dX9_giveBack_38 : decode cX9_giveBack 38 = .ok (.if_icmp .ge 21, 3) := by decide +kernel
theorem dX9_giveBack_41 : decode cX9_giveBack 41 = .ok (.aload_n 0, 1) := by decide +kernel
theorem dX9_giveBack_42 : decode cX9_giveBack 42 = .ok (.getfield 26, 3) := by decide +kernel
theorem dX9_giveBack_45 : decode cX9_giveBack 45 = .ok (.iload_n 2, 1) := by decide +kernel
theorem dX9_giveBack_46 : decode cX9_giveBack 46 = .ok (.aload_n 0, 1) := by decide +kernel
theorem dX9_giveBack_47 : decode cX9_giveBack 47 = .ok (.getfield 32, 3) := by decide +kernel
theorem dX9_giveBack_50 : decode cX9_giveBack 50 = .ok (.iload_n 2, 1) := by decide +kernel
theorem dX9_giveBack_51 : decode cX9_giveBack 51 = .ok (.iaload, 1) := by decide +kernel
theorem dX9_giveBack_52 : decode cX9_giveBack 52 = .ok (.iastore, 1) := by decide +kernel
theorem dX9_giveBack_53 : decode cX9_giveBack 53 = .ok (.iinc 2 1, 3) := by decide +kernel
theorem dX9_giveBack_56 : decode cX9_giveBack 56 = .ok (.goto (-21), 3) := by decide +kernel
theorem dX9_giveBack_59 : decode cX9_giveBack 59 = .ok (.aload_n 0, 1) := by decide +kernel
theorem dX9_giveBack_60 : decode cX9_giveBack 60 = .ok (.iload_n 1, 1) := by decide +kernel
theorem dX9_giveBack_61 : decode cX9_giveBack 61 = .ok (.putfield 140, 3) := by decide +kernel
theorem dX9_giveBack_64 : decode cX9_giveBack 64 = .ok (.return_, 1) := by decide +kernel
theorem dX9_stopped_0 : decode cX9_stopped 0 = .ok (.aload_n 0, 1) := by decide +kernel
theorem dX9_stopped_1 : decode cX9_stopped 1 = .ok (.iconst 0, 1) := by decide +kernel
theorem dX9_stopped_2 : decode cX9_stopped 2 = .ok (.putfield 134, 3) := by decide +kernel
theorem dX9_stopped_5 : decode cX9_stopped 5 = .ok (.aload_n 0, 1) := by decide +kernel
theorem dX9_stopped_6 : decode cX9_stopped 6 = .ok (.getfield 128, 3) := by decide +kernel
theorem dX9_stopped_9 : decode cX9_stopped 9 = .ok (.ireturn, 1) := by decide +kernel
theorem dX9_draw_0 : decode cX9_draw 0 = .ok (.aload_n 0, 1) := by decide +kernel
theorem dX9_draw_1 : decode cX9_draw 1 = .ok (.aload_n 0, 1) := by decide +kernel
theorem dX9_draw_2 : decode cX9_draw 2 = .ok (.getfield 530, 3) := by decide +kernel
theorem dX9_draw_5 : decode cX9_draw 5 = .ok (.ldc2_w 533, 3) := by decide +kernel
theorem dX9_draw_8 : decode cX9_draw 8 = .ok (.lmul, 1) := by decide +kernel
theorem dX9_draw_9 : decode cX9_draw 9 = .ok (.ldc2_w 535, 3) := by decide +kernel
theorem dX9_draw_12 : decode cX9_draw 12 = .ok (.ladd, 1) := by decide +kernel
theorem dX9_draw_13 : decode cX9_draw 13 = .ok (.ldc2_w 537, 3) := by decide +kernel
theorem dX9_draw_16 : decode cX9_draw 16 = .ok (.lrem, 1) := by decide +kernel
theorem dX9_draw_17 : decode cX9_draw 17 = .ok (.putfield 530, 3) := by decide +kernel
theorem dX9_draw_20 : decode cX9_draw 20 = .ok (.aload_n 0, 1) := by decide +kernel
theorem dX9_draw_21 : decode cX9_draw 21 = .ok (.getfield 530, 3) := by decide +kernel
theorem dX9_draw_24 : decode cX9_draw 24 = .ok (.iload_n 1, 1) := by decide +kernel
theorem dX9_draw_25 : decode cX9_draw 25 = .ok (.i2l, 1) := by decide +kernel
theorem dX9_draw_26 : decode cX9_draw 26 = .ok (.lrem, 1) := by decide +kernel
theorem dX9_draw_27 : decode cX9_draw 27 = .ok (.l2i, 1) := by decide +kernel
theorem dX9_draw_28 : decode cX9_draw 28 = .ok (.ireturn, 1) := by decide +kernel
theorem dX9_decades_0 : decode cX9_decades 0 = .ok (.aload_n 0, 1) := by decide +kernel
theorem dX9_decades_1 : decode cX9_decades 1 = .ok (.iconst 0, 1) := by decide +kernel
theorem dX9_decades_2 : decode cX9_decades 2 = .ok (.putfield 134, 3) := by decide +kernel
theorem dX9_decades_5 : decode cX9_decades 5 = .ok (.iload_n 1, 1) := by decide +kernel
theorem dX9_decades_6 : decode cX9_decades 6 = .ok (.i2l, 1) := by decide +kernel
theorem dX9_decades_7 : decode cX9_decades 7 = .ok (.lconst 0, 1) := by decide +kernel
theorem dX9_decades_8 : decode cX9_decades 8 = .ok (.ldc2_w 250, 3) := by decide +kernel
theorem dX9_decades_11 : decode cX9_decades 11 = .ok (.invokestatic 154, 3) := by decide +kernel
theorem dX9_decades_14 : decode cX9_decades 14 = .ok (.ifCond .eq 15, 3) := by decide +kernel
theorem dX9_decades_17 : decode cX9_decades 17 = .ok (.iload_n 2, 1) := by decide +kernel
theorem dX9_decades_18 : decode cX9_decades 18 = .ok (.i2l, 1) := by decide +kernel
theorem dX9_decades_19 : decode cX9_decades 19 = .ok (.lconst 1, 1) := by decide +kernel
theorem dX9_decades_20 : decode cX9_decades 20 = .ok (.ldc2_w 485, 3) := by decide +kernel
theorem dX9_decades_23 : decode cX9_decades 23 = .ok (.invokestatic 154, 3) := by decide +kernel
theorem dX9_decades_26 : decode cX9_decades 26 = .ok (.ifCond .ne 9, 3) := by decide +kernel
theorem dX9_decades_29 : decode cX9_decades 29 = .ok (.aload_n 0, 1) := by decide +kernel
theorem dX9_decades_30 : decode cX9_decades 30 = .ok (.iconst (-1), 1) := by decide +kernel
theorem dX9_decades_31 : decode cX9_decades 31 = .ok (.invokevirtual 143, 3) := by decide +kernel
theorem dX9_decades_34 : decode cX9_decades 34 = .ok (.ireturn, 1) := by decide +kernel
theorem dX9_decades_35 : decode cX9_decades 35 = .ok (.aload_n 0, 1) := by decide +kernel
theorem dX9_decades_36 : decode cX9_decades 36 = .ok (.bipush 16, 2) := by decide +kernel
theorem dX9_decades_38 : decode cX9_decades 38 = .ok (.invokevirtual 147, 3) := by decide +kernel
theorem dX9_decades_41 : decode cX9_decades 41 = .ok (.aload_n 0, 1) := by decide +kernel
theorem dX9_decades_42 : decode cX9_decades 42 = .ok (.iload_n 1, 1) := by decide +kernel
theorem dX9_decades_43 : decode cX9_decades 43 = .ok (.i2l, 1) := by decide +kernel
theorem dX9_decades_44 : decode cX9_decades 44 = .ok (.putfield 530, 3) := by decide +kernel
theorem dX9_decades_47 : decode cX9_decades 47 = .ok (.iconst 0, 1) := by decide +kernel
theorem dX9_decades_48 : decode cX9_decades 48 = .ok (.istore_n 3, 1) := by decide +kernel
theorem dX9_decades_49 : decode cX9_decades 49 = .ok (.iconst 0, 1) := by decide +kernel
theorem dX9_decades_50 : decode cX9_decades 50 = .ok (.istore 4, 2) := by decide +kernel
theorem dX9_decades_52 : decode cX9_decades 52 = .ok (.iload 4, 2) := by decide +kernel
theorem dX9_decades_54 : decode cX9_decades 54 = .ok (.iload_n 2, 1) := by decide +kernel
theorem dX9_decades_55 : decode cX9_decades 55 = .ok (.if_icmp .ge 89, 3) := by decide +kernel
theorem dX9_decades_58 : decode cX9_decades 58 = .ok (.aload_n 0, 1) := by decide +kernel
theorem dX9_decades_59 : decode cX9_decades 59 = .ok (.getfield 13, 3) := by decide +kernel
theorem dX9_decades_62 : decode cX9_decades 62 = .ok (.iconst 4, 1) := by decide +kernel
theorem dX9_decades_63 : decode cX9_decades 63 = .ok (.iaload, 1) := by decide +kernel
theorem dX9_decades_64 : decode cX9_decades 64 = .ok (.sipush 999, 3) := by decide +kernel
theorem dX9_decades_67 : decode cX9_decades 67 = .ok (.if_icmp .ge 77, 3) := by decide +kernel
theorem dX9_decades_70 : decode cX9_decades 70 = .ok (.aload_n 0, 1) := by decide +kernel
theorem dX9_decades_71 : decode cX9_decades 71 = .ok (.iconst 2, 1) := by decide +kernel
theorem dX9_decades_72 : decode cX9_decades 72 = .ok (.invokevirtual 539, 3) := by decide +kernel
theorem dX9_decades_75 : decode cX9_decades 75 = .ok (.istore 5, 2) := by decide +kernel
theorem dX9_decades_77 : decode cX9_decades 77 = .ok (.aload_n 0, 1) := by decide +kernel
theorem dX9_decades_78 : decode cX9_decades 78 = .ok (.bipush 8, 2) := by decide +kernel
theorem dX9_decades_80 : decode cX9_decades 80 = .ok (.invokevirtual 539, 3) := by decide +kernel
theorem dX9_decades_83 : decode cX9_decades 83 = .ok (.istore 6, 2) := by decide +kernel
theorem dX9_decades_85 : decode cX9_decades 85 = .ok (.aload_n 0, 1) := by decide +kernel
theorem dX9_decades_86 : decode cX9_decades 86 = .ok (.iconst 3, 1) := by decide +kernel
theorem dX9_decades_87 : decode cX9_decades 87 = .ok (.invokevirtual 539, 3) := by decide +kernel
theorem dX9_decades_90 : decode cX9_decades 90 = .ok (.istore 7, 2) := by decide +kernel
theorem dX9_decades_92 : decode cX9_decades 92 = .ok (.iload 7, 2) := by decide +kernel
theorem dX9_decades_94 : decode cX9_decades 94 = .ok (.ifCond .ne 25, 3) := by decide +kernel
theorem dX9_decades_97 : decode cX9_decades 97 = .ok (.aload_n 0, 1) := by decide +kernel
theorem dX9_decades_98 : decode cX9_decades 98 = .ok (.iload 5, 2) := by decide +kernel
theorem dX9_decades_100 : decode cX9_decades 100 = .ok (.iload 6, 2) := by decide +kernel
theorem dX9_decades_102 : decode cX9_decades 102 = .ok (.invokevirtual 409, 3) := by decide +kernel
theorem dX9_decades_105 : decode cX9_decades 105 = .ok (.ifCond .eq 14, 3) := by decide +kernel
theorem dX9_decades_108 : decode cX9_decades 108 = .ok (.iload_n 3, 1) := by decide +kernel
theorem dX9_decades_109 : decode cX9_decades 109 = .ok (.aload_n 0, 1) := by decide +kernel
theorem dX9_decades_110 : decode cX9_decades 110 = .ok (.iload 5, 2) := by decide +kernel
theorem dX9_decades_112 : decode cX9_decades 112 = .ok (.iload 6, 2) := by decide +kernel
theorem dX9_decades_114 : decode cX9_decades 114 = .ok (.invokevirtual 415, 3) := by decide +kernel
theorem dX9_decades_117 : decode cX9_decades 117 = .ok (.iadd, 1) := by decide +kernel
theorem dX9_decades_118 : decode cX9_decades 118 = .ok (.istore_n 3, 1) := by decide +kernel
theorem dX9_decades_119 : decode cX9_decades 119 = .ok (.iload 7, 2) := by decide +kernel
theorem dX9_decades_121 : decode cX9_decades 121 = .ok (.iconst 1, 1) := by decide +kernel
theorem dX9_decades_122 : decode cX9_decades 122 = .ok (.if_icmp .ne 12, 3) := by decide +kernel
theorem dX9_decades_125 : decode cX9_decades 125 = .ok (.aload_n 0, 1) := by decide +kernel
theorem dX9_decades_126 : decode cX9_decades 126 = .ok (.iload 6, 2) := by decide +kernel
theorem dX9_decades_128 : decode cX9_decades 128 = .ok (.iload 5, 2) := by decide +kernel
theorem dX9_decades_130 : decode cX9_decades 130 = .ok (.invokevirtual 430, 3) := by decide +kernel
theorem dX9_decades_133 : decode cX9_decades 133 = .ok (.pop, 1) := by decide +kernel
theorem dX9_decades_134 : decode cX9_decades 134 = .ok (.aload_n 0, 1) := by decide +kernel
theorem dX9_decades_135 : decode cX9_decades 135 = .ok (.invokevirtual 436, 3) := by decide +kernel
theorem dX9_decades_138 : decode cX9_decades 138 = .ok (.iinc 4 1, 3) := by decide +kernel
theorem dX9_decades_141 : decode cX9_decades 141 = .ok (.goto (-89), 3) := by decide +kernel
theorem dX9_decades_144 : decode cX9_decades 144 = .ok (.iconst 0, 1) := by decide +kernel
theorem dX9_decades_145 : decode cX9_decades 145 = .ok (.istore 4, 2) := by decide +kernel
theorem dX9_decades_147 : decode cX9_decades 147 = .ok (.iload 4, 2) := by decide +kernel
theorem dX9_decades_149 : decode cX9_decades 149 = .ok (.bipush 31, 2) := by decide +kernel
theorem dX9_decades_151 : decode cX9_decades 151 = .ok (.if_icmp .ge 25, 3) := by decide +kernel
theorem dX9_decades_154 : decode cX9_decades 154 = .ok (.aload_n 0, 1) := by decide +kernel
theorem dX9_decades_155 : decode cX9_decades 155 = .ok (.getfield 131, 3) := by decide +kernel
theorem dX9_decades_158 : decode cX9_decades 158 = .ok (.iload 4, 2) := by decide +kernel
theorem dX9_decades_160 : decode cX9_decades 160 = .ok (.aload_n 0, 1) := by decide +kernel
theorem dX9_decades_161 : decode cX9_decades 161 = .ok (.getfield 13, 3) := by decide +kernel
theorem dX9_decades_164 : decode cX9_decades 164 = .ok (.iconst 4, 1) := by decide +kernel
theorem dX9_decades_165 : decode cX9_decades 165 = .ok (.iload 4, 2) := by decide +kernel
theorem dX9_decades_167 : decode cX9_decades 167 = .ok (.iadd, 1) := by decide +kernel
theorem dX9_decades_168 : decode cX9_decades 168 = .ok (.iaload, 1) := by decide +kernel
theorem dX9_decades_169 : decode cX9_decades 169 = .ok (.iastore, 1) := by decide +kernel
theorem dX9_decades_170 : decode cX9_decades 170 = .ok (.iinc 4 1, 3) := by decide +kernel
theorem dX9_decades_173 : decode cX9_decades 173 = .ok (.goto (-26), 3) := by decide +kernel
theorem dX9_decades_176 : decode cX9_decades 176 = .ok (.aload_n 0, 1) := by decide +kernel
theorem dX9_decades_177 : decode cX9_decades 177 = .ok (.iconst 1, 1) := by decide +kernel
theorem dX9_decades_178 : decode cX9_decades 178 = .ok (.putfield 542, 3) := by decide +kernel
theorem dX9_decades_181 : decode cX9_decades 181 = .ok (.aload_n 0, 1) := by decide +kernel
theorem dX9_decades_182 : decode cX9_decades 182 = .ok (.bipush 16, 2) := by decide +kernel
theorem dX9_decades_184 : decode cX9_decades 184 = .ok (.invokevirtual 151, 3) := by decide +kernel
theorem dX9_decades_187 : decode cX9_decades 187 = .ok (.aload_n 0, 1) := by decide +kernel
theorem dX9_decades_188 : decode cX9_decades 188 = .ok (.iload_n 3, 1) := by decide +kernel
theorem dX9_decades_189 : decode cX9_decades 189 = .ok (.invokevirtual 143, 3) := by decide +kernel
theorem dX9_decades_192 : decode cX9_decades 192 = .ok (.ireturn, 1) := by decide +kernel
theorem dX9_drawn_0 : decode cX9_drawn 0 = .ok (.aload_n 0, 1) := by decide +kernel
theorem dX9_drawn_1 : decode cX9_drawn 1 = .ok (.iconst 0, 1) := by decide +kernel
theorem dX9_drawn_2 : decode cX9_drawn 2 = .ok (.putfield 134, 3) := by decide +kernel
theorem dX9_drawn_5 : decode cX9_drawn 5 = .ok (.aload_n 0, 1) := by decide +kernel
theorem dX9_drawn_6 : decode cX9_drawn 6 = .ok (.getfield 542, 3) := by decide +kernel
theorem dX9_drawn_9 : decode cX9_drawn 9 = .ok (.ifCond .eq 36, 3) := by decide +kernel
theorem dX9_drawn_12 : decode cX9_drawn 12 = .ok (.iload_n 2, 1) := by decide +kernel
theorem dX9_drawn_13 : decode cX9_drawn 13 = .ok (.i2l, 1) := by decide +kernel
theorem dX9_drawn_14 : decode cX9_drawn 14 = .ok (.lconst 0, 1) := by decide +kernel
theorem dX9_drawn_15 : decode cX9_drawn 15 = .ok (.ldc2_w 545, 3) := by decide +kernel
theorem dX9_drawn_18 : decode cX9_drawn 18 = .ok (.invokestatic 154, 3) := by decide +kernel
theorem dX9_drawn_21 : decode cX9_drawn 21 = .ok (.ifCond .eq 24, 3) := by decide +kernel
theorem dX9_drawn_24 : decode cX9_drawn 24 = .ok (.iload_n 1, 1) := by decide +kernel
theorem dX9_drawn_25 : decode cX9_drawn 25 = .ok (.i2l, 1) := by decide +kernel
theorem dX9_drawn_26 : decode cX9_drawn 26 = .ok (.lconst 0, 1) := by decide +kernel
theorem dX9_drawn_27 : decode cX9_drawn 27 = .ok (.iload_n 2, 1) := by decide +kernel
theorem dX9_drawn_28 : decode cX9_drawn 28 = .ok (.iconst 3, 1) := by decide +kernel
theorem dX9_drawn_29 : decode cX9_drawn 29 = .ok (.if_icmp .ge 9, 3) := by decide +kernel
theorem dX9_drawn_32 : decode cX9_drawn 32 = .ok (.ldc2_w 161, 3) := by decide +kernel
theorem dX9_drawn_35 : decode cX9_drawn 35 = .ok (.goto 4, 3) := by decide +kernel
theorem dX9_drawn_38 : decode cX9_drawn 38 = .ok (.lconst 1, 1) := by decide +kernel
theorem dX9_drawn_39 : decode cX9_drawn 39 = .ok (.invokestatic 154, 3) := by decide +kernel
theorem dX9_drawn_42 : decode cX9_drawn 42 = .ok (.ifCond .ne 7, 3) := by decide +kernel
theorem dX9_drawn_45 : decode cX9_drawn 45 = .ok (.sipush (-1000), 3) := by decide +kernel
theorem dX9_drawn_48 : decode cX9_drawn 48 = .ok (.ireturn, 1) := by decide +kernel
theorem dX9_drawn_49 : decode cX9_drawn 49 = .ok (.iload_n 2, 1) := by decide +kernel
theorem dX9_drawn_50 : decode cX9_drawn 50 = .ok (.ifCond .ne 8, 3) := by decide +kernel
theorem dX9_drawn_53 : decode cX9_drawn 53 = .ok (.bipush 7, 2) := by decide +kernel
theorem dX9_drawn_55 : decode cX9_drawn 55 = .ok (.goto 35, 3) := by decide +kernel
theorem dX9_drawn_58 : decode cX9_drawn 58 = .ok (.iload_n 2, 1) := by decide +kernel
theorem dX9_drawn_59 : decode cX9_drawn 59 = .ok (.iconst 1, 1) := by decide +kernel
theorem dX9_drawn_60 : decode cX9_drawn 60 = .ok (.if_icmp .ne 8, 3) := by decide +kernel
theorem dX9_drawn_63 : decode cX9_drawn 63 = .ok (.bipush 15, 2) := by decide +kernel
theorem dX9_drawn_65 : decode cX9_drawn 65 = .ok (.goto 25, 3) := by decide +kernel
theorem dX9_drawn_68 : decode cX9_drawn 68 = .ok (.iload_n 2, 1) := by decide +kernel
theorem dX9_drawn_69 : decode cX9_drawn 69 = .ok (.iconst 2, 1) := by decide +kernel
theorem dX9_drawn_70 : decode cX9_drawn 70 = .ok (.if_icmp .ne 8, 3) := by decide +kernel
theorem dX9_drawn_73 : decode cX9_drawn 73 = .ok (.bipush 23, 2) := by decide +kernel
theorem dX9_drawn_75 : decode cX9_drawn 75 = .ok (.goto 15, 3) := by decide +kernel
theorem dX9_drawn_78 : decode cX9_drawn 78 = .ok (.iload_n 2, 1) := by decide +kernel
theorem dX9_drawn_79 : decode cX9_drawn 79 = .ok (.iconst 3, 1) := by decide +kernel
theorem dX9_drawn_80 : decode cX9_drawn 80 = .ok (.if_icmp .ne 8, 3) := by decide +kernel
theorem dX9_drawn_83 : decode cX9_drawn 83 = .ok (.bipush 31, 2) := by decide +kernel
theorem dX9_drawn_85 : decode cX9_drawn 85 = .ok (.goto 5, 3) := by decide +kernel
theorem dX9_drawn_88 : decode cX9_drawn 88 = .ok (.bipush 33, 2) := by decide +kernel
theorem dX9_drawn_90 : decode cX9_drawn 90 = .ok (.istore_n 3, 1) := by decide +kernel
theorem dX9_drawn_91 : decode cX9_drawn 91 = .ok (.aload_n 0, 1) := by decide +kernel
theorem dX9_drawn_92 : decode cX9_drawn 92 = .ok (.getfield 131, 3) := by decide +kernel
theorem dX9_drawn_95 : decode cX9_drawn 95 = .ok (.iload_n 3, 1) := by decide +kernel
theorem dX9_drawn_96 : decode cX9_drawn 96 = .ok (.iconst 4, 1) := by decide +kernel
theorem dX9_drawn_97 : decode cX9_drawn 97 = .ok (.isub, 1) := by decide +kernel
theorem dX9_drawn_98 : decode cX9_drawn 98 = .ok (.iload_n 1, 1) := by decide +kernel
theorem dX9_drawn_99 : decode cX9_drawn 99 = .ok (.iadd, 1) := by decide +kernel
theorem dX9_drawn_100 : decode cX9_drawn 100 = .ok (.iaload, 1) := by decide +kernel
theorem dX9_drawn_101 : decode cX9_drawn 101 = .ok (.ireturn, 1) := by decide +kernel
theorem dX9_count_0 : decode cX9_count 0 = .ok (.aload_n 0, 1) := by decide +kernel
theorem dX9_count_1 : decode cX9_count 1 = .ok (.iconst 0, 1) := by decide +kernel
theorem dX9_count_2 : decode cX9_count 2 = .ok (.putfield 134, 3) := by decide +kernel
theorem dX9_count_5 : decode cX9_count 5 = .ok (.iload_n 1, 1) := by decide +kernel
theorem dX9_count_6 : decode cX9_count 6 = .ok (.tableswitch 132 0 10 #[58, 65, 72, 79, 84, 89, 96, 103, 110, 117, 125], 58) := by decide +kernel
theorem dX9_count_64 : decode cX9_count 64 = .ok (.aload_n 0, 1) := by decide +kernel
theorem dX9_count_65 : decode cX9_count 65 = .ok (.getfield 13, 3) := by decide +kernel
theorem dX9_count_68 : decode cX9_count 68 = .ok (.iconst 0, 1) := by decide +kernel
theorem dX9_count_69 : decode cX9_count 69 = .ok (.iaload, 1) := by decide +kernel
theorem dX9_count_70 : decode cX9_count 70 = .ok (.ireturn, 1) := by decide +kernel
theorem dX9_count_71 : decode cX9_count 71 = .ok (.aload_n 0, 1) := by decide +kernel
theorem dX9_count_72 : decode cX9_count 72 = .ok (.getfield 13, 3) := by decide +kernel
theorem dX9_count_75 : decode cX9_count 75 = .ok (.iconst 1, 1) := by decide +kernel
theorem dX9_count_76 : decode cX9_count 76 = .ok (.iaload, 1) := by decide +kernel
theorem dX9_count_77 : decode cX9_count 77 = .ok (.ireturn, 1) := by decide +kernel
theorem dX9_count_78 : decode cX9_count 78 = .ok (.aload_n 0, 1) := by decide +kernel
theorem dX9_count_79 : decode cX9_count 79 = .ok (.getfield 13, 3) := by decide +kernel
theorem dX9_count_82 : decode cX9_count 82 = .ok (.iconst 2, 1) := by decide +kernel
theorem dX9_count_83 : decode cX9_count 83 = .ok (.iaload, 1) := by decide +kernel
theorem dX9_count_84 : decode cX9_count 84 = .ok (.ireturn, 1) := by decide +kernel
theorem dX9_count_85 : decode cX9_count 85 = .ok (.aload_n 0, 1) := by decide +kernel
theorem dX9_count_86 : decode cX9_count 86 = .ok (.getfield 140, 3) := by decide +kernel
theorem dX9_count_89 : decode cX9_count 89 = .ok (.ireturn, 1) := by decide +kernel
theorem dX9_count_90 : decode cX9_count 90 = .ok (.aload_n 0, 1) := by decide +kernel
theorem dX9_count_91 : decode cX9_count 91 = .ok (.getfield 211, 3) := by decide +kernel
theorem dX9_count_94 : decode cX9_count 94 = .ok (.ireturn, 1) := by decide +kernel
theorem dX9_count_95 : decode cX9_count 95 = .ok (.aload_n 0, 1) := by decide +kernel
theorem dX9_count_96 : decode cX9_count 96 = .ok (.getfield 7, 3) := by decide +kernel
theorem dX9_count_99 : decode cX9_count 99 = .ok (.iconst 1, 1) := by decide +kernel
theorem dX9_count_100 : decode cX9_count 100 = .ok (.iaload, 1) := by decide +kernel
theorem dX9_count_101 : decode cX9_count 101 = .ok (.ireturn, 1) := by decide +kernel
theorem dX9_count_102 : decode cX9_count 102 = .ok (.aload_n 0, 1) := by decide +kernel
theorem dX9_count_103 : decode cX9_count 103 = .ok (.getfield 7, 3) := by decide +kernel
theorem dX9_count_106 : decode cX9_count 106 = .ok (.iconst 2, 1) := by decide +kernel
theorem dX9_count_107 : decode cX9_count 107 = .ok (.iaload, 1) := by decide +kernel
theorem dX9_count_108 : decode cX9_count 108 = .ok (.ireturn, 1) := by decide +kernel
theorem dX9_count_109 : decode cX9_count 109 = .ok (.aload_n 0, 1) := by decide +kernel
theorem dX9_count_110 : decode cX9_count 110 = .ok (.getfield 7, 3) := by decide +kernel
theorem dX9_count_113 : decode cX9_count 113 = .ok (.iconst 3, 1) := by decide +kernel
theorem dX9_count_114 : decode cX9_count 114 = .ok (.iaload, 1) := by decide +kernel
theorem dX9_count_115 : decode cX9_count 115 = .ok (.ireturn, 1) := by decide +kernel
theorem dX9_count_116 : decode cX9_count 116 = .ok (.aload_n 0, 1) := by decide +kernel
theorem dX9_count_117 : decode cX9_count 117 = .ok (.getfield 7, 3) := by decide +kernel
theorem dX9_count_120 : decode cX9_count 120 = .ok (.iconst 5, 1) := by decide +kernel
theorem dX9_count_121 : decode cX9_count 121 = .ok (.iaload, 1) := by decide +kernel
theorem dX9_count_122 : decode cX9_count 122 = .ok (.ireturn, 1) := by decide +kernel
theorem dX9_count_123 : decode cX9_count 123 = .ok (.aload_n 0, 1) := by decide +kernel
theorem dX9_count_124 : decode cX9_count 124 = .ok (.getfield 7, 3) := by decide +kernel
theorem dX9_count_127 : decode cX9_count 127 = .ok (.bipush 6, 2) := by decide +kernel
theorem dX9_count_129 : decode cX9_count 129 = .ok (.iaload, 1) := by decide +kernel
theorem dX9_count_130 : decode cX9_count 130 = .ok (.ireturn, 1) := by decide +kernel
theorem dX9_count_131 : decode cX9_count 131 = .ok (.aload_n 0, 1) := by decide +kernel
theorem dX9_count_132 : decode cX9_count 132 = .ok (.getfield 13, 3) := by decide +kernel
theorem dX9_count_135 : decode cX9_count 135 = .ok (.iconst 3, 1) := by decide +kernel
theorem dX9_count_136 : decode cX9_count 136 = .ok (.iaload, 1) := by decide +kernel
theorem dX9_count_137 : decode cX9_count 137 = .ok (.ireturn, 1) := by decide +kernel
theorem dX9_count_138 : decode cX9_count 138 = .ok (.iload_n 1, 1) := by decide +kernel
theorem dX9_count_139 : decode cX9_count 139 = .ok (.i2l, 1) := by decide +kernel
theorem dX9_count_140 : decode cX9_count 140 = .ok (.ldc2_w 547, 3) := by decide +kernel
theorem dX9_count_143 : decode cX9_count 143 = .ok (.ldc2_w 549, 3) := by decide +kernel
theorem dX9_count_146 : decode cX9_count 146 = .ok (.invokestatic 154, 3) := by decide +kernel
theorem dX9_count_149 : decode cX9_count 149 = .ok (.ifCond .eq 17, 3) := by decide +kernel
theorem dX9_count_152 : decode cX9_count 152 = .ok (.aload_n 0, 1) := by decide +kernel
theorem dX9_count_153 : decode cX9_count 153 = .ok (.getfield 13, 3) := by decide +kernel
theorem dX9_count_156 : decode cX9_count 156 = .ok (.iconst 4, 1) := by decide +kernel
theorem dX9_count_157 : decode cX9_count 157 = .ok (.iload_n 1, 1) := by decide +kernel
theorem dX9_count_158 : decode cX9_count 158 = .ok (.iadd, 1) := by decide +kernel
theorem dX9_count_159 : decode cX9_count 159 = .ok (.bipush 11, 2) := by decide +kernel
theorem dX9_count_161 : decode cX9_count 161 = .ok (.isub, 1) := by decide +kernel
theorem dX9_count_162 : decode cX9_count 162 = .ok (.iaload, 1) := by decide +kernel
theorem dX9_count_163 : decode cX9_count 163 = .ok (.goto 4, 3) := by decide +kernel
theorem dX9_count_166 : decode cX9_count 166 = .ok (.iconst (-1), 1) := by decide +kernel
theorem dX9_count_167 : decode cX9_count 167 = .ok (.ireturn, 1) := by decide +kernel
theorem dX9_status_0 : decode cX9_status 0 = .ok (.aload_n 0, 1) := by decide +kernel
theorem dX9_status_1 : decode cX9_status 1 = .ok (.iconst 0, 1) := by decide +kernel
theorem dX9_status_2 : decode cX9_status 2 = .ok (.putfield 134, 3) := by decide +kernel
theorem dX9_status_5 : decode cX9_status 5 = .ok (.aload_n 0, 1) := by decide +kernel
theorem dX9_status_6 : decode cX9_status 6 = .ok (.getfield 137, 3) := by decide +kernel
theorem dX9_status_9 : decode cX9_status 9 = .ok (.ireturn, 1) := by decide +kernel
