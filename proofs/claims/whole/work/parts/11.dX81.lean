/-! ===== what each instruction is (printed rows) ===== -/
theorem dX8_runOrders_119 : decode cX8_runOrders 119 = .ok (.iload 8, 2) := by decide +kernel
theorem dX8_runOrders_121 : decode cX8_runOrders 121 = .ok (.ifCond .eq 16, 3) := by decide +kernel
theorem dX8_runOrders_124 : decode cX8_runOrders 124 = .ok (.lload 10, 2) := by decide +kernel
theorem dX8_runOrders_126 : decode cX8_runOrders 126 = .ok (.ldc2_w 383, 3) := by decide +kernel
theorem dX8_runOrders_129 : decode cX8_runOrders 129 = .ok (.lcmp, 1) := by decide +kernel
theorem dX8_runOrders_130 : decode cX8_runOrders 130 = .ok (.ifCond .eq 7, 3) := by decide +kernel
theorem dX8_runOrders_133 : decode cX8_runOrders 133 = .ok (.iconst 1, 1) := by decide +kernel
theorem dX8_runOrders_134 : decode cX8_runOrders 134 = .ok (.goto 4, 3) := by decide +kernel
theorem dX8_runOrders_137 : decode cX8_runOrders 137 = .ok (.iconst 0, 1) := by decide +kernel
theorem dX8_runOrders_138 : decode cX8_runOrders 138 = .ok (.istore 8, 2) := by decide +kernel
theorem dX8_runOrders_140 : decode cX8_runOrders 140 = .ok (.aload_n 0, 1) := by decide +kernel
theorem dX8_runOrders_141 : decode cX8_runOrders 141 = .ok (.getfield 79, 3) := by decide +kernel
theorem dX8_runOrders_144 : decode cX8_runOrders 144 = .ok (.iload 9, 2) := by decide +kernel
theorem dX8_runOrders_146 : decode cX8_runOrders 146 = .ok (.lload 10, 2) := by decide +kernel
theorem dX8_runOrders_148 : decode cX8_runOrders 148 = .ok (.l2i, 1) := by decide +kernel
theorem dX8_runOrders_149 : decode cX8_runOrders 149 = .ok (.iastore, 1) := by decide +kernel
theorem dX8_runOrders_150 : decode cX8_runOrders 150 = .ok (.iinc 9 1, 3) := by decide +kernel
theorem dX8_runOrders_153 : decode cX8_runOrders 153 = .ok (.goto (-59), 3) := by decide +kernel
theorem dX8_runOrders_156 : decode cX8_runOrders 156 = .ok (.aload_n 1, 1) := by decide +kernel
theorem dX8_runOrders_157 : decode cX8_runOrders 157 = .ok (.getfield 385, 3) := by decide +kernel
theorem dX8_runOrders_160 : decode cX8_runOrders 160 = .ok (.iload 5, 2) := by decide +kernel
theorem dX8_runOrders_162 : decode cX8_runOrders 162 = .ok (.iaload, 1) := by decide +kernel
theorem dX8_runOrders_163 : decode cX8_runOrders 163 = .ok (.istore 9, 2) := by decide +kernel
theorem dX8_runOrders_165 : decode cX8_runOrders 165 = .ok (.iload 8, 2) := by decide +kernel
theorem dX8_runOrders_167 : decode cX8_runOrders 167 = .ok (.ifCond .eq 30, 3) := by decide +kernel
theorem dX8_runOrders_170 : decode cX8_runOrders 170 = .ok (.aload_n 0, 1) := by decide +kernel
theorem dX8_runOrders_171 : decode cX8_runOrders 171 = .ok (.iload 9, 2) := by decide +kernel
theorem dX8_runOrders_173 : decode cX8_runOrders 173 = .ok (.aload_n 0, 1) := by decide +kernel
theorem dX8_runOrders_174 : decode cX8_runOrders 174 = .ok (.getfield 79, 3) := by decide +kernel
theorem dX8_runOrders_177 : decode cX8_runOrders 177 = .ok (.iconst 0, 1) := by decide +kernel
theorem dX8_runOrders_178 : decode cX8_runOrders 178 = .ok (.iaload, 1) := by decide +kernel
theorem dX8_runOrders_179 : decode cX8_runOrders 179 = .ok (.aload_n 0, 1) := by decide +kernel
theorem dX8_runOrders_180 : decode cX8_runOrders 180 = .ok (.getfield 79, 3) := by decide +kernel
theorem dX8_runOrders_183 : decode cX8_runOrders 183 = .ok (.iconst 1, 1) := by decide +kernel
theorem dX8_runOrders_184 : decode cX8_runOrders 184 = .ok (.iaload, 1) := by decide +kernel
theorem dX8_runOrders_185 : decode cX8_runOrders 185 = .ok (.aload_n 0, 1) := by decide +kernel
theorem dX8_runOrders_186 : decode cX8_runOrders 186 = .ok (.getfield 79, 3) := by decide +kernel
theorem dX8_runOrders_189 : decode cX8_runOrders 189 = .ok (.iconst 2, 1) := by decide +kernel
theorem dX8_runOrders_190 : decode cX8_runOrders 190 = .ok (.iaload, 1) := by decide +kernel
theorem dX8_runOrders_191 : decode cX8_runOrders 191 = .ok (.invokevirtual 231, 3) := by decide +kernel
theorem dX8_runOrders_194 : decode cX8_runOrders 194 = .ok (.goto 5, 3) := by decide +kernel
theorem dX8_runOrders_197 : decode cX8_runOrders 197 = .ok (.bipush (-3), 2) := by decide +kernel
theorem dX8_runOrders_199 : decode cX8_runOrders 199 = .ok (.istore 10, 2) := by decide +kernel
theorem dX8_runOrders_201 : decode cX8_runOrders 201 = .ok (.iload 10, 2) := by decide +kernel
theorem dX8_runOrders_203 : decode cX8_runOrders 203 = .ok (.ifCond .ge 11, 3) := by decide +kernel
theorem dX8_runOrders_206 : decode cX8_runOrders 206 = .ok (.aload_n 0, 1) := by decide +kernel
theorem dX8_runOrders_207 : decode cX8_runOrders 207 = .ok (.iload 5, 2) := by decide +kernel
theorem dX8_runOrders_209 : decode cX8_runOrders 209 = .ok (.putfield 76, 3) := by decide +kernel
theorem dX8_runOrders_212 : decode cX8_runOrders 212 = .ok (.iconst (-1), 1) := by decide +kernel
theorem dX8_runOrders_213 : decode cX8_runOrders 213 = .ok (.ireturn, 1) := by decide +kernel
theorem dX8_runOrders_214 : decode cX8_runOrders 214 = .ok (.iload 9, 2) := by decide +kernel
theorem dX8_runOrders_216 : decode cX8_runOrders 216 = .ok (.sipush 260, 3) := by decide +kernel
theorem dX8_runOrders_219 : decode cX8_runOrders 219 = .ok (.if_icmp .ne 8, 3) := by decide +kernel
theorem dX8_runOrders_222 : decode cX8_runOrders 222 = .ok (.iload 10, 2) := by decide +kernel
theorem dX8_runOrders_224 : decode cX8_runOrders 224 = .ok (.goto 5, 3) := by decide +kernel
theorem dX8_runOrders_227 : decode cX8_runOrders 227 = .ok (.iload 4, 2) := by decide +kernel
theorem dX8_runOrders_229 : decode cX8_runOrders 229 = .ok (.istore 4, 2) := by decide +kernel
theorem dX8_runOrders_231 : decode cX8_runOrders 231 = .ok (.iinc 3 1, 3) := by decide +kernel
theorem dX8_runOrders_234 : decode cX8_runOrders 234 = .ok (.iinc 6 1, 3) := by decide +kernel
theorem dX8_runOrders_237 : decode cX8_runOrders 237 = .ok (.goto (-209), 3) := by decide +kernel
theorem dX8_runOrders_240 : decode cX8_runOrders 240 = .ok (.iinc 5 1, 3) := by decide +kernel
theorem dX8_runOrders_243 : decode cX8_runOrders 243 = .ok (.goto (-227), 3) := by decide +kernel
theorem dX8_runOrders_246 : decode cX8_runOrders 246 = .ok (.iload_n 3, 1) := by decide +kernel
theorem dX8_runOrders_247 : decode cX8_runOrders 247 = .ok (.ireturn, 1) := by decide +kernel
