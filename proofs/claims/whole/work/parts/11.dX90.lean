/-! ===== what each instruction is (printed rows) ===== -/
theorem dX9_init_0 : decode cX9_init 0 = .ok (.aload_n 0, 1) := by decide +kernel
theorem dX9_init_1 : decode cX9_init 1 = .ok (.invokespecial 1, 3) := by decide +kernel
theorem dX9_init_4 : decode cX9_init 4 = .ok (.aload_n 0, 1) := by decide +kernel
theorem dX9_init_5 : decode cX9_init 5 = .ok (.bipush 7, 2) := by decide +kernel
theorem dX9_init_7 : decode cX9_init 7 = .ok (.newarray .int, 2) := by decide +kernel
theorem dX9_init_9 : decode cX9_init 9 = .ok (.putfield 7, 3) := by decide +kernel
theorem dX9_init_12 : decode cX9_init 12 = .ok (.aload_n 0, 1) := by decide +kernel
theorem dX9_init_13 : decode cX9_init 13 = .ok (.sipush 5530, 3) := by decide +kernel
theorem dX9_init_16 : decode cX9_init 16 = .ok (.newarray .int, 2) := by decide +kernel
theorem dX9_init_18 : decode cX9_init 18 = .ok (.putfield 13, 3) := by decide +kernel
theorem dX9_init_21 : decode cX9_init 21 = .ok (.aload_n 0, 1) := by decide +kernel
theorem dX9_init_22 : decode cX9_init 22 = .ok (.sipush 11060, 3) := by decide +kernel
theorem dX9_init_25 : decode cX9_init 25 = .ok (.newarray .int, 2) := by decide +kernel
theorem dX9_init_27 : decode cX9_init 27 = .ok (.putfield 16, 3) := by decide +kernel
theorem dX9_init_30 : decode cX9_init 30 = .ok (.aload_n 0, 1) := by decide +kernel
theorem dX9_init_31 : decode cX9_init 31 = .ok (.iconst 2, 1) := by decide +kernel
theorem dX9_init_32 : decode cX9_init 32 = .ok (.newarray .boolean, 2) := by decide +kernel
theorem dX9_init_34 : decode cX9_init 34 = .ok (.putfield 19, 3) := by decide +kernel
theorem dX9_init_37 : decode cX9_init 37 = .ok (.aload_n 0, 1) := by decide +kernel
theorem dX9_init_38 : decode cX9_init 38 = .ok (.sipush 558, 3) := by decide +kernel
theorem dX9_init_41 : decode cX9_init 41 = .ok (.newarray .int, 2) := by decide +kernel
theorem dX9_init_43 : decode cX9_init 43 = .ok (.putfield 23, 3) := by decide +kernel
theorem dX9_init_46 : decode cX9_init 46 = .ok (.aload_n 0, 1) := by decide +kernel
theorem dX9_init_47 : decode cX9_init 47 = .ok (.bipush 16, 2) := by decide +kernel
theorem dX9_init_49 : decode cX9_init 49 = .ok (.newarray .int, 2) := by decide +kernel
theorem dX9_init_51 : decode cX9_init 51 = .ok (.putfield 26, 3) := by decide +kernel
theorem dX9_init_54 : decode cX9_init 54 = .ok (.aload_n 0, 1) := by decide +kernel
theorem dX9_init_55 : decode cX9_init 55 = .ok (.sipush 496, 3) := by decide +kernel
theorem dX9_init_58 : decode cX9_init 58 = .ok (.newarray .int, 2) := by decide +kernel
theorem dX9_init_60 : decode cX9_init 60 = .ok (.putfield 29, 3) := by decide +kernel
theorem dX9_init_63 : decode cX9_init 63 = .ok (.aload_n 0, 1) := by decide +kernel
theorem dX9_init_64 : decode cX9_init 64 = .ok (.bipush 16, 2) := by decide +kernel
theorem dX9_init_66 : decode cX9_init 66 = .ok (.newarray .int, 2) := by decide +kernel
theorem dX9_init_68 : decode cX9_init 68 = .ok (.putfield 32, 3) := by decide +kernel
theorem dX9_init_71 : decode cX9_init 71 = .ok (.aload_n 0, 1) := by decide +kernel
theorem dX9_init_72 : decode cX9_init 72 = .ok (.sipush 400, 3) := by decide +kernel
theorem dX9_init_75 : decode cX9_init 75 = .ok (.newarray .int, 2) := by decide +kernel
theorem dX9_init_77 : decode cX9_init 77 = .ok (.putfield 35, 3) := by decide +kernel
theorem dX9_init_80 : decode cX9_init 80 = .ok (.aload_n 0, 1) := by decide +kernel
theorem dX9_init_81 : decode cX9_init 81 = .ok (.iconst (-1), 1) := by decide +kernel
theorem dX9_init_82 : decode cX9_init 82 = .ok (.putfield 38, 3) := by decide +kernel
theorem dX9_init_85 : decode cX9_init 85 = .ok (.aload_n 0, 1) := by decide +kernel
theorem dX9_init_86 : decode cX9_init 86 = .ok (.bipush 96, 2) := by decide +kernel
theorem dX9_init_88 : decode cX9_init 88 = .ok (.newarray .int, 2) := by decide +kernel
theorem dX9_init_90 : decode cX9_init 90 = .ok (.putfield 42, 3) := by decide +kernel
theorem dX9_init_93 : decode cX9_init 93 = .ok (.aload_n 0, 1) := by decide +kernel
theorem dX9_init_94 : decode cX9_init 94 = .ok (.sipush 400, 3) := by decide +kernel
theorem dX9_init_97 : decode cX9_init 97 = .ok (.newarray .int, 2) := by decide +kernel
theorem dX9_init_99 : decode cX9_init 99 = .ok (.putfield 45, 3) := by decide +kernel
theorem dX9_init_102 : decode cX9_init 102 = .ok (.aload_n 0, 1) := by decide +kernel
theorem dX9_init_103 : decode cX9_init 103 = .ok (.sipush 400, 3) := by decide +kernel
theorem dX9_init_106 : decode cX9_init 106 = .ok (.newarray .int, 2) := by decide +kernel
theorem dX9_init_108 : decode cX9_init 108 = .ok (.putfield 48, 3) := by decide +kernel
theorem dX9_init_111 : decode cX9_init 111 = .ok (.aload_n 0, 1) := by decide +kernel
theorem dX9_init_112 : decode cX9_init 112 = .ok (.sipush 400, 3) := by decide +kernel
theorem dX9_init_115 : decode cX9_init 115 = .ok (.newarray .int, 2) := by decide +kernel
theorem dX9_init_117 : decode cX9_init 117 = .ok (.putfield 51, 3) := by decide +kernel
theorem dX9_init_120 : decode cX9_init 120 = .ok (.aload_n 0, 1) := by decide +kernel
theorem dX9_init_121 : decode cX9_init 121 = .ok (.sipush 400, 3) := by decide +kernel
theorem dX9_init_124 : decode cX9_init 124 = .ok (.newarray .int, 2) := by decide +kernel
theorem dX9_init_126 : decode cX9_init 126 = .ok (.putfield 54, 3) := by decide +kernel
theorem dX9_init_129 : decode cX9_init 129 = .ok (.aload_n 0, 1) := by decide +kernel
theorem dX9_init_130 : decode cX9_init 130 = .ok (.bipush 10, 2) := by decide +kernel
theorem dX9_init_132 : decode cX9_init 132 = .ok (.newarray .long, 2) := by decide +kernel
theorem dX9_init_134 : decode cX9_init 134 = .ok (.dup, 1) := by decide +kernel
theorem dX9_init_135 : decode cX9_init 135 = .ok (.iconst 0, 1) := by decide +kernel
theorem dX9_init_136 : decode cX9_init 136 = .ok (.ldc2_w 57, 3) := by decide +kernel
theorem dX9_init_139 : decode cX9_init 139 = .ok (.lastore, 1) := by decide +kernel
theorem dX9_init_140 : decode cX9_init 140 = .ok (.dup, 1) := by decide +kernel
theorem dX9_init_141 : decode cX9_init 141 = .ok (.iconst 1, 1) := by decide +kernel
theorem dX9_init_142 : decode cX9_init 142 = .ok (.ldc2_w 59, 3) := by decide +kernel
theorem dX9_init_145 : decode cX9_init 145 = .ok (.lastore, 1) := by decide +kernel
theorem dX9_init_146 : decode cX9_init 146 = .ok (.dup, 1) := by decide +kernel
theorem dX9_init_147 : decode cX9_init 147 = .ok (.iconst 2, 1) := by decide +kernel
theorem dX9_init_148 : decode cX9_init 148 = .ok (.ldc2_w 61, 3) := by decide +kernel
theorem dX9_init_151 : decode cX9_init 151 = .ok (.lastore, 1) := by decide +kernel
theorem dX9_init_152 : decode cX9_init 152 = .ok (.dup, 1) := by decide +kernel
theorem dX9_init_153 : decode cX9_init 153 = .ok (.iconst 3, 1) := by decide +kernel
theorem dX9_init_154 : decode cX9_init 154 = .ok (.ldc2_w 63, 3) := by decide +kernel
theorem dX9_init_157 : decode cX9_init 157 = .ok (.lastore, 1) := by decide +kernel
theorem dX9_init_158 : decode cX9_init 158 = .ok (.dup, 1) := by decide +kernel
theorem dX9_init_159 : decode cX9_init 159 = .ok (.iconst 4, 1) := by decide +kernel
theorem dX9_init_160 : decode cX9_init 160 = .ok (.ldc2_w 65, 3) := by decide +kernel
theorem dX9_init_163 : decode cX9_init 163 = .ok (.lastore, 1) := by decide +kernel
theorem dX9_init_164 : decode cX9_init 164 = .ok (.dup, 1) := by decide +kernel
theorem dX9_init_165 : decode cX9_init 165 = .ok (.iconst 5, 1) := by decide +kernel
theorem dX9_init_166 : decode cX9_init 166 = .ok (.ldc2_w 67, 3) := by decide +kernel
theorem dX9_init_169 : decode cX9_init 169 = .ok (.lastore, 1) := by decide +kernel
theorem dX9_init_170 : decode cX9_init 170 = .ok (.dup, 1) := by decide +kernel
theorem dX9_init_171 : decode cX9_init 171 = .ok (.bipush 6, 2) := by decide +kernel
theorem dX9_init_173 : decode cX9_init 173 = .ok (.ldc2_w 69, 3) := by decide +kernel
theorem dX9_init_176 : decode cX9_init 176 = .ok (.lastore, 1) := by decide +kernel
theorem dX9_init_177 : decode cX9_init 177 = .ok (.dup, 1) := by decide +kernel
theorem dX9_init_178 : decode cX9_init 178 = .ok (.bipush 7, 2) := by decide +kernel
theorem dX9_init_180 : decode cX9_init 180 = .ok (.ldc2_w 71, 3) := by decide +kernel
theorem dX9_init_183 : decode cX9_init 183 = .ok (.lastore, 1) := by decide +kernel
theorem dX9_init_184 : decode cX9_init 184 = .ok (.dup, 1) := by decide +kernel
theorem dX9_init_185 : decode cX9_init 185 = .ok (.bipush 8, 2) := by decide +kernel
theorem dX9_init_187 : decode cX9_init 187 = .ok (.ldc2_w 73, 3) := by decide +kernel
theorem dX9_init_190 : decode cX9_init 190 = .ok (.lastore, 1) := by decide +kernel
theorem dX9_init_191 : decode cX9_init 191 = .ok (.dup, 1) := by decide +kernel
theorem dX9_init_192 : decode cX9_init 192 = .ok (.bipush 9, 2) := by decide +kernel
theorem dX9_init_194 : decode cX9_init 194 = .ok (.ldc2_w 75, 3) := by decide +kernel
theorem dX9_init_197 : decode cX9_init 197 = .ok (.lastore, 1) := by decide +kernel
theorem dX9_init_198 : decode cX9_init 198 = .ok (.putfield 77, 3) := by decide +kernel
theorem dX9_init_201 : decode cX9_init 201 = .ok (.aload_n 0, 1) := by decide +kernel
theorem dX9_init_202 : decode cX9_init 202 = .ok (.bipush 6, 2) := by decide +kernel
theorem dX9_init_204 : decode cX9_init 204 = .ok (.newarray .long, 2) := by decide +kernel
theorem dX9_init_206 : decode cX9_init 206 = .ok (.dup, 1) := by decide +kernel
theorem dX9_init_207 : decode cX9_init 207 = .ok (.iconst 0, 1) := by decide +kernel
theorem dX9_init_208 : decode cX9_init 208 = .ok (.ldc2_w 73, 3) := by decide +kernel
theorem dX9_init_211 : decode cX9_init 211 = .ok (.lastore, 1) := by decide +kernel
theorem dX9_init_212 : decode cX9_init 212 = .ok (.dup, 1) := by decide +kernel
theorem dX9_init_213 : decode cX9_init 213 = .ok (.iconst 1, 1) := by decide +kernel
theorem dX9_init_214 : decode cX9_init 214 = .ok (.ldc2_w 81, 3) := by decide +kernel
theorem dX9_init_217 : decode cX9_init 217 = .ok (.lastore, 1) := by decide +kernel
theorem dX9_init_218 : decode cX9_init 218 = .ok (.dup, 1) := by decide +kernel
theorem dX9_init_219 : decode cX9_init 219 = .ok (.iconst 2, 1) := by decide +kernel
theorem dX9_init_220 : decode cX9_init 220 = .ok (.ldc2_w 83, 3) := by decide +kernel
theorem dX9_init_223 : decode cX9_init 223 = .ok (.lastore, 1) := by decide +kernel
theorem dX9_init_224 : decode cX9_init 224 = .ok (.dup, 1) := by decide +kernel
theorem dX9_init_225 : decode cX9_init 225 = .ok (.iconst 3, 1) := by decide +kernel
theorem dX9_init_226 : decode cX9_init 226 = .ok (.ldc2_w 61, 3) := by decide +kernel
theorem dX9_init_229 : decode cX9_init 229 = .ok (.lastore, 1) := by decide +kernel
theorem dX9_init_230 : decode cX9_init 230 = .ok (.dup, 1) := by decide +kernel
theorem dX9_init_231 : decode cX9_init 231 = .ok (.iconst 4, 1) := by decide +kernel
theorem dX9_init_232 : decode cX9_init 232 = .ok (.ldc2_w 67, 3) := by decide +kernel
theorem dX9_init_235 : decode cX9_init 235 = .ok (.lastore, 1) := by decide +kernel
theorem dX9_init_236 : decode cX9_init 236 = .ok (.dup, 1) := by decide +kernel
theorem dX9_init_237 : decode cX9_init 237 = .ok (.iconst 5, 1) := by decide +kernel
theorem dX9_init_238 : decode cX9_init 238 = .ok (.ldc2_w 69, 3) := by decide +kernel
theorem dX9_init_241 : decode cX9_init 241 = .ok (.lastore, 1) := by decide +kernel
theorem dX9_init_242 : decode cX9_init 242 = .ok (.putfield 85, 3) := by decide +kernel
theorem dX9_init_245 : decode cX9_init 245 = .ok (.aload_n 0, 1) := by decide +kernel
theorem dX9_init_246 : decode cX9_init 246 = .ok (.iconst 4, 1) := by decide +kernel
theorem dX9_init_247 : decode cX9_init 247 = .ok (.newarray .long, 2) := by decide +kernel
theorem dX9_init_249 : decode cX9_init 249 = .ok (.dup, 1) := by decide +kernel
theorem dX9_init_250 : decode cX9_init 250 = .ok (.iconst 0, 1) := by decide +kernel
theorem dX9_init_251 : decode cX9_init 251 = .ok (.ldc2_w 88, 3) := by decide +kernel
theorem dX9_init_254 : decode cX9_init 254 = .ok (.lastore, 1) := by decide +kernel
theorem dX9_init_255 : decode cX9_init 255 = .ok (.dup, 1) := by decide +kernel
theorem dX9_init_256 : decode cX9_init 256 = .ok (.iconst 1, 1) := by decide +kernel
theorem dX9_init_257 : decode cX9_init 257 = .ok (.ldc2_w 90, 3) := by decide +kernel
theorem dX9_init_260 : decode cX9_init 260 = .ok (.lastore, 1) := by decide +kernel
theorem dX9_init_261 : decode cX9_init 261 = .ok (.dup, 1) := by decide +kernel
theorem dX9_init_262 : decode cX9_init 262 = .ok (.iconst 2, 1) := by decide +kernel
theorem dX9_init_263 : decode cX9_init 263 = .ok (.ldc2_w 92, 3) := by decide +kernel
theorem dX9_init_266 : decode cX9_init 266 = .ok (.lastore, 1) := by decide +kernel
theorem dX9_init_267 : decode cX9_init 267 = .ok (.dup, 1) := by decide +kernel
theorem dX9_init_268 : decode cX9_init 268 = .ok (.iconst 3, 1) := by decide +kernel
theorem dX9_init_269 : decode cX9_init 269 = .ok (.ldc2_w 94, 3) := by decide +kernel
theorem dX9_init_272 : decode cX9_init 272 = .ok (.lastore, 1) := by decide +kernel
theorem dX9_init_273 : decode cX9_init 273 = .ok (.putfield 96, 3) := by decide +kernel
theorem dX9_init_276 : decode cX9_init 276 = .ok (.aload_n 0, 1) := by decide +kernel
theorem dX9_init_277 : decode cX9_init 277 = .ok (.bipush 13, 2) := by decide +kernel
theorem dX9_init_279 : decode cX9_init 279 = .ok (.newarray .long, 2) := by decide +kernel
theorem dX9_init_281 : decode cX9_init 281 = .ok (.putfield 99, 3) := by decide +kernel
theorem dX9_init_284 : decode cX9_init 284 = .ok (.aload_n 0, 1) := by decide +kernel
theorem dX9_init_285 : decode cX9_init 285 = .ok (.bipush 13, 2) := by decide +kernel
theorem dX9_init_287 : decode cX9_init 287 = .ok (.newarray .long, 2) := by decide +kernel
theorem dX9_init_289 : decode cX9_init 289 = .ok (.putfield 102, 3) := by decide +kernel
theorem dX9_init_292 : decode cX9_init 292 = .ok (.aload_n 0, 1) := by decide +kernel
theorem dX9_init_293 : decode cX9_init 293 = .ok (.sipush 400, 3) := by decide +kernel
theorem dX9_init_296 : decode cX9_init 296 = .ok (.newarray .long, 2) := by decide +kernel
theorem dX9_init_298 : decode cX9_init 298 = .ok (.putfield 105, 3) := by decide +kernel
theorem dX9_init_301 : decode cX9_init 301 = .ok (.aload_n 0, 1) := by decide +kernel
theorem dX9_init_302 : decode cX9_init 302 = .ok (.bipush 16, 2) := by decide +kernel
theorem dX9_init_304 : decode cX9_init 304 = .ok (.newarray .boolean, 2) := by decide +kernel
theorem dX9_init_306 : decode cX9_init 306 = .ok (.putfield 108, 3) := by decide +kernel
theorem dX9_init_309 : decode cX9_init 309 = .ok (.aload_n 0, 1) := by decide +kernel
theorem dX9_init_310 : decode cX9_init 310 = .ok (.bipush 8, 2) := by decide +kernel
theorem dX9_init_312 : decode cX9_init 312 = .ok (.newarray .int, 2) := by decide +kernel
theorem dX9_init_314 : decode cX9_init 314 = .ok (.putfield 111, 3) := by decide +kernel
theorem dX9_init_317 : decode cX9_init 317 = .ok (.aload_n 0, 1) := by decide +kernel
theorem dX9_init_318 : decode cX9_init 318 = .ok (.iconst 4, 1) := by decide +kernel
theorem dX9_init_319 : decode cX9_init 319 = .ok (.newarray .long, 2) := by decide +kernel
theorem dX9_init_321 : decode cX9_init 321 = .ok (.dup, 1) := by decide +kernel
theorem dX9_init_322 : decode cX9_init 322 = .ok (.iconst 0, 1) := by decide +kernel
theorem dX9_init_323 : decode cX9_init 323 = .ok (.ldc2_w 114, 3) := by decide +kernel
theorem dX9_init_326 : decode cX9_init 326 = .ok (.lastore, 1) := by decide +kernel
theorem dX9_init_327 : decode cX9_init 327 = .ok (.dup, 1) := by decide +kernel
theorem dX9_init_328 : decode cX9_init 328 = .ok (.iconst 1, 1) := by decide +kernel
theorem dX9_init_329 : decode cX9_init 329 = .ok (.ldc2_w 116, 3) := by decide +kernel
theorem dX9_init_332 : decode cX9_init 332 = .ok (.lastore, 1) := by decide +kernel
theorem dX9_init_333 : decode cX9_init 333 = .ok (.dup, 1) := by decide +kernel
theorem dX9_init_334 : decode cX9_init 334 = .ok (.iconst 2, 1) := by decide +kernel
theorem dX9_init_335 : decode cX9_init 335 = .ok (.ldc2_w 118, 3) := by decide +kernel
theorem dX9_init_338 : decode cX9_init 338 = .ok (.lastore, 1) := by decide +kernel
theorem dX9_init_339 : decode cX9_init 339 = .ok (.dup, 1) := by decide +kernel
theorem dX9_init_340 : decode cX9_init 340 = .ok (.iconst 3, 1) := by decide +kernel
theorem dX9_init_341 : decode cX9_init 341 = .ok (.ldc2_w 120, 3) := by decide +kernel
theorem dX9_init_344 : decode cX9_init 344 = .ok (.lastore, 1) := by decide +kernel
theorem dX9_init_345 : decode cX9_init 345 = .ok (.putfield 122, 3) := by decide +kernel
theorem dX9_init_348 : decode cX9_init 348 = .ok (.aload_n 0, 1) := by decide +kernel
theorem dX9_init_349 : decode cX9_init 349 = .ok (.bipush 120, 2) := by decide +kernel
theorem dX9_init_351 : decode cX9_init 351 = .ok (.newarray .int, 2) := by decide +kernel
theorem dX9_init_353 : decode cX9_init 353 = .ok (.putfield 125, 3) := by decide +kernel
theorem dX9_init_356 : decode cX9_init 356 = .ok (.aload_n 0, 1) := by decide +kernel
theorem dX9_init_357 : decode cX9_init 357 = .ok (.iconst (-1), 1) := by decide +kernel
theorem dX9_init_358 : decode cX9_init 358 = .ok (.putfield 128, 3) := by decide +kernel
theorem dX9_init_361 : decode cX9_init 361 = .ok (.aload_n 0, 1) := by decide +kernel
theorem dX9_init_362 : decode cX9_init 362 = .ok (.bipush 31, 2) := by decide +kernel
theorem dX9_init_364 : decode cX9_init 364 = .ok (.newarray .int, 2) := by decide +kernel
theorem dX9_init_366 : decode cX9_init 366 = .ok (.putfield 131, 3) := by decide +kernel
theorem dX9_init_369 : decode cX9_init 369 = .ok (.aload_n 0, 1) := by decide +kernel
theorem dX9_init_370 : decode cX9_init 370 = .ok (.getfield 13, 3) := by decide +kernel
theorem dX9_init_373 : decode cX9_init 373 = .ok (.iconst 3, 1) := by decide +kernel
theorem dX9_init_374 : decode cX9_init 374 = .ok (.iconst (-1), 1) := by decide +kernel
theorem dX9_init_375 : decode cX9_init 375 = .ok (.iastore, 1) := by decide +kernel
theorem dX9_init_376 : decode cX9_init 376 = .ok (.aload_n 0, 1) := by decide +kernel
theorem dX9_init_377 : decode cX9_init 377 = .ok (.getfield 13, 3) := by decide +kernel
theorem dX9_init_380 : decode cX9_init 380 = .ok (.iconst 5, 1) := by decide +kernel
theorem dX9_init_381 : decode cX9_init 381 = .ok (.iconst 3, 1) := by decide +kernel
theorem dX9_init_382 : decode cX9_init 382 = .ok (.iastore, 1) := by decide +kernel
theorem dX9_init_383 : decode cX9_init 383 = .ok (.iconst 0, 1) := by decide +kernel
theorem dX9_init_384 : decode cX9_init 384 = .ok (.istore_n 1, 1) := by decide +kernel
theorem dX9_init_385 : decode cX9_init 385 = .ok (.iload_n 1, 1) := by decide +kernel
theorem dX9_init_386 : decode cX9_init 386 = .ok (.iconst 2, 1) := by decide +kernel
theorem dX9_init_387 : decode cX9_init 387 = .ok (.if_icmp .ge 31, 3) := by decide +kernel
theorem dX9_init_390 : decode cX9_init 390 = .ok (.aload_n 0, 1) := by decide +kernel
theorem dX9_init_391 : decode cX9_init 391 = .ok (.getfield 13, 3) := by decide +kernel
theorem dX9_init_394 : decode cX9_init 394 = .ok (.bipush 31, 2) := by decide +kernel
theorem dX9_init_396 : decode cX9_init 396 = .ok (.iload_n 1, 1) := by decide +kernel
theorem dX9_init_397 : decode cX9_init 397 = .ok (.iadd, 1) := by decide +kernel
theorem dX9_init_398 : decode cX9_init 398 = .ok (.bipush 50, 2) := by decide +kernel
theorem dX9_init_400 : decode cX9_init 400 = .ok (.iastore, 1) := by decide +kernel
theorem dX9_init_401 : decode cX9_init 401 = .ok (.aload_n 0, 1) := by decide +kernel
theorem dX9_init_402 : decode cX9_init 402 = .ok (.getfield 13, 3) := by decide +kernel
theorem dX9_init_405 : decode cX9_init 405 = .ok (.bipush 33, 2) := by decide +kernel
theorem dX9_init_407 : decode cX9_init 407 = .ok (.iload_n 1, 1) := by decide +kernel
theorem dX9_init_408 : decode cX9_init 408 = .ok (.iadd, 1) := by decide +kernel
theorem dX9_init_409 : decode cX9_init 409 = .ok (.bipush 20, 2) := by decide +kernel
theorem dX9_init_411 : decode cX9_init 411 = .ok (.iastore, 1) := by decide +kernel
theorem dX9_init_412 : decode cX9_init 412 = .ok (.iinc 1 1, 3) := by decide +kernel
theorem dX9_init_415 : decode cX9_init 415 = .ok (.goto (-30), 3) := by decide +kernel
theorem dX9_init_418 : decode cX9_init 418 = .ok (.iconst 0, 1) := by decide +kernel
theorem dX9_init_419 : decode cX9_init 419 = .ok (.istore_n 1, 1) := by decide +kernel
theorem dX9_init_420 : decode cX9_init 420 = .ok (.iload_n 1, 1) := by decide +kernel
theorem dX9_init_421 : decode cX9_init 421 = .ok (.bipush 16, 2) := by decide +kernel
theorem dX9_init_423 : decode cX9_init 423 = .ok (.if_icmp .ge 29, 3) := by decide +kernel
theorem dX9_init_426 : decode cX9_init 426 = .ok (.aload_n 0, 1) := by decide +kernel
theorem dX9_init_427 : decode cX9_init 427 = .ok (.getfield 13, 3) := by decide +kernel
theorem dX9_init_430 : decode cX9_init 430 = .ok (.bipush 51, 2) := by decide +kernel
theorem dX9_init_432 : decode cX9_init 432 = .ok (.iload_n 1, 1) := by decide +kernel
theorem dX9_init_433 : decode cX9_init 433 = .ok (.iadd, 1) := by decide +kernel
theorem dX9_init_434 : decode cX9_init 434 = .ok (.iconst (-1), 1) := by decide +kernel
theorem dX9_init_435 : decode cX9_init 435 = .ok (.iastore, 1) := by decide +kernel
theorem dX9_init_436 : decode cX9_init 436 = .ok (.aload_n 0, 1) := by decide +kernel
theorem dX9_init_437 : decode cX9_init 437 = .ok (.getfield 13, 3) := by decide +kernel
theorem dX9_init_440 : decode cX9_init 440 = .ok (.bipush 83, 2) := by decide +kernel
theorem dX9_init_442 : decode cX9_init 442 = .ok (.iload_n 1, 1) := by decide +kernel
theorem dX9_init_443 : decode cX9_init 443 = .ok (.iadd, 1) := by decide +kernel
theorem dX9_init_444 : decode cX9_init 444 = .ok (.iconst 5, 1) := by decide +kernel
theorem dX9_init_445 : decode cX9_init 445 = .ok (.iastore, 1) := by decide +kernel
theorem dX9_init_446 : decode cX9_init 446 = .ok (.iinc 1 1, 3) := by decide +kernel
theorem dX9_init_449 : decode cX9_init 449 = .ok (.goto (-29), 3) := by decide +kernel
theorem dX9_init_452 : decode cX9_init 452 = .ok (.return_, 1) := by decide +kernel
theorem dX9_in_0 : decode cX9_in 0 = .ok (.lload_n 0, 1) := by decide +kernel
theorem dX9_in_1 : decode cX9_in 1 = .ok (.lload_n 2, 1) := by decide +kernel
theorem dX9_in_2 : decode cX9_in 2 = .ok (.lcmp, 1) := by decide +kernel
theorem dX9_in_3 : decode cX9_in 3 = .ok (.ifCond .lt 14, 3) := by decide +kernel
theorem dX9_in_6 : decode cX9_in 6 = .ok (.lload_n 0, 1) := by decide +kernel
theorem dX9_in_7 : decode cX9_in 7 = .ok (.lload 4, 2) := by decide +kernel
theorem dX9_in_9 : decode cX9_in 9 = .ok (.lcmp, 1) := by decide +kernel
theorem dX9_in_10 : decode cX9_in 10 = .ok (.ifCond .gt 7, 3) := by decide +kernel
theorem dX9_in_13 : decode cX9_in 13 = .ok (.iconst 1, 1) := by decide +kernel
theorem dX9_in_14 : decode cX9_in 14 = .ok (.goto 4, 3) := by decide +kernel
theorem dX9_in_17 : decode cX9_in 17 = .ok (.iconst 0, 1) := by decide +kernel
theorem dX9_in_18 : decode cX9_in 18 = .ok (.ireturn, 1) := by decide +kernel
theorem dX9_is_0 : decode cX9_is 0 = .ok (.iload_n 0, 1) := by decide +kernel
theorem dX9_is_1 : decode cX9_is 1 = .ok (.iload_n 1, 1) := by decide +kernel
theorem dX9_is_2 : decode cX9_is 2 = .ok (.ishr, 1) := by decide +kernel
theorem dX9_is_3 : decode cX9_is 3 = .ok (.iconst 1, 1) := by decide +kernel
theorem dX9_is_4 : decode cX9_is 4 = .ok (.iand, 1) := by decide +kernel
theorem dX9_is_5 : decode cX9_is 5 = .ok (.iconst 1, 1) := by decide +kernel
theorem dX9_is_6 : decode cX9_is 6 = .ok (.if_icmp .ne 7, 3) := by decide +kernel
theorem dX9_is_9 : decode cX9_is 9 = .ok (.iconst 1, 1) := by decide +kernel
theorem dX9_is_10 : decode cX9_is 10 = .ok (.goto 4, 3) := by decide +kernel
theorem dX9_is_13 : decode cX9_is 13 = .ok (.iconst 0, 1) := by decide +kernel
theorem dX9_is_14 : decode cX9_is 14 = .ok (.ireturn, 1) := by decide +kernel
theorem dX9_ones_0 : decode cX9_ones 0 = .ok (.iconst 0, 1) := by decide +kernel
theorem dX9_ones_1 : decode cX9_ones 1 = .ok (.istore_n 1, 1) := by decide +kernel
theorem dX9_ones_2 : decode cX9_ones 2 = .ok (.iconst 0, 1) := by decide +kernel
theorem dX9_ones_3 : decode cX9_ones 3 = .ok (.istore_n 2, 1) := by decide +kernel
theorem dX9_ones_4 : decode cX9_ones 4 = .ok (.iload_n 2, 1) := by decide +kernel
theorem dX9_ones_5 : decode cX9_ones 5 = .ok (.bipush 8, 2) := by decide +kernel
theorem dX9_ones_7 : decode cX9_ones 7 = .ok (.if_icmp .ge 17, 3) := by decide +kernel
theorem dX9_ones_10 : decode cX9_ones 10 = .ok (.iload_n 1, 1) := by decide +kernel
theorem dX9_ones_11 : decode cX9_ones 11 = .ok (.iload_n 0, 1) := by decide +kernel
theorem dX9_ones_12 : decode cX9_ones 12 = .ok (.iload_n 2, 1) := by decide +kernel
theorem dX9_ones_13 : decode cX9_ones 13 = .ok (.ishr, 1) := by decide +kernel
theorem dX9_ones_14 : decode cX9_ones 14 = .ok (.iconst 1, 1) := by decide +kernel
theorem dX9_ones_15 : decode cX9_ones 15 = .ok (.iand, 1) := by decide +kernel
theorem dX9_ones_16 : decode cX9_ones 16 = .ok (.iadd, 1) := by decide +kernel
theorem dX9_ones_17 : decode cX9_ones 17 = .ok (.istore_n 1, 1) := by decide +kernel
theorem dX9_ones_18 : decode cX9_ones 18 = .ok (.iinc 2 1, 3) := by decide +kernel
theorem dX9_ones_21 : decode cX9_ones 21 = .ok (.goto (-17), 3) := by decide +kernel
theorem dX9_ones_24 : decode cX9_ones 24 = .ok (.iload_n 1, 1) := by decide +kernel
theorem dX9_ones_25 : decode cX9_ones 25 = .ok (.ireturn, 1) := by decide +kernel
theorem dX9_sizeOf_0 : decode cX9_sizeOf 0 = .ok (.iload_n 0, 1) := by decide +kernel
theorem dX9_sizeOf_1 : decode cX9_sizeOf 1 = .ok (.ifCond .ge 8, 3) := by decide +kernel
theorem dX9_sizeOf_4 : decode cX9_sizeOf 4 = .ok (.iload_n 0, 1) := by decide +kernel
theorem dX9_sizeOf_5 : decode cX9_sizeOf 5 = .ok (.ineg, 1) := by decide +kernel
theorem dX9_sizeOf_6 : decode cX9_sizeOf 6 = .ok (.goto 4, 3) := by decide +kernel
theorem dX9_sizeOf_9 : decode cX9_sizeOf 9 = .ok (.iload_n 0, 1) := by decide +kernel
theorem dX9_sizeOf_10 : decode cX9_sizeOf 10 = .ok (.ireturn, 1) := by decide +kernel
theorem dX9_within_0 : decode cX9_within 0 = .ok (.lload_n 0, 1) := by decide +kernel
theorem dX9_within_1 : decode cX9_within 1 = .ok (.iload_n 2, 1) := by decide +kernel
theorem dX9_within_2 : decode cX9_within 2 = .ok (.i2l, 1) := by decide +kernel
theorem dX9_within_3 : decode cX9_within 3 = .ok (.lcmp, 1) := by decide +kernel
theorem dX9_within_4 : decode cX9_within 4 = .ok (.ifCond .ge 7, 3) := by decide +kernel
theorem dX9_within_7 : decode cX9_within 7 = .ok (.iload_n 2, 1) := by decide +kernel
theorem dX9_within_8 : decode cX9_within 8 = .ok (.goto 16, 3) := by decide +kernel
theorem dX9_within_11 : decode cX9_within 11 = .ok (.lload_n 0, 1) := by decide +kernel
theorem dX9_within_12 : decode cX9_within 12 = .ok (.iload_n 3, 1) := by decide +kernel
theorem dX9_within_13 : decode cX9_within 13 = .ok (.i2l, 1) := by decide +kernel
theorem dX9_within_14 : decode cX9_within 14 = .ok (.lcmp, 1) := by decide +kernel
theorem dX9_within_15 : decode cX9_within 15 = .ok (.ifCond .le 7, 3) := by decide +kernel
theorem dX9_within_18 : decode cX9_within 18 = .ok (.iload_n 3, 1) := by decide +kernel
theorem dX9_within_19 : decode cX9_within 19 = .ok (.goto 5, 3) := by decide +kernel
theorem dX9_within_22 : decode cX9_within 22 = .ok (.lload_n 0, 1) := by decide +kernel
theorem dX9_within_23 : decode cX9_within 23 = .ok (.l2i, 1) := by decide +kernel
theorem dX9_within_24 : decode cX9_within 24 = .ok (.ireturn, 1) := by decide +kernel
theorem dX9_answer_0 : decode cX9_answer 0 = .ok (.aload_n 0, 1) := by decide +kernel
theorem dX9_answer_1 : decode cX9_answer 1 = .ok (.iload_n 1, 1) := by decide +kernel
theorem dX9_answer_2 : decode cX9_answer 2 = .ok (.ifCond .ge 7, 3) := by decide +kernel
theorem dX9_answer_5 : decode cX9_answer 5 = .ok (.iload_n 1, 1) := by decide +kernel
theorem dX9_answer_6 : decode cX9_answer 6 = .ok (.goto 4, 3) := by decide +kernel
theorem dX9_answer_9 : decode cX9_answer 9 = .ok (.iconst 0, 1) := by decide +kernel
theorem dX9_answer_10 : decode cX9_answer 10 = .ok (.putfield 137, 3) := by decide +kernel
theorem dX9_answer_13 : decode cX9_answer 13 = .ok (.iload_n 1, 1) := by decide +kernel
theorem dX9_answer_14 : decode cX9_answer 14 = .ok (.ifCond .ge 14, 3) := by decide +kernel
theorem dX9_answer_17 : decode cX9_answer 17 = .ok (.aload_n 0, 1) := by decide +kernel
theorem dX9_answer_18 : decode cX9_answer 18 = .ok (.getfield 7, 3) := by decide +kernel
theorem dX9_answer_21 : decode cX9_answer 21 = .ok (.iload_n 1, 1) := by decide +kernel
theorem dX9_answer_22 : decode cX9_answer 22 = .ok (.ineg, 1) := by decide +kernel
theorem dX9_answer_23 : decode cX9_answer 23 = .ok (.dup2, 1) := by decide +kernel
theorem dX9_answer_24 : decode cX9_answer 24 = .ok (.iaload, 1) := by decide +kernel
theorem dX9_answer_25 : decode cX9_answer 25 = .ok (.iconst 1, 1) := by decide +kernel
theorem dX9_answer_26 : decode cX9_answer 26 = .ok (.iadd, 1) := by decide +kernel
theorem dX9_answer_27 : decode cX9_answer 27 = .ok (.iastore, 1) := by decide +kernel
theorem dX9_answer_28 : decode cX9_answer 28 = .ok (.iload_n 1, 1) := by decide +kernel
theorem dX9_answer_29 : decode cX9_answer 29 = .ok (.ireturn, 1) := by decide +kernel
theorem dX9_change_0 : decode cX9_change 0 = .ok (.aload_n 0, 1) := by decide +kernel
theorem dX9_change_1 : decode cX9_change 1 = .ok (.getfield 13, 3) := by decide +kernel
theorem dX9_change_4 : decode cX9_change 4 = .ok (.iload_n 1, 1) := by decide +kernel
theorem dX9_change_5 : decode cX9_change 5 = .ok (.iaload, 1) := by decide +kernel
theorem dX9_change_6 : decode cX9_change 6 = .ok (.istore_n 3, 1) := by decide +kernel
theorem dX9_change_7 : decode cX9_change 7 = .ok (.aload_n 0, 1) := by decide +kernel
theorem dX9_change_8 : decode cX9_change 8 = .ok (.getfield 13, 3) := by decide +kernel
theorem dX9_change_11 : decode cX9_change 11 = .ok (.iload_n 1, 1) := by decide +kernel
theorem dX9_change_12 : decode cX9_change 12 = .ok (.iload_n 2, 1) := by decide +kernel
theorem dX9_change_13 : decode cX9_change 13 = .ok (.iastore, 1) := by decide +kernel
theorem dX9_change_14 : decode cX9_change 14 = .ok (.aload_n 0, 1) := by decide +kernel
theorem dX9_change_15 : decode cX9_change 15 = .ok (.iconst 0, 1) := by decide +kernel
theorem dX9_change_16 : decode cX9_change 16 = .ok (.putfield 137, 3) := by decide +kernel
theorem dX9_change_19 : decode cX9_change 19 = .ok (.iload_n 3, 1) := by decide +kernel
theorem dX9_change_20 : decode cX9_change 20 = .ok (.ireturn, 1) := by decide +kernel
theorem dX9_settled_0 : decode cX9_settled 0 = .ok (.aload_n 0, 1) := by decide +kernel
theorem dX9_settled_1 : decode cX9_settled 1 = .ok (.iload_n 1, 1) := by decide +kernel
theorem dX9_settled_2 : decode cX9_settled 2 = .ok (.ifCond .ge 10, 3) := by decide +kernel
theorem dX9_settled_5 : decode cX9_settled 5 = .ok (.aload_n 0, 1) := by decide +kernel
theorem dX9_settled_6 : decode cX9_settled 6 = .ok (.getfield 140, 3) := by decide +kernel
theorem dX9_settled_9 : decode cX9_settled 9 = .ok (.goto 4, 3) := by decide +kernel
theorem dX9_settled_12 : decode cX9_settled 12 = .ok (.iconst 0, 1) := by decide +kernel
theorem dX9_settled_13 : decode cX9_settled 13 = .ok (.putfield 140, 3) := by decide +kernel
theorem dX9_settled_16 : decode cX9_settled 16 = .ok (.aload_n 0, 1) := by decide +kernel
theorem dX9_settled_17 : decode cX9_settled 17 = .ok (.iload_n 1, 1) := by decide +kernel
theorem dX9_settled_18 : decode cX9_settled 18 = .ok (.invokevirtual 143, 3) := by decide +kernel
theorem dX9_settled_21 : decode cX9_settled 21 = .ok (.ireturn, 1) := by decide +kernel
theorem dX9_keepAll_0 : decode cX9_keepAll 0 = .ok (.iconst 0, 1) := by decide +kernel
theorem dX9_keepAll_1 : decode cX9_keepAll 1 = .ok (.istore_n 2, 1) := by decide +kernel
theorem dX9_keepAll_2 : decode cX9_keepAll 2 = .ok (.iload_n 2, 1) := by decide +kernel
theorem dX9_keepAll_3 : decode cX9_keepAll 3 = .ok (.bipush 31, 2) := by decide +kernel
theorem dX9_keepAll_5 : decode cX9_keepAll 5 = .ok (.if_icmp .ge 28, 3) := by decide +kernel
theorem dX9_keepAll_8 : decode cX9_keepAll 8 = .ok (.aload_n 0, 1) := by decide +kernel
theorem dX9_keepAll_9 : decode cX9_keepAll 9 = .ok (.getfield 23, 3) := by decide +kernel
theorem dX9_keepAll_12 : decode cX9_keepAll 12 = .ok (.bipush 31, 2) := by decide +kernel
theorem dX9_keepAll_14 : decode cX9_keepAll 14 = .ok (.iload_n 1, 1) := by decide +kernel
theorem dX9_keepAll_15 : decode cX9_keepAll 15 = .ok (.imul, 1) := by decide +kernel
theorem dX9_keepAll_16 : decode cX9_keepAll 16 = .ok (.iload_n 2, 1) := by decide +kernel
theorem dX9_keepAll_17 : decode cX9_keepAll 17 = .ok (.iadd, 1) := by decide +kernel
theorem dX9_keepAll_18 : decode cX9_keepAll 18 = .ok (.aload_n 0, 1) := by decide +kernel
theorem dX9_keepAll_19 : decode cX9_keepAll 19 = .ok (.getfield 13, 3) := by decide +kernel
theorem dX9_keepAll_22 : decode cX9_keepAll 22 = .ok (.iconst 4, 1) := by decide +kernel
theorem dX9_keepAll_23 : decode cX9_keepAll 23 = .ok (.iload_n 2, 1) := by decide +kernel
theorem dX9_keepAll_24 : decode cX9_keepAll 24 = .ok (.iadd, 1) := by decide +kernel
theorem dX9_keepAll_25 : decode cX9_keepAll 25 = .ok (.iaload, 1) := by decide +kernel
theorem dX9_keepAll_26 : decode cX9_keepAll 26 = .ok (.iastore, 1) := by decide +kernel
theorem dX9_keepAll_27 : decode cX9_keepAll 27 = .ok (.iinc 2 1, 3) := by decide +kernel
theorem dX9_keepAll_30 : decode cX9_keepAll 30 = .ok (.goto (-28), 3) := by decide +kernel
theorem dX9_keepAll_33 : decode cX9_keepAll 33 = .ok (.return_, 1) := by decide +kernel
theorem dX9_putBack_0 : decode cX9_putBack 0 = .ok (.iconst 0, 1) := by decide +kernel
theorem dX9_putBack_1 : decode cX9_putBack 1 = .ok (.istore_n 2, 1) := by decide +kernel
theorem dX9_putBack_2 : decode cX9_putBack 2 = .ok (.iload_n 2, 1) := by decide +kernel
theorem dX9_putBack_3 : decode cX9_putBack 3 = .ok (.bipush 31, 2) := by decide +kernel
theorem dX9_putBack_5 : decode cX9_putBack 5 = .ok (.if_icmp .ge 28, 3) := by decide +kernel
theorem dX9_putBack_8 : decode cX9_putBack 8 = .ok (.aload_n 0, 1) := by decide +kernel
theorem dX9_putBack_9 : decode cX9_putBack 9 = .ok (.getfield 13, 3) := by decide +kernel
theorem dX9_putBack_12 : decode cX9_putBack 12 = .ok (.iconst 4, 1) := by decide +kernel
theorem dX9_putBack_13 : decode cX9_putBack 13 = .ok (.iload_n 2, 1) := by decide +kernel
theorem dX9_putBack_14 : decode cX9_putBack 14 = .ok (.iadd, 1) := by decide +kernel
theorem dX9_putBack_15 : decode cX9_putBack 15 = .ok (.aload_n 0, 1) := by decide +kernel
theorem dX9_putBack_16 : decode cX9_putBack 16 = .ok (.getfield 23, 3) := by decide +kernel
theorem dX9_putBack_19 : decode cX9_putBack 19 = .ok (.bipush 31, 2) := by decide +kernel
theorem dX9_putBack_21 : decode cX9_putBack 21 = .ok (.iload_n 1, 1) := by decide +kernel
theorem dX9_putBack_22 : decode cX9_putBack 22 = .ok (.imul, 1) := by decide +kernel
theorem dX9_putBack_23 : decode cX9_putBack 23 = .ok (.iload_n 2, 1) := by decide +kernel
theorem dX9_putBack_24 : decode cX9_putBack 24 = .ok (.iadd, 1) := by decide +kernel
theorem dX9_putBack_25 : decode cX9_putBack 25 = .ok (.iaload, 1) := by decide +kernel
theorem dX9_putBack_26 : decode cX9_putBack 26 = .ok (.iastore, 1) := by decide +kernel
theorem dX9_putBack_27 : decode cX9_putBack 27 = .ok (.iinc 2 1, 3) := by decide +kernel
theorem dX9_putBack_30 : decode cX9_putBack 30 = .ok (.goto (-28), 3) := by decide +kernel
theorem dX9_putBack_33 : decode cX9_putBack 33 = .ok (.return_, 1) := by decide +kernel
theorem dX9_remember_0 : decode cX9_remember 0 = .ok (.aload_n 0, 1) := by decide +kernel
theorem dX9_remember_1 : decode cX9_remember 1 = .ok (.getfield 140, 3) := by decide +kernel
theorem dX9_remember_4 : decode cX9_remember 4 = .ok (.bipush 16, 2) := by decide +kernel
theorem dX9_remember_6 : decode cX9_remember 6 = .ok (.if_icmp .ne 71, 3) := by decide +kernel
theorem dX9_remember_9 : decode cX9_remember 9 = .ok (.iconst 0, 1) := by decide +kernel
theorem dX9_remember_10 : decode cX9_remember 10 = .ok (.istore_n 2, 1) := by decide +kernel
theorem dX9_remember_11 : decode cX9_remember 11 = .ok (.iload_n 2, 1) := by decide +kernel
theorem dX9_remember_12 : decode cX9_remember 12 = .ok (.sipush 465, 3) := by decide +kernel
theorem dX9_remember_15 : decode cX9_remember 15 = .ok (.if_icmp .ge 24, 3) := by decide +kernel
theorem dX9_remember_18 : decode cX9_remember 18 = .ok (.aload_n 0, 1) := by decide +kernel
theorem dX9_remember_19 : decode cX9_remember 19 = .ok (.getfield 23, 3) := by decide +kernel
theorem dX9_remember_22 : decode cX9_remember 22 = .ok (.iload_n 2, 1) := by decide +kernel
theorem dX9_remember_23 : decode cX9_remember 23 = .ok (.aload_n 0, 1) := by decide +kernel
theorem dX9_remember_24 : decode cX9_remember 24 = .ok (.getfield 23, 3) := by decide +kernel
theorem dX9_remember_27 : decode cX9_remember 27 = .ok (.iload_n 2, 1) := by decide +kernel
theorem dX9_remember_28 : decode cX9_remember 28 = .ok (.bipush 31, 2) := by decide +kernel
theorem dX9_remember_30 : decode cX9_remember 30 = .ok (.iadd, 1) := by decide +kernel
theorem dX9_remember_31 : decode cX9_remember 31 = .ok (.iaload, 1) := by decide +kernel
theorem dX9_remember_32 : decode cX9_remember 32 = .ok (.iastore, 1) := by decide +kernel
theorem dX9_remember_33 : decode cX9_remember 33 = .ok (.iinc 2 1, 3) := by decide +kernel
theorem dX9_remember_36 : decode cX9_remember 36 = .ok (.goto (-25), 3) := by decide +kernel
theorem dX9_remember_39 : decode cX9_remember 39 = .ok (.iconst 0, 1) := by decide +kernel
theorem dX9_remember_40 : decode cX9_remember 40 = .ok (.istore_n 2, 1) := by decide +kernel
theorem dX9_remember_41 : decode cX9_remember 41 = .ok (.iload_n 2, 1) := by decide +kernel
theorem dX9_remember_42 : decode cX9_remember 42 = .ok (.bipush 15, 2) := by decide +kernel
theorem dX9_remember_44 : decode cX9_remember 44 = .ok (.if_icmp .ge 23, 3) := by decide +kernel
theorem dX9_remember_47 : decode cX9_remember 47 = .ok (.aload_n 0, 1) := by decide +kernel
theorem dX9_remember_48 : decode cX9_remember 48 = .ok (.getfield 26, 3) := by decide +kernel
theorem dX9_remember_51 : decode cX9_remember 51 = .ok (.iload_n 2, 1) := by decide +kernel
theorem dX9_remember_52 : decode cX9_remember 52 = .ok (.aload_n 0, 1) := by decide +kernel
theorem dX9_remember_53 : decode cX9_remember 53 = .ok (.getfield 26, 3) := by decide +kernel
theorem dX9_remember_56 : decode cX9_remember 56 = .ok (.iload_n 2, 1) := by decide +kernel
theorem dX9_remember_57 : decode cX9_remember 57 = .ok (.iconst 1, 1) := by decide +kernel
theorem dX9_remember_58 : decode cX9_remember 58 = .ok (.iadd, 1) := by decide +kernel
theorem dX9_remember_59 : decode cX9_remember 59 = .ok (.iaload, 1) := by decide +kernel
theorem dX9_remember_60 : decode cX9_remember 60 = .ok (.iastore, 1) := by decide +kernel
theorem dX9_remember_61 : decode cX9_remember 61 = .ok (.iinc 2 1, 3) := by decide +kernel
theorem dX9_remember_64 : decode cX9_remember 64 = .ok (.goto (-23), 3) := by decide +kernel
theorem dX9_remember_67 : decode cX9_remember 67 = .ok (.aload_n 0, 1) := by decide +kernel
theorem dX9_remember_68 : decode cX9_remember 68 = .ok (.dup, 1) := by decide +kernel
theorem dX9_remember_69 : decode cX9_remember 69 = .ok (.getfield 140, 3) := by decide +kernel
theorem dX9_remember_72 : decode cX9_remember 72 = .ok (.iconst 1, 1) := by decide +kernel
theorem dX9_remember_73 : decode cX9_remember 73 = .ok (.isub, 1) := by decide +kernel
theorem dX9_remember_74 : decode cX9_remember 74 = .ok (.putfield 140, 3) := by decide +kernel
theorem dX9_remember_77 : decode cX9_remember 77 = .ok (.aload_n 0, 1) := by decide +kernel
theorem dX9_remember_78 : decode cX9_remember 78 = .ok (.aload_n 0, 1) := by decide +kernel
theorem dX9_remember_79 : decode cX9_remember 79 = .ok (.getfield 140, 3) := by decide +kernel
theorem dX9_remember_82 : decode cX9_remember 82 = .ok (.invokevirtual 147, 3) := by decide +kernel
theorem dX9_remember_85 : decode cX9_remember 85 = .ok (.aload_n 0, 1) := by decide +kernel
theorem dX9_remember_86 : decode cX9_remember 86 = .ok (.getfield 26, 3) := by decide +kernel
theorem dX9_remember_89 : decode cX9_remember 89 = .ok (.aload_n 0, 1) := by decide +kernel
theorem dX9_remember_90 : decode cX9_remember 90 = .ok (.getfield 140, 3) := by decide +kernel
theorem dX9_remember_93 : decode cX9_remember 93 = .ok (.iload_n 1, 1) := by decide +kernel
theorem dX9_remember_94 : decode cX9_remember 94 = .ok (.iastore, 1) := by decide +kernel
theorem dX9_remember_95 : decode cX9_remember 95 = .ok (.aload_n 0, 1) := by decide +kernel
theorem dX9_remember_96 : decode cX9_remember 96 = .ok (.dup, 1) := by decide +kernel
theorem dX9_remember_97 : decode cX9_remember 97 = .ok (.getfield 140, 3) := by decide +kernel
theorem dX9_remember_100 : decode cX9_remember 100 = .ok (.iconst 1, 1) := by decide +kernel
theorem dX9_remember_101 : decode cX9_remember 101 = .ok (.iadd, 1) := by decide +kernel
theorem dX9_remember_102 : decode cX9_remember 102 = .ok (.putfield 140, 3) := by decide +kernel
theorem dX9_remember_105 : decode cX9_remember 105 = .ok (.return_, 1) := by decide +kernel
theorem dX9_undo_0 : decode cX9_undo 0 = .ok (.aload_n 0, 1) := by decide +kernel
theorem dX9_undo_1 : decode cX9_undo 1 = .ok (.iconst 0, 1) := by decide +kernel
theorem dX9_undo_2 : decode cX9_undo 2 = .ok (.putfield 134, 3) := by decide +kernel
theorem dX9_undo_5 : decode cX9_undo 5 = .ok (.aload_n 0, 1) := by decide +kernel
theorem dX9_undo_6 : decode cX9_undo 6 = .ok (.getfield 140, 3) := by decide +kernel
theorem dX9_undo_9 : decode cX9_undo 9 = .ok (.ifCond .ne 10, 3) := by decide +kernel
theorem dX9_undo_12 : decode cX9_undo 12 = .ok (.aload_n 0, 1) := by decide +kernel
theorem dX9_undo_13 : decode cX9_undo 13 = .ok (.bipush (-3), 2) := by decide +kernel
theorem dX9_undo_15 : decode cX9_undo 15 = .ok (.invokevirtual 143, 3) := by decide +kernel
theorem dX9_undo_18 : decode cX9_undo 18 = .ok (.ireturn, 1) := by decide +kernel
theorem dX9_undo_19 : decode cX9_undo 19 = .ok (.aload_n 0, 1) := by decide +kernel
theorem dX9_undo_20 : decode cX9_undo 20 = .ok (.dup, 1) := by decide +kernel
theorem dX9_undo_21 : decode cX9_undo 21 = .ok (.getfield 140, 3) := by decide +kernel
theorem dX9_undo_24 : decode cX9_undo 24 = .ok (.iconst 1, 1) := by decide +kernel
theorem dX9_undo_25 : decode cX9_undo 25 = .ok (.isub, 1) := by decide +kernel
theorem dX9_undo_26 : decode cX9_undo 26 = .ok (.putfield 140, 3) := by decide +kernel
theorem dX9_undo_29 : decode cX9_undo 29 = .ok (.aload_n 0, 1) := by decide +kernel
theorem dX9_undo_30 : decode cX9_undo 30 = .ok (.aload_n 0, 1) := by decide +kernel
theorem dX9_undo_31 : decode cX9_undo 31 = .ok (.getfield 140, 3) := by decide +kernel
theorem dX9_undo_34 : decode cX9_undo 34 = .ok (.invokevirtual 151, 3) := by decide +kernel
theorem dX9_undo_37 : decode cX9_undo 37 = .ok (.aload_n 0, 1) := by decide +kernel
theorem dX9_undo_38 : decode cX9_undo 38 = .ok (.aload_n 0, 1) := by decide +kernel
theorem dX9_undo_39 : decode cX9_undo 39 = .ok (.getfield 26, 3) := by decide +kernel
theorem dX9_undo_42 : decode cX9_undo 42 = .ok (.aload_n 0, 1) := by decide +kernel
theorem dX9_undo_43 : decode cX9_undo 43 = .ok (.getfield 140, 3) := by decide +kernel
theorem dX9_undo_46 : decode cX9_undo 46 = .ok (.iaload, 1) := by decide +kernel
theorem dX9_undo_47 : decode cX9_undo 47 = .ok (.invokevirtual 143, 3) := by decide +kernel
theorem dX9_undo_50 : decode cX9_undo 50 = .ok (.ireturn, 1) := by decide +kernel
theorem dX9_image_0 : decode cX9_image 0 = .ok (.aload_n 0, 1) := by decide +kernel
theorem dX9_image_1 : decode cX9_image 1 = .ok (.iconst 0, 1) := by decide +kernel
theorem dX9_image_2 : decode cX9_image 2 = .ok (.putfield 134, 3) := by decide +kernel
theorem dX9_image_5 : decode cX9_image 5 = .ok (.iload_n 1, 1) := by decide +kernel
theorem dX9_image_6 : decode cX9_image 6 = .ok (.i2l, 1) := by decide +kernel
theorem dX9_image_7 : decode cX9_image 7 = .ok (.lconst 0, 1) := by decide +kernel
theorem dX9_image_8 : decode cX9_image 8 = .ok (.lconst 1, 1) := by decide +kernel
theorem dX9_image_9 : decode cX9_image 9 = .ok (.invokestatic 154, 3) := by decide +kernel
theorem dX9_image_12 : decode cX9_image 12 = .ok (.ifCond .ne 9, 3) := by decide +kernel
theorem dX9_image_15 : decode cX9_image 15 = .ok (.aload_n 0, 1) := by decide +kernel
theorem dX9_image_16 : decode cX9_image 16 = .ok (.iconst (-1), 1) := by decide +kernel
theorem dX9_image_17 : decode cX9_image 17 = .ok (.invokevirtual 143, 3) := by decide +kernel
theorem dX9_image_20 : decode cX9_image 20 = .ok (.ireturn, 1) := by decide +kernel
theorem dX9_image_21 : decode cX9_image 21 = .ok (.iconst 0, 1) := by decide +kernel
theorem dX9_image_22 : decode cX9_image 22 = .ok (.istore_n 2, 1) := by decide +kernel
theorem dX9_image_23 : decode cX9_image 23 = .ok (.iload_n 2, 1) := by decide +kernel
theorem dX9_image_24 : decode cX9_image 24 = .ok (.sipush 5530, 3) := by decide +kernel
theorem dX9_image_27 : decode cX9_image 27 = .ok (.if_icmp .ge 27, 3) := by decide +kernel
theorem dX9_image_30 : decode cX9_image 30 = .ok (.aload_n 0, 1) := by decide +kernel
theorem dX9_image_31 : decode cX9_image 31 = .ok (.getfield 16, 3) := by decide +kernel
theorem dX9_image_34 : decode cX9_image 34 = .ok (.sipush 5530, 3) := by decide +kernel
theorem dX9_image_37 : decode cX9_image 37 = .ok (.iload_n 1, 1) := by decide +kernel
theorem dX9_image_38 : decode cX9_image 38 = .ok (.imul, 1) := by decide +kernel
theorem dX9_image_39 : decode cX9_image 39 = .ok (.iload_n 2, 1) := by decide +kernel
theorem dX9_image_40 : decode cX9_image 40 = .ok (.iadd, 1) := by decide +kernel
theorem dX9_image_41 : decode cX9_image 41 = .ok (.aload_n 0, 1) := by decide +kernel
theorem dX9_image_42 : decode cX9_image 42 = .ok (.getfield 13, 3) := by decide +kernel
theorem dX9_image_45 : decode cX9_image 45 = .ok (.iload_n 2, 1) := by decide +kernel
theorem dX9_image_46 : decode cX9_image 46 = .ok (.iaload, 1) := by decide +kernel
theorem dX9_image_47 : decode cX9_image 47 = .ok (.iastore, 1) := by decide +kernel
theorem dX9_image_48 : decode cX9_image 48 = .ok (.iinc 2 1, 3) := by decide +kernel
theorem dX9_image_51 : decode cX9_image 51 = .ok (.goto (-28), 3) := by decide +kernel
theorem dX9_image_54 : decode cX9_image 54 = .ok (.aload_n 0, 1) := by decide +kernel
theorem dX9_image_55 : decode cX9_image 55 = .ok (.getfield 19, 3) := by decide +kernel
theorem dX9_image_58 : decode cX9_image 58 = .ok (.iload_n 1, 1) := by decide +kernel
theorem dX9_image_59 : decode cX9_image 59 = .ok (.iconst 1, 1) := by decide +kernel
theorem dX9_image_60 : decode cX9_image 60 = .ok (.bastore, 1) := by decide +kernel
theorem dX9_image_61 : decode cX9_image 61 = .ok (.aload_n 0, 1) := by decide +kernel
theorem dX9_image_62 : decode cX9_image 62 = .ok (.iconst 0, 1) := by decide +kernel
theorem dX9_image_63 : decode cX9_image 63 = .ok (.invokevirtual 143, 3) := by decide +kernel
theorem dX9_image_66 : decode cX9_image 66 = .ok (.ireturn, 1) := by decide +kernel
theorem dX9_back_0 : decode cX9_back 0 = .ok (.aload_n 0, 1) := by decide +kernel
theorem dX9_back_1 : decode cX9_back 1 = .ok (.iconst 0, 1) := by decide +kernel
theorem dX9_back_2 : decode cX9_back 2 = .ok (.putfield 134, 3) := by decide +kernel
theorem dX9_back_5 : decode cX9_back 5 = .ok (.iload_n 1, 1) := by decide +kernel
theorem dX9_back_6 : decode cX9_back 6 = .ok (.i2l, 1) := by decide +kernel
theorem dX9_back_7 : decode cX9_back 7 = .ok (.lconst 0, 1) := by decide +kernel
theorem dX9_back_8 : decode cX9_back 8 = .ok (.lconst 1, 1) := by decide +kernel
theorem dX9_back_9 : decode cX9_back 9 = .ok (.invokestatic 154, 3) := by decide +kernel
theorem dX9_back_12 : decode cX9_back 12 = .ok (.ifCond .ne 9, 3) := by decide +kernel
theorem dX9_back_15 : decode cX9_back 15 = .ok (.aload_n 0, 1) := by decide +kernel
theorem dX9_back_16 : decode cX9_back 16 = .ok (.iconst (-1), 1) := by decide +kernel
theorem dX9_back_17 : decode cX9_back 17 = .ok (.invokevirtual 143, 3) := by decide +kernel
theorem dX9_back_20 : decode cX9_back 20 = .ok (.ireturn, 1) := by decide +kernel
theorem dX9_back_21 : decode cX9_back 21 = .ok (.aload_n 0, 1) := by decide +kernel
theorem dX9_back_22 : decode cX9_back 22 = .ok (.getfield 19, 3) := by decide +kernel
theorem dX9_back_25 : decode cX9_back 25 = .ok (.iload_n 1, 1) := by decide +kernel
theorem dX9_back_26 : decode cX9_back 26 = .ok (.baload, 1) := by decide +kernel
theorem dX9_back_27 : decode cX9_back 27 = .ok (.ifCond .ne 10, 3) := by decide +kernel
theorem dX9_back_30 : decode cX9_back 30 = .ok (.aload_n 0, 1) := by decide +kernel
theorem dX9_back_31 : decode cX9_back 31 = .ok (.bipush (-2), 2) := by decide +kernel
theorem dX9_back_33 : decode cX9_back 33 = .ok (.invokevirtual 143, 3) := by decide +kernel
theorem dX9_back_36 : decode cX9_back 36 = .ok (.ireturn, 1) := by decide +kernel
theorem dX9_back_37 : decode cX9_back 37 = .ok (.iconst 0, 1) := by decide +kernel
theorem dX9_back_38 : decode cX9_back 38 = .ok (.istore_n 2, 1) := by decide +kernel
theorem dX9_back_39 : decode cX9_back 39 = .ok (.iload_n 2, 1) := by decide +kernel
theorem dX9_back_40 : decode cX9_back 40 = .ok (.sipush 5530, 3) := by decide +kernel
theorem dX9_back_43 : decode cX9_back 43 = .ok (.if_icmp .ge 27, 3) := by decide +kernel
theorem dX9_back_46 : decode cX9_back 46 = .ok (.aload_n 0, 1) := by decide +kernel
theorem dX9_back_47 : decode cX9_back 47 = .ok (.getfield 13, 3) := by decide +kernel
theorem dX9_back_50 : decode cX9_back 50 = .ok (.iload_n 2, 1) := by decide +kernel
theorem dX9_back_51 : decode cX9_back 51 = .ok (.aload_n 0, 1) := by decide +kernel
theorem dX9_back_52 : decode cX9_back 52 = .ok (.getfield 16, 3) := by decide +kernel
theorem dX9_back_55 : decode cX9_back 55 = .ok (.sipush 5530, 3) := by decide +kernel
theorem dX9_back_58 : decode cX9_back 58 = .ok (.iload_n 1, 1) := by decide +kernel
theorem dX9_back_59 : decode cX9_back 59 = .ok (.imul, 1) := by decide +kernel
theorem dX9_back_60 : decode cX9_back 60 = .ok (.iload_n 2, 1) := by decide +kernel
theorem dX9_back_61 : decode cX9_back 61 = .ok (.iadd, 1) := by decide +kernel
theorem dX9_back_62 : decode cX9_back 62 = .ok (.iaload, 1) := by decide +kernel
theorem dX9_back_63 : decode cX9_back 63 = .ok (.iastore, 1) := by decide +kernel
theorem dX9_back_64 : decode cX9_back 64 = .ok (.iinc 2 1, 3) := by decide +kernel
theorem dX9_back_67 : decode cX9_back 67 = .ok (.goto (-28), 3) := by decide +kernel
theorem dX9_back_70 : decode cX9_back 70 = .ok (.aload_n 0, 1) := by decide +kernel
theorem dX9_back_71 : decode cX9_back 71 = .ok (.iconst 0, 1) := by decide +kernel
theorem dX9_back_72 : decode cX9_back 72 = .ok (.invokevirtual 158, 3) := by decide +kernel
theorem dX9_back_75 : decode cX9_back 75 = .ok (.ireturn, 1) := by decide +kernel
theorem dX9_isSide_0 : decode cX9_isSide 0 = .ok (.iload_n 0, 1) := by decide +kernel
theorem dX9_isSide_1 : decode cX9_isSide 1 = .ok (.i2l, 1) := by decide +kernel
theorem dX9_isSide_2 : decode cX9_isSide 2 = .ok (.lconst 0, 1) := by decide +kernel
theorem dX9_isSide_3 : decode cX9_isSide 3 = .ok (.lconst 1, 1) := by decide +kernel
theorem dX9_isSide_4 : decode cX9_isSide 4 = .ok (.invokestatic 154, 3) := by decide +kernel
theorem dX9_isSide_7 : decode cX9_isSide 7 = .ok (.ireturn, 1) := by decide +kernel
theorem dX9_isEight_0 : decode cX9_isEight 0 = .ok (.iload_n 0, 1) := by decide +kernel
theorem dX9_isEight_1 : decode cX9_isEight 1 = .ok (.i2l, 1) := by decide +kernel
theorem dX9_isEight_2 : decode cX9_isEight 2 = .ok (.lconst 0, 1) := by decide +kernel
theorem dX9_isEight_3 : decode cX9_isEight 3 = .ok (.ldc2_w 161, 3) := by decide +kernel
theorem dX9_isEight_6 : decode cX9_isEight 6 = .ok (.invokestatic 154, 3) := by decide +kernel
theorem dX9_isEight_9 : decode cX9_isEight 9 = .ok (.ireturn, 1) := by decide +kernel
theorem dX9_menOf_0 : decode cX9_menOf 0 = .ok (.aload_n 0, 1) := by decide +kernel
theorem dX9_menOf_1 : decode cX9_menOf 1 = .ok (.getfield 13, 3) := by decide +kernel
theorem dX9_menOf_4 : decode cX9_menOf 4 = .ok (.bipush 15, 2) := by decide +kernel
theorem dX9_menOf_6 : decode cX9_menOf 6 = .ok (.bipush 8, 2) := by decide +kernel
theorem dX9_menOf_8 : decode cX9_menOf 8 = .ok (.iload_n 1, 1) := by decide +kernel
theorem dX9_menOf_9 : decode cX9_menOf 9 = .ok (.imul, 1) := by decide +kernel
theorem dX9_menOf_10 : decode cX9_menOf 10 = .ok (.iadd, 1) := by decide +kernel
theorem dX9_menOf_11 : decode cX9_menOf 11 = .ok (.iload_n 2, 1) := by decide +kernel
theorem dX9_menOf_12 : decode cX9_menOf 12 = .ok (.iadd, 1) := by decide +kernel
theorem dX9_menOf_13 : decode cX9_menOf 13 = .ok (.iaload, 1) := by decide +kernel
theorem dX9_menOf_14 : decode cX9_menOf 14 = .ok (.ireturn, 1) := by decide +kernel
theorem dX9_allMen_0 : decode cX9_allMen 0 = .ok (.iconst 0, 1) := by decide +kernel
theorem dX9_allMen_1 : decode cX9_allMen 1 = .ok (.istore_n 2, 1) := by decide +kernel
theorem dX9_allMen_2 : decode cX9_allMen 2 = .ok (.iconst 0, 1) := by decide +kernel
theorem dX9_allMen_3 : decode cX9_allMen 3 = .ok (.istore_n 3, 1) := by decide +kernel
theorem dX9_allMen_4 : decode cX9_allMen 4 = .ok (.iload_n 3, 1) := by decide +kernel
theorem dX9_allMen_5 : decode cX9_allMen 5 = .ok (.bipush 8, 2) := by decide +kernel
theorem dX9_allMen_7 : decode cX9_allMen 7 = .ok (.if_icmp .ge 18, 3) := by decide +kernel
theorem dX9_allMen_10 : decode cX9_allMen 10 = .ok (.iload_n 2, 1) := by decide +kernel
theorem dX9_allMen_11 : decode cX9_allMen 11 = .ok (.aload_n 0, 1) := by decide +kernel
theorem dX9_allMen_12 : decode cX9_allMen 12 = .ok (.iload_n 1, 1) := by decide +kernel
theorem dX9_allMen_13 : decode cX9_allMen 13 = .ok (.iload_n 3, 1) := by decide +kernel
theorem dX9_allMen_14 : decode cX9_allMen 14 = .ok (.invokevirtual 163, 3) := by decide +kernel
theorem dX9_allMen_17 : decode cX9_allMen 17 = .ok (.iadd, 1) := by decide +kernel
theorem dX9_allMen_18 : decode cX9_allMen 18 = .ok (.istore_n 2, 1) := by decide +kernel
theorem dX9_allMen_19 : decode cX9_allMen 19 = .ok (.iinc 3 1, 3) := by decide +kernel
theorem dX9_allMen_22 : decode cX9_allMen 22 = .ok (.goto (-18), 3) := by decide +kernel
theorem dX9_allMen_25 : decode cX9_allMen 25 = .ok (.iload_n 2, 1) := by decide +kernel
theorem dX9_allMen_26 : decode cX9_allMen 26 = .ok (.ireturn, 1) := by decide +kernel
theorem dX9_men_0 : decode cX9_men 0 = .ok (.aload_n 0, 1) := by decide +kernel
theorem dX9_men_1 : decode cX9_men 1 = .ok (.iconst 0, 1) := by decide +kernel
theorem dX9_men_2 : decode cX9_men 2 = .ok (.putfield 134, 3) := by decide +kernel
theorem dX9_men_5 : decode cX9_men 5 = .ok (.iload_n 1, 1) := by decide +kernel
theorem dX9_men_6 : decode cX9_men 6 = .ok (.invokestatic 167, 3) := by decide +kernel
theorem dX9_men_9 : decode cX9_men 9 = .ok (.ifCond .eq 22, 3) := by decide +kernel
theorem dX9_men_12 : decode cX9_men 12 = .ok (.iload_n 2, 1) := by decide +kernel
theorem dX9_men_13 : decode cX9_men 13 = .ok (.invokestatic 171, 3) := by decide +kernel
theorem dX9_men_16 : decode cX9_men 16 = .ok (.ifCond .eq 15, 3) := by decide +kernel
theorem dX9_men_19 : decode cX9_men 19 = .ok (.iload_n 3, 1) := by decide +kernel
theorem dX9_men_20 : decode cX9_men 20 = .ok (.i2l, 1) := by decide +kernel
theorem dX9_men_21 : decode cX9_men 21 = .ok (.lconst 0, 1) := by decide +kernel
theorem dX9_men_22 : decode cX9_men 22 = .ok (.ldc2_w 174, 3) := by decide +kernel
theorem dX9_men_25 : decode cX9_men 25 = .ok (.invokestatic 154, 3) := by decide +kernel
theorem dX9_men_28 : decode cX9_men 28 = .ok (.ifCond .ne 9, 3) := by decide +kernel
theorem dX9_men_31 : decode cX9_men 31 = .ok (.aload_n 0, 1) := by decide +kernel
theorem dX9_men_32 : decode cX9_men 32 = .ok (.iconst (-1), 1) := by decide +kernel
theorem dX9_men_33 : decode cX9_men 33 = .ok (.invokevirtual 143, 3) := by decide +kernel
theorem dX9_men_36 : decode cX9_men 36 = .ok (.ireturn, 1) := by decide +kernel
theorem dX9_men_37 : decode cX9_men 37 = .ok (.aload_n 0, 1) := by decide +kernel
theorem dX9_men_38 : decode cX9_men 38 = .ok (.iconst 0, 1) := by decide +kernel
theorem dX9_men_39 : decode cX9_men 39 = .ok (.putfield 140, 3) := by decide +kernel
theorem dX9_men_42 : decode cX9_men 42 = .ok (.aload_n 0, 1) := by decide +kernel
theorem dX9_men_43 : decode cX9_men 43 = .ok (.bipush 15, 2) := by decide +kernel
theorem dX9_men_45 : decode cX9_men 45 = .ok (.bipush 8, 2) := by decide +kernel
theorem dX9_men_47 : decode cX9_men 47 = .ok (.iload_n 1, 1) := by decide +kernel
theorem dX9_men_48 : decode cX9_men 48 = .ok (.imul, 1) := by decide +kernel
theorem dX9_men_49 : decode cX9_men 49 = .ok (.iadd, 1) := by decide +kernel
theorem dX9_men_50 : decode cX9_men 50 = .ok (.iload_n 2, 1) := by decide +kernel
theorem dX9_men_51 : decode cX9_men 51 = .ok (.iadd, 1) := by decide +kernel
theorem dX9_men_52 : decode cX9_men 52 = .ok (.iload_n 3, 1) := by decide +kernel
theorem dX9_men_53 : decode cX9_men 53 = .ok (.invokevirtual 176, 3) := by decide +kernel
theorem dX9_men_56 : decode cX9_men 56 = .ok (.ireturn, 1) := by decide +kernel
theorem dX9_at_0 : decode cX9_at 0 = .ok (.aload_n 0, 1) := by decide +kernel
theorem dX9_at_1 : decode cX9_at 1 = .ok (.iconst 0, 1) := by decide +kernel
theorem dX9_at_2 : decode cX9_at 2 = .ok (.putfield 134, 3) := by decide +kernel
theorem dX9_at_5 : decode cX9_at 5 = .ok (.iload_n 1, 1) := by decide +kernel
theorem dX9_at_6 : decode cX9_at 6 = .ok (.invokestatic 171, 3) := by decide +kernel
theorem dX9_at_9 : decode cX9_at 9 = .ok (.ifCond .ne 7, 3) := by decide +kernel
theorem dX9_at_12 : decode cX9_at 12 = .ok (.sipush (-1000), 3) := by decide +kernel
theorem dX9_at_15 : decode cX9_at 15 = .ok (.ireturn, 1) := by decide +kernel
theorem dX9_at_16 : decode cX9_at 16 = .ok (.iload_n 2, 1) := by decide +kernel
theorem dX9_at_17 : decode cX9_at 17 = .ok (.tableswitch 88 0 6 #[43, 53, 53, 62, 62, 71, 71], 43) := by decide +kernel
theorem dX9_at_60 : decode cX9_at 60 = .ok (.aload_n 0, 1) := by decide +kernel
theorem dX9_at_61 : decode cX9_at 61 = .ok (.getfield 13, 3) := by decide +kernel
theorem dX9_at_64 : decode cX9_at 64 = .ok (.bipush 7, 2) := by decide +kernel
theorem dX9_at_66 : decode cX9_at 66 = .ok (.iload_n 1, 1) := by decide +kernel
theorem dX9_at_67 : decode cX9_at 67 = .ok (.iadd, 1) := by decide +kernel
theorem dX9_at_68 : decode cX9_at 68 = .ok (.iaload, 1) := by decide +kernel
theorem dX9_at_69 : decode cX9_at 69 = .ok (.ireturn, 1) := by decide +kernel
theorem dX9_at_70 : decode cX9_at 70 = .ok (.aload_n 0, 1) := by decide +kernel
theorem dX9_at_71 : decode cX9_at 71 = .ok (.iload_n 2, 1) := by decide +kernel
theorem dX9_at_72 : decode cX9_at 72 = .ok (.iconst 1, 1) := by decide +kernel
theorem dX9_at_73 : decode cX9_at 73 = .ok (.isub, 1) := by decide +kernel
theorem dX9_at_74 : decode cX9_at 74 = .ok (.iload_n 1, 1) := by decide +kernel
theorem dX9_at_75 : decode cX9_at 75 = .ok (.invokevirtual 163, 3) := by decide +kernel
theorem dX9_at_78 : decode cX9_at 78 = .ok (.ireturn, 1) := by decide +kernel
theorem dX9_at_79 : decode cX9_at 79 = .ok (.aload_n 0, 1) := by decide +kernel
theorem dX9_at_80 : decode cX9_at 80 = .ok (.iload_n 2, 1) := by decide +kernel
theorem dX9_at_81 : decode cX9_at 81 = .ok (.iconst 3, 1) := by decide +kernel
theorem dX9_at_82 : decode cX9_at 82 = .ok (.isub, 1) := by decide +kernel
theorem dX9_at_83 : decode cX9_at 83 = .ok (.iload_n 1, 1) := by decide +kernel
theorem dX9_at_84 : decode cX9_at 84 = .ok (.invokevirtual 179, 3) := by decide +kernel
theorem dX9_at_87 : decode cX9_at 87 = .ok (.ireturn, 1) := by decide +kernel
theorem dX9_at_88 : decode cX9_at 88 = .ok (.aload_n 0, 1) := by decide +kernel
theorem dX9_at_89 : decode cX9_at 89 = .ok (.iload_n 2, 1) := by decide +kernel
theorem dX9_at_90 : decode cX9_at 90 = .ok (.iconst 5, 1) := by decide +kernel
theorem dX9_at_91 : decode cX9_at 91 = .ok (.isub, 1) := by decide +kernel
theorem dX9_at_92 : decode cX9_at 92 = .ok (.iload_n 1, 1) := by decide +kernel
theorem dX9_at_93 : decode cX9_at 93 = .ok (.invokevirtual 182, 3) := by decide +kernel
theorem dX9_at_96 : decode cX9_at 96 = .ok (.ifCond .eq 7, 3) := by decide +kernel
theorem dX9_at_99 : decode cX9_at 99 = .ok (.iconst 1, 1) := by decide +kernel
theorem dX9_at_100 : decode cX9_at 100 = .ok (.goto 4, 3) := by decide +kernel
theorem dX9_at_103 : decode cX9_at 103 = .ok (.iconst 0, 1) := by decide +kernel
theorem dX9_at_104 : decode cX9_at 104 = .ok (.ireturn, 1) := by decide +kernel
theorem dX9_at_105 : decode cX9_at 105 = .ok (.sipush (-1000), 3) := by decide +kernel
theorem dX9_at_108 : decode cX9_at 108 = .ok (.ireturn, 1) := by decide +kernel
theorem dX9_of_0 : decode cX9_of 0 = .ok (.aload_n 0, 1) := by decide +kernel
theorem dX9_of_1 : decode cX9_of 1 = .ok (.iconst 0, 1) := by decide +kernel
theorem dX9_of_2 : decode cX9_of 2 = .ok (.putfield 134, 3) := by decide +kernel
theorem dX9_of_5 : decode cX9_of 5 = .ok (.iload_n 1, 1) := by decide +kernel
theorem dX9_of_6 : decode cX9_of 6 = .ok (.invokestatic 167, 3) := by decide +kernel
theorem dX9_of_9 : decode cX9_of 9 = .ok (.ifCond .ne 5, 3) := by decide +kernel
theorem dX9_of_12 : decode cX9_of 12 = .ok (.iconst (-1), 1) := by decide +kernel
theorem dX9_of_13 : decode cX9_of 13 = .ok (.ireturn, 1) := by decide +kernel
theorem dX9_of_14 : decode cX9_of 14 = .ok (.iload_n 2, 1) := by decide +kernel
theorem dX9_of_15 : decode cX9_of 15 = .ok (.tableswitch 61 0 3 #[29, 39, 49, 55], 29) := by decide +kernel
theorem dX9_of_44 : decode cX9_of 44 = .ok (.aload_n 0, 1) := by decide +kernel
theorem dX9_of_45 : decode cX9_of 45 = .ok (.getfield 13, 3) := by decide +kernel
theorem dX9_of_48 : decode cX9_of 48 = .ok (.bipush 31, 2) := by decide +kernel
theorem dX9_of_50 : decode cX9_of 50 = .ok (.iload_n 1, 1) := by decide +kernel
theorem dX9_of_51 : decode cX9_of 51 = .ok (.iadd, 1) := by decide +kernel
theorem dX9_of_52 : decode cX9_of 52 = .ok (.iaload, 1) := by decide +kernel
theorem dX9_of_53 : decode cX9_of 53 = .ok (.ireturn, 1) := by decide +kernel
theorem dX9_of_54 : decode cX9_of 54 = .ok (.aload_n 0, 1) := by decide +kernel
theorem dX9_of_55 : decode cX9_of 55 = .ok (.getfield 13, 3) := by decide +kernel
theorem dX9_of_58 : decode cX9_of 58 = .ok (.bipush 33, 2) := by decide +kernel
theorem dX9_of_60 : decode cX9_of 60 = .ok (.iload_n 1, 1) := by decide +kernel
theorem dX9_of_61 : decode cX9_of 61 = .ok (.iadd, 1) := by decide +kernel
theorem dX9_of_62 : decode cX9_of 62 = .ok (.iaload, 1) := by decide +kernel
theorem dX9_of_63 : decode cX9_of 63 = .ok (.ireturn, 1) := by decide +kernel
theorem dX9_of_64 : decode cX9_of 64 = .ok (.aload_n 0, 1) := by decide +kernel
theorem dX9_of_65 : decode cX9_of 65 = .ok (.iload_n 1, 1) := by decide +kernel
theorem dX9_of_66 : decode cX9_of 66 = .ok (.invokevirtual 186, 3) := by decide +kernel
theorem dX9_of_69 : decode cX9_of 69 = .ok (.ireturn, 1) := by decide +kernel
theorem dX9_of_70 : decode cX9_of 70 = .ok (.aload_n 0, 1) := by decide +kernel
theorem dX9_of_71 : decode cX9_of 71 = .ok (.iload_n 1, 1) := by decide +kernel
theorem dX9_of_72 : decode cX9_of 72 = .ok (.invokevirtual 189, 3) := by decide +kernel
theorem dX9_of_75 : decode cX9_of 75 = .ok (.ireturn, 1) := by decide +kernel
theorem dX9_of_76 : decode cX9_of 76 = .ok (.iconst (-1), 1) := by decide +kernel
theorem dX9_of_77 : decode cX9_of 77 = .ok (.ireturn, 1) := by decide +kernel
theorem dX9_sign_0 : decode cX9_sign 0 = .ok (.aload_n 0, 1) := by decide +kernel
theorem dX9_sign_1 : decode cX9_sign 1 = .ok (.iconst 0, 1) := by decide +kernel
theorem dX9_sign_2 : decode cX9_sign 2 = .ok (.putfield 134, 3) := by decide +kernel
theorem dX9_sign_5 : decode cX9_sign 5 = .ok (.iload_n 3, 1) := by decide +kernel
theorem dX9_sign_6 : decode cX9_sign 6 = .ok (.ifCond .ne 18, 3) := by decide +kernel
theorem dX9_sign_9 : decode cX9_sign 9 = .ok (.iload 4, 2) := by decide +kernel
theorem dX9_sign_11 : decode cX9_sign 11 = .ok (.i2l, 1) := by decide +kernel
theorem dX9_sign_12 : decode cX9_sign 12 = .ok (.ldc2_w 192, 3) := by decide +kernel
theorem dX9_sign_15 : decode cX9_sign 15 = .ok (.ldc2_w 194, 3) := by decide +kernel
theorem dX9_sign_18 : decode cX9_sign 18 = .ok (.invokestatic 154, 3) := by decide +kernel
theorem dX9_sign_21 : decode cX9_sign 21 = .ok (.goto 28, 3) := by decide +kernel
theorem dX9_sign_24 : decode cX9_sign 24 = .ok (.iload_n 3, 1) := by decide +kernel
theorem dX9_sign_25 : decode cX9_sign 25 = .ok (.iconst 1, 1) := by decide +kernel
theorem dX9_sign_26 : decode cX9_sign 26 = .ok (.if_icmp .ne 22, 3) := by decide +kernel
theorem dX9_sign_29 : decode cX9_sign 29 = .ok (.iload 4, 2) := by decide +kernel
theorem dX9_sign_31 : decode cX9_sign 31 = .ok (.i2l, 1) := by decide +kernel
theorem dX9_sign_32 : decode cX9_sign 32 = .ok (.ldc2_w 196, 3) := by decide +kernel
theorem dX9_sign_35 : decode cX9_sign 35 = .ok (.ldc2_w 161, 3) := by decide +kernel
theorem dX9_sign_38 : decode cX9_sign 38 = .ok (.invokestatic 154, 3) := by decide +kernel
theorem dX9_sign_41 : decode cX9_sign 41 = .ok (.ifCond .eq 7, 3) := by decide +kernel
theorem dX9_sign_44 : decode cX9_sign 44 = .ok (.iconst 1, 1) := by decide +kernel
theorem dX9_sign_45 : decode cX9_sign 45 = .ok (.goto 4, 3) := by decide +kernel
theorem dX9_sign_48 : decode cX9_sign 48 = .ok (.iconst 0, 1) := by decide +kernel
theorem dX9_sign_49 : decode cX9_sign 49 = .ok (.istore 5, 2) := by decide +kernel
theorem dX9_sign_51 : decode cX9_sign 51 = .ok (.iload_n 1, 1) := by decide +kernel
theorem dX9_sign_52 : decode cX9_sign 52 = .ok (.invokestatic 171, 3) := by decide +kernel
theorem dX9_sign_55 : decode cX9_sign 55 = .ok (.ifCond .eq 15, 3) := by decide +kernel
theorem dX9_sign_58 : decode cX9_sign 58 = .ok (.iload_n 2, 1) := by decide +kernel
theorem dX9_sign_59 : decode cX9_sign 59 = .ok (.invokestatic 167, 3) := by decide +kernel
theorem dX9_sign_62 : decode cX9_sign 62 = .ok (.ifCond .eq 8, 3) := by decide +kernel
theorem dX9_sign_65 : decode cX9_sign 65 = .ok (.iload 5, 2) := by decide +kernel
theorem dX9_sign_67 : decode cX9_sign 67 = .ok (.ifCond .ne 9, 3) := by decide +kernel
theorem dX9_sign_70 : decode cX9_sign 70 = .ok (.aload_n 0, 1) := by decide +kernel
theorem dX9_sign_71 : decode cX9_sign 71 = .ok (.iconst (-1), 1) := by decide +kernel
theorem dX9_sign_72 : decode cX9_sign 72 = .ok (.invokevirtual 143, 3) := by decide +kernel
theorem dX9_sign_75 : decode cX9_sign 75 = .ok (.ireturn, 1) := by decide +kernel
theorem dX9_sign_76 : decode cX9_sign 76 = .ok (.aload_n 0, 1) := by decide +kernel
theorem dX9_sign_77 : decode cX9_sign 77 = .ok (.getfield 13, 3) := by decide +kernel
theorem dX9_sign_80 : decode cX9_sign 80 = .ok (.iload_n 3, 1) := by decide +kernel
theorem dX9_sign_81 : decode cX9_sign 81 = .ok (.ifCond .ne 8, 3) := by decide +kernel
theorem dX9_sign_84 : decode cX9_sign 84 = .ok (.bipush 35, 2) := by decide +kernel
theorem dX9_sign_86 : decode cX9_sign 86 = .ok (.goto 5, 3) := by decide +kernel
theorem dX9_sign_89 : decode cX9_sign 89 = .ok (.bipush 51, 2) := by decide +kernel
theorem dX9_sign_91 : decode cX9_sign 91 = .ok (.iconst 2, 1) := by decide +kernel
theorem dX9_sign_92 : decode cX9_sign 92 = .ok (.iload_n 1, 1) := by decide +kernel
theorem dX9_sign_93 : decode cX9_sign 93 = .ok (.imul, 1) := by decide +kernel
theorem dX9_sign_94 : decode cX9_sign 94 = .ok (.iadd, 1) := by decide +kernel
theorem dX9_sign_95 : decode cX9_sign 95 = .ok (.iload_n 2, 1) := by decide +kernel
theorem dX9_sign_96 : decode cX9_sign 96 = .ok (.iadd, 1) := by decide +kernel
theorem dX9_sign_97 : decode cX9_sign 97 = .ok (.iload 4, 2) := by decide +kernel
theorem dX9_sign_99 : decode cX9_sign 99 = .ok (.iastore, 1) := by decide +kernel
theorem dX9_sign_100 : decode cX9_sign 100 = .ok (.aload_n 0, 1) := by decide +kernel
theorem dX9_sign_101 : decode cX9_sign 101 = .ok (.iconst 0, 1) := by decide +kernel
theorem dX9_sign_102 : decode cX9_sign 102 = .ok (.invokevirtual 158, 3) := by decide +kernel
theorem dX9_sign_105 : decode cX9_sign 105 = .ok (.ireturn, 1) := by decide +kernel
theorem dX9_reads_0 : decode cX9_reads 0 = .ok (.aload_n 0, 1) := by decide +kernel
theorem dX9_reads_1 : decode cX9_reads 1 = .ok (.iconst 0, 1) := by decide +kernel
theorem dX9_reads_2 : decode cX9_reads 2 = .ok (.putfield 134, 3) := by decide +kernel
theorem dX9_reads_5 : decode cX9_reads 5 = .ok (.iload_n 1, 1) := by decide +kernel
theorem dX9_reads_6 : decode cX9_reads 6 = .ok (.invokestatic 171, 3) := by decide +kernel
theorem dX9_reads_9 : decode cX9_reads 9 = .ok (.ifCond .eq 20, 3) := by decide +kernel
theorem dX9_reads_12 : decode cX9_reads 12 = .ok (.iload_n 2, 1) := by decide +kernel
theorem dX9_reads_13 : decode cX9_reads 13 = .ok (.invokestatic 167, 3) := by decide +kernel
theorem dX9_reads_16 : decode cX9_reads 16 = .ok (.ifCond .eq 13, 3) := by decide +kernel
theorem dX9_reads_19 : decode cX9_reads 19 = .ok (.iload_n 3, 1) := by decide +kernel
theorem dX9_reads_20 : decode cX9_reads 20 = .ok (.i2l, 1) := by decide +kernel
theorem dX9_reads_21 : decode cX9_reads 21 = .ok (.lconst 0, 1) := by decide +kernel
theorem dX9_reads_22 : decode cX9_reads 22 = .ok (.lconst 1, 1) := by decide +kernel
theorem dX9_reads_23 : decode cX9_reads 23 = .ok (.invokestatic 154, 3) := by decide +kernel
theorem dX9_reads_26 : decode cX9_reads 26 = .ok (.ifCond .ne 7, 3) := by decide +kernel
theorem dX9_reads_29 : decode cX9_reads 29 = .ok (.sipush (-1000), 3) := by decide +kernel
theorem dX9_reads_32 : decode cX9_reads 32 = .ok (.ireturn, 1) := by decide +kernel
theorem dX9_reads_33 : decode cX9_reads 33 = .ok (.iload_n 3, 1) := by decide +kernel
theorem dX9_reads_34 : decode cX9_reads 34 = .ok (.ifCond .ne 12, 3) := by decide +kernel
theorem dX9_reads_37 : decode cX9_reads 37 = .ok (.aload_n 0, 1) := by decide +kernel
theorem dX9_reads_38 : decode cX9_reads 38 = .ok (.iload_n 1, 1) := by decide +kernel
theorem dX9_reads_39 : decode cX9_reads 39 = .ok (.iload_n 2, 1) := by decide +kernel
theorem dX9_reads_40 : decode cX9_reads 40 = .ok (.invokevirtual 198, 3) := by decide +kernel
theorem dX9_reads_43 : decode cX9_reads 43 = .ok (.goto 16, 3) := by decide +kernel
theorem dX9_reads_46 : decode cX9_reads 46 = .ok (.aload_n 0, 1) := by decide +kernel
theorem dX9_reads_47 : decode cX9_reads 47 = .ok (.getfield 13, 3) := by decide +kernel
theorem dX9_reads_50 : decode cX9_reads 50 = .ok (.bipush 51, 2) := by decide +kernel
theorem dX9_reads_52 : decode cX9_reads 52 = .ok (.iconst 2, 1) := by decide +kernel
theorem dX9_reads_53 : decode cX9_reads 53 = .ok (.iload_n 1, 1) := by decide +kernel
theorem dX9_reads_54 : decode cX9_reads 54 = .ok (.imul, 1) := by decide +kernel
theorem dX9_reads_55 : decode cX9_reads 55 = .ok (.iadd, 1) := by decide +kernel
theorem dX9_reads_56 : decode cX9_reads 56 = .ok (.iload_n 2, 1) := by decide +kernel
theorem dX9_reads_57 : decode cX9_reads 57 = .ok (.iadd, 1) := by decide +kernel
theorem dX9_reads_58 : decode cX9_reads 58 = .ok (.iaload, 1) := by decide +kernel
theorem dX9_reads_59 : decode cX9_reads 59 = .ok (.ireturn, 1) := by decide +kernel
theorem dX9_word_0 : decode cX9_word 0 = .ok (.aload_n 0, 1) := by decide +kernel
theorem dX9_word_1 : decode cX9_word 1 = .ok (.iconst 0, 1) := by decide +kernel
theorem dX9_word_2 : decode cX9_word 2 = .ok (.putfield 134, 3) := by decide +kernel
theorem dX9_word_5 : decode cX9_word 5 = .ok (.iload_n 3, 1) := by decide +kernel
theorem dX9_word_6 : decode cX9_word 6 = .ok (.ifCond .ne 18, 3) := by decide +kernel
theorem dX9_word_9 : decode cX9_word 9 = .ok (.iload 4, 2) := by decide +kernel
theorem dX9_word_11 : decode cX9_word 11 = .ok (.i2l, 1) := by decide +kernel
theorem dX9_word_12 : decode cX9_word 12 = .ok (.ldc2_w 201, 3) := by decide +kernel
theorem dX9_word_15 : decode cX9_word 15 = .ok (.ldc2_w 203, 3) := by decide +kernel
theorem dX9_word_18 : decode cX9_word 18 = .ok (.invokestatic 154, 3) := by decide +kernel
theorem dX9_word_21 : decode cX9_word 21 = .ok (.goto 26, 3) := by decide +kernel
theorem dX9_word_24 : decode cX9_word 24 = .ok (.iload_n 3, 1) := by decide +kernel
theorem dX9_word_25 : decode cX9_word 25 = .ok (.iconst 1, 1) := by decide +kernel
theorem dX9_word_26 : decode cX9_word 26 = .ok (.if_icmp .ne 20, 3) := by decide +kernel
theorem dX9_word_29 : decode cX9_word 29 = .ok (.iload 4, 2) := by decide +kernel
theorem dX9_word_31 : decode cX9_word 31 = .ok (.i2l, 1) := by decide +kernel
theorem dX9_word_32 : decode cX9_word 32 = .ok (.lconst 0, 1) := by decide +kernel
theorem dX9_word_33 : decode cX9_word 33 = .ok (.ldc2_w 205, 3) := by decide +kernel
theorem dX9_word_36 : decode cX9_word 36 = .ok (.invokestatic 154, 3) := by decide +kernel
theorem dX9_word_39 : decode cX9_word 39 = .ok (.ifCond .eq 7, 3) := by decide +kernel
theorem dX9_word_42 : decode cX9_word 42 = .ok (.iconst 1, 1) := by decide +kernel
theorem dX9_word_43 : decode cX9_word 43 = .ok (.goto 4, 3) := by decide +kernel
theorem dX9_word_46 : decode cX9_word 46 = .ok (.iconst 0, 1) := by decide +kernel
theorem dX9_word_47 : decode cX9_word 47 = .ok (.istore 5, 2) := by decide +kernel
theorem dX9_word_49 : decode cX9_word 49 = .ok (.iload_n 1, 1) := by decide +kernel
theorem dX9_word_50 : decode cX9_word 50 = .ok (.invokestatic 171, 3) := by decide +kernel
theorem dX9_word_53 : decode cX9_word 53 = .ok (.ifCond .eq 15, 3) := by decide +kernel
theorem dX9_word_56 : decode cX9_word 56 = .ok (.iload_n 2, 1) := by decide +kernel
theorem dX9_word_57 : decode cX9_word 57 = .ok (.invokestatic 167, 3) := by decide +kernel
theorem dX9_word_60 : decode cX9_word 60 = .ok (.ifCond .eq 8, 3) := by decide +kernel
theorem dX9_word_63 : decode cX9_word 63 = .ok (.iload 5, 2) := by decide +kernel
theorem dX9_word_65 : decode cX9_word 65 = .ok (.ifCond .ne 9, 3) := by decide +kernel
theorem dX9_word_68 : decode cX9_word 68 = .ok (.aload_n 0, 1) := by decide +kernel
theorem dX9_word_69 : decode cX9_word 69 = .ok (.iconst (-1), 1) := by decide +kernel
theorem dX9_word_70 : decode cX9_word 70 = .ok (.invokevirtual 143, 3) := by decide +kernel
theorem dX9_word_73 : decode cX9_word 73 = .ok (.ireturn, 1) := by decide +kernel
theorem dX9_word_74 : decode cX9_word 74 = .ok (.aload_n 0, 1) := by decide +kernel
theorem dX9_word_75 : decode cX9_word 75 = .ok (.getfield 13, 3) := by decide +kernel
theorem dX9_word_78 : decode cX9_word 78 = .ok (.iload_n 3, 1) := by decide +kernel
theorem dX9_word_79 : decode cX9_word 79 = .ok (.ifCond .ne 8, 3) := by decide +kernel
theorem dX9_word_82 : decode cX9_word 82 = .ok (.bipush 67, 2) := by decide +kernel
theorem dX9_word_84 : decode cX9_word 84 = .ok (.goto 5, 3) := by decide +kernel
theorem dX9_word_87 : decode cX9_word 87 = .ok (.bipush 83, 2) := by decide +kernel
theorem dX9_word_89 : decode cX9_word 89 = .ok (.iconst 2, 1) := by decide +kernel
theorem dX9_word_90 : decode cX9_word 90 = .ok (.iload_n 1, 1) := by decide +kernel
theorem dX9_word_91 : decode cX9_word 91 = .ok (.imul, 1) := by decide +kernel
theorem dX9_word_92 : decode cX9_word 92 = .ok (.iadd, 1) := by decide +kernel
theorem dX9_word_93 : decode cX9_word 93 = .ok (.iload_n 2, 1) := by decide +kernel
theorem dX9_word_94 : decode cX9_word 94 = .ok (.iadd, 1) := by decide +kernel
theorem dX9_word_95 : decode cX9_word 95 = .ok (.iload 4, 2) := by decide +kernel
theorem dX9_word_97 : decode cX9_word 97 = .ok (.iastore, 1) := by decide +kernel
theorem dX9_word_98 : decode cX9_word 98 = .ok (.aload_n 0, 1) := by decide +kernel
theorem dX9_word_99 : decode cX9_word 99 = .ok (.iconst 0, 1) := by decide +kernel
theorem dX9_word_100 : decode cX9_word 100 = .ok (.invokevirtual 143, 3) := by decide +kernel
theorem dX9_word_103 : decode cX9_word 103 = .ok (.ireturn, 1) := by decide +kernel
theorem dX9_terms_0 : decode cX9_terms 0 = .ok (.aload_n 0, 1) := by decide +kernel
theorem dX9_terms_1 : decode cX9_terms 1 = .ok (.iconst 0, 1) := by decide +kernel
theorem dX9_terms_2 : decode cX9_terms 2 = .ok (.putfield 134, 3) := by decide +kernel
theorem dX9_terms_5 : decode cX9_terms 5 = .ok (.iload_n 1, 1) := by decide +kernel
theorem dX9_terms_6 : decode cX9_terms 6 = .ok (.ifCond .ne 15, 3) := by decide +kernel
theorem dX9_terms_9 : decode cX9_terms 9 = .ok (.iload_n 2, 1) := by decide +kernel
theorem dX9_terms_10 : decode cX9_terms 10 = .ok (.i2l, 1) := by decide +kernel
theorem dX9_terms_11 : decode cX9_terms 11 = .ok (.lconst 0, 1) := by decide +kernel
theorem dX9_terms_12 : decode cX9_terms 12 = .ok (.ldc2_w 207, 3) := by decide +kernel
theorem dX9_terms_15 : decode cX9_terms 15 = .ok (.invokestatic 154, 3) := by decide +kernel
theorem dX9_terms_18 : decode cX9_terms 18 = .ok (.goto 42, 3) := by decide +kernel
theorem dX9_terms_21 : decode cX9_terms 21 = .ok (.iload_n 1, 1) := by decide +kernel
theorem dX9_terms_22 : decode cX9_terms 22 = .ok (.iconst 1, 1) := by decide +kernel
theorem dX9_terms_23 : decode cX9_terms 23 = .ok (.if_icmp .ne 15, 3) := by decide +kernel
theorem dX9_terms_26 : decode cX9_terms 26 = .ok (.iload_n 2, 1) := by decide +kernel
theorem dX9_terms_27 : decode cX9_terms 27 = .ok (.i2l, 1) := by decide +kernel
theorem dX9_terms_28 : decode cX9_terms 28 = .ok (.lconst 1, 1) := by decide +kernel
theorem dX9_terms_29 : decode cX9_terms 29 = .ok (.ldc2_w 209, 3) := by decide +kernel
theorem dX9_terms_32 : decode cX9_terms 32 = .ok (.invokestatic 154, 3) := by decide +kernel
theorem dX9_terms_35 : decode cX9_terms 35 = .ok (.goto 25, 3) := by decide +kernel
theorem dX9_terms_38 : decode cX9_terms 38 = .ok (.iload_n 1, 1) := by decide +kernel
theorem dX9_terms_39 : decode cX9_terms 39 = .ok (.iconst 2, 1) := by decide +kernel
theorem dX9_terms_40 : decode cX9_terms 40 = .ok (.if_icmp .ne 19, 3) := by decide +kernel
theorem dX9_terms_43 : decode cX9_terms 43 = .ok (.iload_n 2, 1) := by decide +kernel
theorem dX9_terms_44 : decode cX9_terms 44 = .ok (.i2l, 1) := by decide +kernel
theorem dX9_terms_45 : decode cX9_terms 45 = .ok (.lconst 0, 1) := by decide +kernel
theorem dX9_terms_46 : decode cX9_terms 46 = .ok (.ldc2_w 203, 3) := by decide +kernel
theorem dX9_terms_49 : decode cX9_terms 49 = .ok (.invokestatic 154, 3) := by decide +kernel
theorem dX9_terms_52 : decode cX9_terms 52 = .ok (.ifCond .eq 7, 3) := by decide +kernel
theorem dX9_terms_55 : decode cX9_terms 55 = .ok (.iconst 1, 1) := by decide +kernel
theorem dX9_terms_56 : decode cX9_terms 56 = .ok (.goto 4, 3) := by decide +kernel
theorem dX9_terms_59 : decode cX9_terms 59 = .ok (.iconst 0, 1) := by decide +kernel
theorem dX9_terms_60 : decode cX9_terms 60 = .ok (.istore_n 3, 1) := by decide +kernel
theorem dX9_terms_61 : decode cX9_terms 61 = .ok (.iload_n 3, 1) := by decide +kernel
theorem dX9_terms_62 : decode cX9_terms 62 = .ok (.ifCond .ne 9, 3) := by decide +kernel
theorem dX9_terms_65 : decode cX9_terms 65 = .ok (.aload_n 0, 1) := by decide +kernel
theorem dX9_terms_66 : decode cX9_terms 66 = .ok (.iconst (-1), 1) := by decide +kernel
theorem dX9_terms_67 : decode cX9_terms 67 = .ok (.invokevirtual 143, 3) := by decide +kernel
theorem dX9_terms_70 : decode cX9_terms 70 = .ok (.ireturn, 1) := by decide +kernel
theorem dX9_terms_71 : decode cX9_terms 71 = .ok (.aload_n 0, 1) := by decide +kernel
theorem dX9_terms_72 : decode cX9_terms 72 = .ok (.iconst 0, 1) := by decide +kernel
theorem dX9_terms_73 : decode cX9_terms 73 = .ok (.putfield 140, 3) := by decide +kernel
theorem dX9_terms_76 : decode cX9_terms 76 = .ok (.aload_n 0, 1) := by decide +kernel
theorem dX9_terms_77 : decode cX9_terms 77 = .ok (.iconst 4, 1) := by decide +kernel
theorem dX9_terms_78 : decode cX9_terms 78 = .ok (.iload_n 1, 1) := by decide +kernel
theorem dX9_terms_79 : decode cX9_terms 79 = .ok (.iadd, 1) := by decide +kernel
theorem dX9_terms_80 : decode cX9_terms 80 = .ok (.iload_n 2, 1) := by decide +kernel
theorem dX9_terms_81 : decode cX9_terms 81 = .ok (.invokevirtual 176, 3) := by decide +kernel
theorem dX9_terms_84 : decode cX9_terms 84 = .ok (.ireturn, 1) := by decide +kernel
theorem dX9_row_0 : decode cX9_row 0 = .ok (.aload_n 0, 1) := by decide +kernel
theorem dX9_row_1 : decode cX9_row 1 = .ok (.iconst 0, 1) := by decide +kernel
theorem dX9_row_2 : decode cX9_row 2 = .ok (.putfield 134, 3) := by decide +kernel
theorem dX9_row_5 : decode cX9_row 5 = .ok (.aload_n 0, 1) := by decide +kernel
theorem dX9_row_6 : decode cX9_row 6 = .ok (.getfield 211, 3) := by decide +kernel
theorem dX9_row_9 : decode cX9_row 9 = .ok (.istore_n 1, 1) := by decide +kernel
theorem dX9_row_10 : decode cX9_row 10 = .ok (.aload_n 0, 1) := by decide +kernel
theorem dX9_row_11 : decode cX9_row 11 = .ok (.iconst 0, 1) := by decide +kernel
theorem dX9_row_12 : decode cX9_row 12 = .ok (.putfield 211, 3) := by decide +kernel
theorem dX9_row_15 : decode cX9_row 15 = .ok (.iload_n 1, 1) := by decide +kernel
theorem dX9_row_16 : decode cX9_row 16 = .ok (.ifCond .ne 10, 3) := by decide +kernel
theorem dX9_row_19 : decode cX9_row 19 = .ok (.aload_n 0, 1) := by decide +kernel
theorem dX9_row_20 : decode cX9_row 20 = .ok (.bipush (-6), 2) := by decide +kernel
theorem dX9_row_22 : decode cX9_row 22 = .ok (.invokevirtual 143, 3) := by decide +kernel
theorem dX9_row_25 : decode cX9_row 25 = .ok (.ireturn, 1) := by decide +kernel
theorem dX9_row_26 : decode cX9_row 26 = .ok (.aload_n 0, 1) := by decide +kernel
theorem dX9_row_27 : decode cX9_row 27 = .ok (.iconst 0, 1) := by decide +kernel
theorem dX9_row_28 : decode cX9_row 28 = .ok (.putfield 214, 3) := by decide +kernel
theorem dX9_row_31 : decode cX9_row 31 = .ok (.iconst 0, 1) := by decide +kernel
theorem dX9_row_32 : decode cX9_row 32 = .ok (.istore_n 2, 1) := by decide +kernel
theorem dX9_row_33 : decode cX9_row 33 = .ok (.iconst 0, 1) := by decide +kernel
theorem dX9_row_34 : decode cX9_row 34 = .ok (.istore_n 3, 1) := by decide +kernel
theorem dX9_row_35 : decode cX9_row 35 = .ok (.iload_n 3, 1) := by decide +kernel
theorem dX9_row_36 : decode cX9_row 36 = .ok (.iload_n 1, 1) := by decide +kernel
theorem dX9_row_37 : decode cX9_row 37 = .ok (.if_icmp .ge 111, 3) := by decide +kernel
theorem dX9_row_40 : decode cX9_row 40 = .ok (.iload_n 3, 1) := by decide +kernel
theorem dX9_row_41 : decode cX9_row 41 = .ok (.iconst 2, 1) := by decide +kernel
theorem dX9_row_42 : decode cX9_row 42 = .ok (.iadd, 1) := by decide +kernel
theorem dX9_row_43 : decode cX9_row 43 = .ok (.iload_n 1, 1) := by decide +kernel
theorem dX9_row_44 : decode cX9_row 44 = .ok (.if_icmp .ge 88, 3) := by decide +kernel
theorem dX9_row_47 : decode cX9_row 47 = .ok (.aload_n 0, 1) := by decide +kernel
theorem dX9_row_48 : decode cX9_row 48 = .ok (.getfield 35, 3) := by decide +kernel
theorem dX9_row_51 : decode cX9_row 51 = .ok (.iload_n 3, 1) := by decide +kernel
theorem dX9_row_52 : decode cX9_row 52 = .ok (.iaload, 1) := by decide +kernel
theorem dX9_row_53 : decode cX9_row 53 = .ok (.invokestatic 167, 3) := by decide +kernel
theorem dX9_row_56 : decode cX9_row 56 = .ok (.ifCond .eq 76, 3) := by decide +kernel
theorem dX9_row_59 : decode cX9_row 59 = .ok (.aload_n 0, 1) := by decide +kernel
theorem dX9_row_60 : decode cX9_row 60 = .ok (.getfield 35, 3) := by decide +kernel
theorem dX9_row_63 : decode cX9_row 63 = .ok (.iload_n 3, 1) := by decide +kernel
theorem dX9_row_64 : decode cX9_row 64 = .ok (.iconst 1, 1) := by decide +kernel
theorem dX9_row_65 : decode cX9_row 65 = .ok (.iadd, 1) := by decide +kernel
theorem dX9_row_66 : decode cX9_row 66 = .ok (.iaload, 1) := by decide +kernel
theorem dX9_row_67 : decode cX9_row 67 = .ok (.invokestatic 171, 3) := by decide +kernel
theorem dX9_row_70 : decode cX9_row 70 = .ok (.ifCond .eq 62, 3) := by decide +kernel
theorem dX9_row_73 : decode cX9_row 73 = .ok (.aload_n 0, 1) := by decide +kernel
theorem dX9_row_74 : decode cX9_row 74 = .ok (.getfield 35, 3) := by decide +kernel
theorem dX9_row_77 : decode cX9_row 77 = .ok (.iload_n 3, 1) := by decide +kernel
theorem dX9_row_78 : decode cX9_row 78 = .ok (.iconst 2, 1) := by decide +kernel
theorem dX9_row_79 : decode cX9_row 79 = .ok (.iadd, 1) := by decide +kernel
theorem dX9_row_80 : decode cX9_row 80 = .ok (.iaload, 1) := by decide +kernel
theorem dX9_row_81 : decode cX9_row 81 = .ok (.i2l, 1) := by decide +kernel
theorem dX9_row_82 : decode cX9_row 82 = .ok (.lconst 0, 1) := by decide +kernel
theorem dX9_row_83 : decode cX9_row 83 = .ok (.ldc2_w 174, 3) := by decide +kernel
theorem dX9_row_86 : decode cX9_row 86 = .ok (.invokestatic 154, 3) := by decide +kernel
theorem dX9_row_89 : decode cX9_row 89 = .ok (.ifCond .eq 43, 3) := by decide +kernel
theorem dX9_row_92 : decode cX9_row 92 = .ok (.aload_n 0, 1) := by decide +kernel
theorem dX9_row_93 : decode cX9_row 93 = .ok (.getfield 13, 3) := by decide +kernel
theorem dX9_row_96 : decode cX9_row 96 = .ok (.bipush 15, 2) := by decide +kernel
theorem dX9_row_98 : decode cX9_row 98 = .ok (.bipush 8, 2) := by decide +kernel
theorem dX9_row_100 : decode cX9_row 100 = .ok (.aload_n 0, 1) := by decide +kernel
theorem dX9_row_101 : decode cX9_row 101 = .ok (.getfield 35, 3) := by decide +kernel
theorem dX9_row_104 : decode cX9_row 104 = .ok (.iload_n 3, 1) := by decide +kernel
theorem dX9_row_105 : decode cX9_row 105 = .ok (.iaload, 1) := by decide +kernel
theorem dX9_row_106 : decode cX9_row 106 = .ok (.imul, 1) := by decide +kernel
theorem dX9_row_107 : decode cX9_row 107 = .ok (.iadd, 1) := by decide +kernel
theorem dX9_row_108 : decode cX9_row 108 = .ok (.aload_n 0, 1) := by decide +kernel
theorem dX9_row_109 : decode cX9_row 109 = .ok (.getfield 35, 3) := by decide +kernel
theorem dX9_row_112 : decode cX9_row 112 = .ok (.iload_n 3, 1) := by decide +kernel
theorem dX9_row_113 : decode cX9_row 113 = .ok (.iconst 1, 1) := by decide +kernel
theorem dX9_row_114 : decode cX9_row 114 = .ok (.iadd, 1) := by decide +kernel
theorem dX9_row_115 : decode cX9_row 115 = .ok (.iaload, 1) := by decide +kernel
theorem dX9_row_116 : decode cX9_row 116 = .ok (.iadd, 1) := by decide +kernel
theorem dX9_row_117 : decode cX9_row 117 = .ok (.aload_n 0, 1) := by decide +kernel
theorem dX9_row_118 : decode cX9_row 118 = .ok (.getfield 35, 3) := by decide +kernel
theorem dX9_row_121 : decode cX9_row 121 = .ok (.iload_n 3, 1) := by decide +kernel
theorem dX9_row_122 : decode cX9_row 122 = .ok (.iconst 2, 1) := by decide +kernel
theorem dX9_row_123 : decode cX9_row 123 = .ok (.iadd, 1) := by decide +kernel
theorem dX9_row_124 : decode cX9_row 124 = .ok (.iaload, 1) := by decide +kernel
theorem dX9_row_125 : decode cX9_row 125 = .ok (.iastore, 1) := by decide +kernel
theorem dX9_row_126 : decode cX9_row 126 = .ok (.iinc 2 1, 3) := by decide +kernel
theorem dX9_row_129 : decode cX9_row 129 = .ok (.goto 13, 3) := by decide +kernel
theorem dX9_row_132 : decode cX9_row 132 = .ok (.aload_n 0, 1) := by decide +kernel
theorem dX9_row_133 : decode cX9_row 133 = .ok (.dup, 1) := by decide +kernel
theorem dX9_row_134 : decode cX9_row 134 = .ok (.getfield 214, 3) := by decide +kernel
theorem dX9_row_137 : decode cX9_row 137 = .ok (.iconst 1, 1) := by decide +kernel
theorem dX9_row_138 : decode cX9_row 138 = .ok (.iadd, 1) := by decide +kernel
theorem dX9_row_139 : decode cX9_row 139 = .ok (.putfield 214, 3) := by decide +kernel
theorem dX9_row_142 : decode cX9_row 142 = .ok (.iinc 3 3, 3) := by decide +kernel
theorem dX9_row_145 : decode cX9_row 145 = .ok (.goto (-110), 3) := by decide +kernel
theorem dX9_row_148 : decode cX9_row 148 = .ok (.aload_n 0, 1) := by decide +kernel
theorem dX9_row_149 : decode cX9_row 149 = .ok (.iload_n 2, 1) := by decide +kernel
theorem dX9_row_150 : decode cX9_row 150 = .ok (.invokevirtual 158, 3) := by decide +kernel
theorem dX9_row_153 : decode cX9_row 153 = .ok (.ireturn, 1) := by decide +kernel
theorem dX9_strokes_0 : decode cX9_strokes 0 = .ok (.aload_n 0, 1) := by decide +kernel
theorem dX9_strokes_1 : decode cX9_strokes 1 = .ok (.iconst 0, 1) := by decide +kernel
theorem dX9_strokes_2 : decode cX9_strokes 2 = .ok (.putfield 134, 3) := by decide +kernel
theorem dX9_strokes_5 : decode cX9_strokes 5 = .ok (.aload_n 0, 1) := by decide +kernel
theorem dX9_strokes_6 : decode cX9_strokes 6 = .ok (.getfield 214, 3) := by decide +kernel
theorem dX9_strokes_9 : decode cX9_strokes 9 = .ok (.ireturn, 1) := by decide +kernel
theorem dX9_four_0 : decode cX9_four 0 = .ok (.bipush 24, 2) := by decide +kernel
theorem dX9_four_2 : decode cX9_four 2 = .ok (.istore_n 2, 1) := by decide +kernel
theorem dX9_four_3 : decode cX9_four 3 = .ok (.iload_n 2, 1) := by decide +kernel
theorem dX9_four_4 : decode cX9_four 4 = .ok (.ifCond .lt 35, 3) := by decide +kernel
theorem dX9_four_7 : decode cX9_four 7 = .ok (.aload_n 0, 1) := by decide +kernel
theorem dX9_four_8 : decode cX9_four 8 = .ok (.getfield 35, 3) := by decide +kernel
theorem dX9_four_11 : decode cX9_four 11 = .ok (.aload_n 0, 1) := by decide +kernel
theorem dX9_four_12 : decode cX9_four 12 = .ok (.getfield 211, 3) := by decide +kernel
theorem dX9_four_15 : decode cX9_four 15 = .ok (.iload_n 1, 1) := by decide +kernel
theorem dX9_four_16 : decode cX9_four 16 = .ok (.iload_n 2, 1) := by decide +kernel
theorem dX9_four_17 : decode cX9_four 17 = .ok (.ishr, 1) := by decide +kernel
theorem dX9_four_18 : decode cX9_four 18 = .ok (.sipush 255, 3) := by decide +kernel
theorem dX9_four_21 : decode cX9_four 21 = .ok (.iand, 1) := by decide +kernel
theorem dX9_four_22 : decode cX9_four 22 = .ok (.iastore, 1) := by decide +kernel
theorem dX9_four_23 : decode cX9_four 23 = .ok (.aload_n 0, 1) := by decide +kernel
theorem dX9_four_24 : decode cX9_four 24 = .ok (.dup, 1) := by decide +kernel
theorem dX9_four_25 : decode cX9_four 25 = .ok (.getfield 211, 3) := by decide +kernel
theorem dX9_four_28 : decode cX9_four 28 = .ok (.iconst 1, 1) := by decide +kernel
theorem dX9_four_29 : decode cX9_four 29 = .ok (.iadd, 1) := by decide +kernel
theorem dX9_four_30 : decode cX9_four 30 = .ok (.putfield 211, 3) := by decide +kernel
theorem dX9_four_33 : decode cX9_four 33 = .ok (.iinc 2 (-8), 3) := by decide +kernel
theorem dX9_four_36 : decode cX9_four 36 = .ok (.goto (-33), 3) := by decide +kernel
theorem dX9_four_39 : decode cX9_four 39 = .ok (.return_, 1) := by decide +kernel
theorem dX9_feed_0 : decode cX9_feed 0 = .ok (.aload_n 0, 1) := by decide +kernel
theorem dX9_feed_1 : decode cX9_feed 1 = .ok (.iconst 0, 1) := by decide +kernel
theorem dX9_feed_2 : decode cX9_feed 2 = .ok (.putfield 134, 3) := by decide +kernel
theorem dX9_feed_5 : decode cX9_feed 5 = .ok (.aload_n 0, 1) := by decide +kernel
theorem dX9_feed_6 : decode cX9_feed 6 = .ok (.getfield 211, 3) := by decide +kernel
theorem dX9_feed_9 : decode cX9_feed 9 = .ok (.bipush 20, 2) := by decide +kernel
theorem dX9_feed_11 : decode cX9_feed 11 = .ok (.iadd, 1) := by decide +kernel
theorem dX9_feed_12 : decode cX9_feed 12 = .ok (.sipush 400, 3) := by decide +kernel
theorem dX9_feed_15 : decode cX9_feed 15 = .ok (.if_icmp .le 5, 3) := by decide +kernel
theorem dX9_feed_18 : decode cX9_feed 18 = .ok (.iconst (-1), 1) := by decide +kernel
theorem dX9_feed_19 : decode cX9_feed 19 = .ok (.ireturn, 1) := by decide +kernel
theorem dX9_feed_20 : decode cX9_feed 20 = .ok (.aload_n 0, 1) := by decide +kernel
theorem dX9_feed_21 : decode cX9_feed 21 = .ok (.iload_n 1, 1) := by decide +kernel
theorem dX9_feed_22 : decode cX9_feed 22 = .ok (.invokevirtual 217, 3) := by decide +kernel
theorem dX9_feed_25 : decode cX9_feed 25 = .ok (.aload_n 0, 1) := by decide +kernel
theorem dX9_feed_26 : decode cX9_feed 26 = .ok (.iload_n 2, 1) := by decide +kernel
theorem dX9_feed_27 : decode cX9_feed 27 = .ok (.invokevirtual 217, 3) := by decide +kernel
theorem dX9_feed_30 : decode cX9_feed 30 = .ok (.aload_n 0, 1) := by decide +kernel
theorem dX9_feed_31 : decode cX9_feed 31 = .ok (.iload_n 3, 1) := by decide +kernel
theorem dX9_feed_32 : decode cX9_feed 32 = .ok (.invokevirtual 217, 3) := by decide +kernel
theorem dX9_feed_35 : decode cX9_feed 35 = .ok (.aload_n 0, 1) := by decide +kernel
theorem dX9_feed_36 : decode cX9_feed 36 = .ok (.iload 4, 2) := by decide +kernel
theorem dX9_feed_38 : decode cX9_feed 38 = .ok (.invokevirtual 217, 3) := by decide +kernel
theorem dX9_feed_41 : decode cX9_feed 41 = .ok (.aload_n 0, 1) := by decide +kernel
theorem dX9_feed_42 : decode cX9_feed 42 = .ok (.iload 5, 2) := by decide +kernel
theorem dX9_feed_44 : decode cX9_feed 44 = .ok (.invokevirtual 217, 3) := by decide +kernel
theorem dX9_feed_47 : decode cX9_feed 47 = .ok (.aload_n 0, 1) := by decide +kernel
theorem dX9_feed_48 : decode cX9_feed 48 = .ok (.getfield 211, 3) := by decide +kernel
theorem dX9_feed_51 : decode cX9_feed 51 = .ok (.ireturn, 1) := by decide +kernel
theorem dX9_end_0 : decode cX9_end 0 = .ok (.aload_n 0, 1) := by decide +kernel
theorem dX9_end_1 : decode cX9_end 1 = .ok (.iconst 0, 1) := by decide +kernel
theorem dX9_end_2 : decode cX9_end 2 = .ok (.putfield 134, 3) := by decide +kernel
theorem dX9_end_5 : decode cX9_end 5 = .ok (.iload_n 1, 1) := by decide +kernel
theorem dX9_end_6 : decode cX9_end 6 = .ok (.ifCond .lt 11, 3) := by decide +kernel
theorem dX9_end_9 : decode cX9_end 9 = .ok (.iload_n 1, 1) := by decide +kernel
theorem dX9_end_10 : decode cX9_end 10 = .ok (.aload_n 0, 1) := by decide +kernel
theorem dX9_end_11 : decode cX9_end 11 = .ok (.getfield 211, 3) := by decide +kernel
theorem dX9_end_14 : decode cX9_end 14 = .ok (.if_icmp .le 5, 3) := by decide +kernel
theorem dX9_end_17 : decode cX9_end 17 = .ok (.iconst (-1), 1) := by decide +kernel
theorem dX9_end_18 : decode cX9_end 18 = .ok (.ireturn, 1) := by decide +kernel
theorem dX9_end_19 : decode cX9_end 19 = .ok (.aload_n 0, 1) := by decide +kernel
theorem dX9_end_20 : decode cX9_end 20 = .ok (.iload_n 1, 1) := by decide +kernel
theorem dX9_end_21 : decode cX9_end 21 = .ok (.putfield 211, 3) := by decide +kernel
theorem dX9_end_24 : decode cX9_end 24 = .ok (.iload_n 1, 1) := by decide +kernel
theorem dX9_end_25 : decode cX9_end 25 = .ok (.ireturn, 1) := by decide +kernel
theorem dX9_isSmall_0 : decode cX9_isSmall 0 = .ok (.iload_n 0, 1) := by decide +kernel
theorem dX9_isSmall_1 : decode cX9_isSmall 1 = .ok (.bipush 97, 2) := by decide +kernel
theorem dX9_isSmall_3 : decode cX9_isSmall 3 = .ok (.if_icmp .lt 13, 3) := by decide +kernel
theorem dX9_isSmall_6 : decode cX9_isSmall 6 = .ok (.iload_n 0, 1) := by decide +kernel
theorem dX9_isSmall_7 : decode cX9_isSmall 7 = .ok (.bipush 122, 2) := by decide +kernel
theorem dX9_isSmall_9 : decode cX9_isSmall 9 = .ok (.if_icmp .gt 7, 3) := by decide +kernel
theorem dX9_isSmall_12 : decode cX9_isSmall 12 = .ok (.iconst 1, 1) := by decide +kernel
theorem dX9_isSmall_13 : decode cX9_isSmall 13 = .ok (.goto 4, 3) := by decide +kernel
theorem dX9_isSmall_16 : decode cX9_isSmall 16 = .ok (.iconst 0, 1) := by decide +kernel
theorem dX9_isSmall_17 : decode cX9_isSmall 17 = .ok (.ireturn, 1) := by decide +kernel
theorem dX9_isDigit_0 : decode cX9_isDigit 0 = .ok (.iload_n 0, 1) := by decide +kernel
theorem dX9_isDigit_1 : decode cX9_isDigit 1 = .ok (.bipush 48, 2) := by decide +kernel
theorem dX9_isDigit_3 : decode cX9_isDigit 3 = .ok (.if_icmp .lt 13, 3) := by decide +kernel
theorem dX9_isDigit_6 : decode cX9_isDigit 6 = .ok (.iload_n 0, 1) := by decide +kernel
theorem dX9_isDigit_7 : decode cX9_isDigit 7 = .ok (.bipush 57, 2) := by decide +kernel
theorem dX9_isDigit_9 : decode cX9_isDigit 9 = .ok (.if_icmp .gt 7, 3) := by decide +kernel
theorem dX9_isDigit_12 : decode cX9_isDigit 12 = .ok (.iconst 1, 1) := by decide +kernel
theorem dX9_isDigit_13 : decode cX9_isDigit 13 = .ok (.goto 4, 3) := by decide +kernel
theorem dX9_isDigit_16 : decode cX9_isDigit 16 = .ok (.iconst 0, 1) := by decide +kernel
theorem dX9_isDigit_17 : decode cX9_isDigit 17 = .ok (.ireturn, 1) := by decide +kernel
theorem dX9_begin_0 : decode cX9_begin 0 = .ok (.aload_n 0, 1) := by decide +kernel
theorem dX9_begin_1 : decode cX9_begin 1 = .ok (.iconst 0, 1) := by decide +kernel
theorem dX9_begin_2 : decode cX9_begin 2 = .ok (.putfield 220, 3) := by decide +kernel
theorem dX9_begin_5 : decode cX9_begin 5 = .ok (.aload_n 0, 1) := by decide +kernel
theorem dX9_begin_6 : decode cX9_begin 6 = .ok (.iconst 0, 1) := by decide +kernel
theorem dX9_begin_7 : decode cX9_begin 7 = .ok (.putfield 223, 3) := by decide +kernel
theorem dX9_begin_10 : decode cX9_begin 10 = .ok (.aload_n 0, 1) := by decide +kernel
theorem dX9_begin_11 : decode cX9_begin 11 = .ok (.iconst (-1), 1) := by decide +kernel
theorem dX9_begin_12 : decode cX9_begin 12 = .ok (.putfield 38, 3) := by decide +kernel
theorem dX9_begin_15 : decode cX9_begin 15 = .ok (.aload_n 0, 1) := by decide +kernel
theorem dX9_begin_16 : decode cX9_begin 16 = .ok (.invokevirtual 227, 3) := by decide +kernel
theorem dX9_begin_19 : decode cX9_begin 19 = .ok (.return_, 1) := by decide +kernel
theorem dX9_next_0 : decode cX9_next 0 = .ok (.aload_n 0, 1) := by decide +kernel
theorem dX9_next_1 : decode cX9_next 1 = .ok (.aload_n 0, 1) := by decide +kernel
theorem dX9_next_2 : decode cX9_next 2 = .ok (.getfield 220, 3) := by decide +kernel
theorem dX9_next_5 : decode cX9_next 5 = .ok (.putfield 230, 3) := by decide +kernel
theorem dX9_next_8 : decode cX9_next 8 = .ok (.aload_n 0, 1) := by decide +kernel
theorem dX9_next_9 : decode cX9_next 9 = .ok (.getfield 230, 3) := by decide +kernel
theorem dX9_next_12 : decode cX9_next 12 = .ok (.aload_n 0, 1) := by decide +kernel
theorem dX9_next_13 : decode cX9_next 13 = .ok (.getfield 211, 3) := by decide +kernel
theorem dX9_next_16 : decode cX9_next 16 = .ok (.if_icmp .ge 30, 3) := by decide +kernel
theorem dX9_next_19 : decode cX9_next 19 = .ok (.aload_n 0, 1) := by decide +kernel
theorem dX9_next_20 : decode cX9_next 20 = .ok (.getfield 35, 3) := by decide +kernel
theorem dX9_next_23 : decode cX9_next 23 = .ok (.aload_n 0, 1) := by decide +kernel
theorem dX9_next_24 : decode cX9_next 24 = .ok (.getfield 230, 3) := by decide +kernel
theorem dX9_next_27 : decode cX9_next 27 = .ok (.iaload, 1) := by decide +kernel
theorem dX9_next_28 : decode cX9_next 28 = .ok (.bipush 32, 2) := by decide +kernel
theorem dX9_next_30 : decode cX9_next 30 = .ok (.if_icmp .ne 16, 3) := by decide +kernel
theorem dX9_next_33 : decode cX9_next 33 = .ok (.aload_n 0, 1) := by decide +kernel
theorem dX9_next_34 : decode cX9_next 34 = .ok (.dup, 1) := by decide +kernel
theorem dX9_next_35 : decode cX9_next 35 = .ok (.getfield 230, 3) := by decide +kernel
theorem dX9_next_38 : decode cX9_next 38 = .ok (.iconst 1, 1) := by decide +kernel
theorem dX9_next_39 : decode cX9_next 39 = .ok (.iadd, 1) := by decide +kernel
theorem dX9_next_40 : decode cX9_next 40 = .ok (.putfield 230, 3) := by decide +kernel
theorem dX9_next_43 : decode cX9_next 43 = .ok (.goto (-35), 3) := by decide +kernel
theorem dX9_next_46 : decode cX9_next 46 = .ok (.aload_n 0, 1) := by decide +kernel
theorem dX9_next_47 : decode cX9_next 47 = .ok (.aload_n 0, 1) := by decide +kernel
theorem dX9_next_48 : decode cX9_next 48 = .ok (.getfield 230, 3) := by decide +kernel
theorem dX9_next_51 : decode cX9_next 51 = .ok (.putfield 220, 3) := by decide +kernel
theorem dX9_next_54 : decode cX9_next 54 = .ok (.aload_n 0, 1) := by decide +kernel
theorem dX9_next_55 : decode cX9_next 55 = .ok (.lconst 0, 1) := by decide +kernel
theorem dX9_next_56 : decode cX9_next 56 = .ok (.putfield 233, 3) := by decide +kernel
theorem dX9_next_59 : decode cX9_next 59 = .ok (.aload_n 0, 1) := by decide +kernel
theorem dX9_next_60 : decode cX9_next 60 = .ok (.aload_n 0, 1) := by decide +kernel
theorem dX9_next_61 : decode cX9_next 61 = .ok (.getfield 230, 3) := by decide +kernel
theorem dX9_next_64 : decode cX9_next 64 = .ok (.aload_n 0, 1) := by decide +kernel
theorem dX9_next_65 : decode cX9_next 65 = .ok (.getfield 211, 3) := by decide +kernel
theorem dX9_next_68 : decode cX9_next 68 = .ok (.if_icmp .ne 7, 3) := by decide +kernel
theorem dX9_next_71 : decode cX9_next 71 = .ok (.iconst 0, 1) := by decide +kernel
theorem dX9_next_72 : decode cX9_next 72 = .ok (.goto 42, 3) := by decide +kernel
theorem dX9_next_75 : decode cX9_next 75 = .ok (.aload_n 0, 1) := by decide +kernel
theorem dX9_next_76 : decode cX9_next 76 = .ok (.getfield 35, 3) := by decide +kernel
theorem dX9_next_79 : decode cX9_next 79 = .ok (.aload_n 0, 1) := by decide +kernel
theorem dX9_next_80 : decode cX9_next 80 = .ok (.getfield 230, 3) := by decide +kernel
theorem dX9_next_83 : decode cX9_next 83 = .ok (.iaload, 1) := by decide +kernel
theorem dX9_next_84 : decode cX9_next 84 = .ok (.invokestatic 237, 3) := by decide +kernel
theorem dX9_next_87 : decode cX9_next 87 = .ok (.ifCond .eq 7, 3) := by decide +kernel
theorem dX9_next_90 : decode cX9_next 90 = .ok (.iconst 1, 1) := by decide +kernel
theorem dX9_next_91 : decode cX9_next 91 = .ok (.goto 23, 3) := by decide +kernel
theorem dX9_next_94 : decode cX9_next 94 = .ok (.aload_n 0, 1) := by decide +kernel
theorem dX9_next_95 : decode cX9_next 95 = .ok (.getfield 35, 3) := by decide +kernel
theorem dX9_next_98 : decode cX9_next 98 = .ok (.aload_n 0, 1) := by decide +kernel
theorem dX9_next_99 : decode cX9_next 99 = .ok (.getfield 230, 3) := by decide +kernel
theorem dX9_next_102 : decode cX9_next 102 = .ok (.iaload, 1) := by decide +kernel
theorem dX9_next_103 : decode cX9_next 103 = .ok (.invokestatic 240, 3) := by decide +kernel
theorem dX9_next_106 : decode cX9_next 106 = .ok (.ifCond .eq 7, 3) := by decide +kernel
theorem dX9_next_109 : decode cX9_next 109 = .ok (.iconst 2, 1) := by decide +kernel
theorem dX9_next_110 : decode cX9_next 110 = .ok (.goto 4, 3) := by decide +kernel
theorem dX9_next_113 : decode cX9_next 113 = .ok (.iconst 3, 1) := by decide +kernel
theorem dX9_next_114 : decode cX9_next 114 = .ok (.putfield 243, 3) := by decide +kernel
theorem dX9_next_117 : decode cX9_next 117 = .ok (.aload_n 0, 1) := by decide +kernel
theorem dX9_next_118 : decode cX9_next 118 = .ok (.getfield 243, 3) := by decide +kernel
theorem dX9_next_121 : decode cX9_next 121 = .ok (.iconst 3, 1) := by decide +kernel
theorem dX9_next_122 : decode cX9_next 122 = .ok (.if_icmp .ne 27, 3) := by decide +kernel
theorem dX9_next_125 : decode cX9_next 125 = .ok (.aload_n 0, 1) := by decide +kernel
theorem dX9_next_126 : decode cX9_next 126 = .ok (.aload_n 0, 1) := by decide +kernel
theorem dX9_next_127 : decode cX9_next 127 = .ok (.getfield 35, 3) := by decide +kernel
theorem dX9_next_130 : decode cX9_next 130 = .ok (.aload_n 0, 1) := by decide +kernel
theorem dX9_next_131 : decode cX9_next 131 = .ok (.getfield 230, 3) := by decide +kernel
theorem dX9_next_134 : decode cX9_next 134 = .ok (.iaload, 1) := by decide +kernel
theorem dX9_next_135 : decode cX9_next 135 = .ok (.i2l, 1) := by decide +kernel
theorem dX9_next_136 : decode cX9_next 136 = .ok (.putfield 233, 3) := by decide +kernel
theorem dX9_next_139 : decode cX9_next 139 = .ok (.aload_n 0, 1) := by decide +kernel
theorem dX9_next_140 : decode cX9_next 140 = .ok (.dup, 1) := by decide +kernel
theorem dX9_next_141 : decode cX9_next 141 = .ok (.getfield 220, 3) := by decide +kernel
theorem dX9_next_144 : decode cX9_next 144 = .ok (.iconst 1, 1) := by decide +kernel
theorem dX9_next_145 : decode cX9_next 145 = .ok (.iadd, 1) := by decide +kernel
theorem dX9_next_146 : decode cX9_next 146 = .ok (.putfield 220, 3) := by decide +kernel
theorem dX9_next_149 : decode cX9_next 149 = .ok (.aload_n 0, 1) := by decide +kernel
theorem dX9_next_150 : decode cX9_next 150 = .ok (.getfield 243, 3) := by decide +kernel
theorem dX9_next_153 : decode cX9_next 153 = .ok (.iconst 1, 1) := by decide +kernel
theorem dX9_next_154 : decode cX9_next 154 = .ok (.if_icmp .ne 89, 3) := by decide +kernel
theorem dX9_next_157 : decode cX9_next 157 = .ok (.aload_n 0, 1) := by decide +kernel
theorem dX9_next_158 : decode cX9_next 158 = .ok (.getfield 220, 3) := by decide +kernel
theorem dX9_next_161 : decode cX9_next 161 = .ok (.aload_n 0, 1) := by decide +kernel
theorem dX9_next_162 : decode cX9_next 162 = .ok (.getfield 211, 3) := by decide +kernel
theorem dX9_next_165 : decode cX9_next 165 = .ok (.if_icmp .ge 78, 3) := by decide +kernel
theorem dX9_next_168 : decode cX9_next 168 = .ok (.aload_n 0, 1) := by decide +kernel
theorem dX9_next_169 : decode cX9_next 169 = .ok (.getfield 35, 3) := by decide +kernel
theorem dX9_next_172 : decode cX9_next 172 = .ok (.aload_n 0, 1) := by decide +kernel
theorem dX9_next_173 : decode cX9_next 173 = .ok (.getfield 220, 3) := by decide +kernel
theorem dX9_next_176 : decode cX9_next 176 = .ok (.iaload, 1) := by decide +kernel
theorem dX9_next_177 : decode cX9_next 177 = .ok (.invokestatic 237, 3) := by decide +kernel
theorem dX9_next_180 : decode cX9_next 180 = .ok (.ifCond .eq 63, 3) := by decide +kernel
theorem dX9_next_183 : decode cX9_next 183 = .ok (.aload_n 0, 1) := by decide +kernel
theorem dX9_next_184 : decode cX9_next 184 = .ok (.aload_n 0, 1) := by decide +kernel
theorem dX9_next_185 : decode cX9_next 185 = .ok (.getfield 220, 3) := by decide +kernel
theorem dX9_next_188 : decode cX9_next 188 = .ok (.aload_n 0, 1) := by decide +kernel
theorem dX9_next_189 : decode cX9_next 189 = .ok (.getfield 230, 3) := by decide +kernel
theorem dX9_next_192 : decode cX9_next 192 = .ok (.isub, 1) := by decide +kernel
theorem dX9_next_193 : decode cX9_next 193 = .ok (.bipush 10, 2) := by decide +kernel
theorem dX9_next_195 : decode cX9_next 195 = .ok (.if_icmp .ge 29, 3) := by decide +kernel
theorem dX9_next_198 : decode cX9_next 198 = .ok (.aload_n 0, 1) := by decide +kernel
theorem dX9_next_199 : decode cX9_next 199 = .ok (.getfield 233, 3) := by decide +kernel
theorem dX9_next_202 : decode cX9_next 202 = .ok (.ldc2_w 246, 3) := by decide +kernel
theorem dX9_next_205 : decode cX9_next 205 = .ok (.lmul, 1) := by decide +kernel
theorem dX9_next_206 : decode cX9_next 206 = .ok (.aload_n 0, 1) := by decide +kernel
theorem dX9_next_207 : decode cX9_next 207 = .ok (.getfield 35, 3) := by decide +kernel
theorem dX9_next_210 : decode cX9_next 210 = .ok (.aload_n 0, 1) := by decide +kernel
theorem dX9_next_211 : decode cX9_next 211 = .ok (.getfield 220, 3) := by decide +kernel
theorem dX9_next_214 : decode cX9_next 214 = .ok (.iaload, 1) := by decide +kernel
theorem dX9_next_215 : decode cX9_next 215 = .ok (.i2l, 1) := by decide +kernel
theorem dX9_next_216 : decode cX9_next 216 = .ok (.ladd, 1) := by decide +kernel
theorem dX9_next_217 : decode cX9_next 217 = .ok (.ldc2_w 248, 3) := by decide +kernel
theorem dX9_next_220 : decode cX9_next 220 = .ok (.lsub, 1) := by decide +kernel
theorem dX9_next_221 : decode cX9_next 221 = .ok (.goto 6, 3) := by decide +kernel
theorem dX9_next_224 : decode cX9_next 224 = .ok (.ldc2_w 196, 3) := by decide +kernel
theorem dX9_next_227 : decode cX9_next 227 = .ok (.putfield 233, 3) := by decide +kernel
theorem dX9_next_230 : decode cX9_next 230 = .ok (.aload_n 0, 1) := by decide +kernel
theorem dX9_next_231 : decode cX9_next 231 = .ok (.dup, 1) := by decide +kernel
theorem dX9_next_232 : decode cX9_next 232 = .ok (.getfield 220, 3) := by decide +kernel
theorem dX9_next_235 : decode cX9_next 235 = .ok (.iconst 1, 1) := by decide +kernel
theorem dX9_next_236 : decode cX9_next 236 = .ok (.iadd, 1) := by decide +kernel
theorem dX9_next_237 : decode cX9_next 237 = .ok (.putfield 220, 3) := by decide +kernel
theorem dX9_next_240 : decode cX9_next 240 = .ok (.goto (-91), 3) := by decide +kernel
theorem dX9_next_243 : decode cX9_next 243 = .ok (.aload_n 0, 1) := by decide +kernel
theorem dX9_next_244 : decode cX9_next 244 = .ok (.getfield 243, 3) := by decide +kernel
theorem dX9_next_247 : decode cX9_next 247 = .ok (.iconst 2, 1) := by decide +kernel
theorem dX9_next_248 : decode cX9_next 248 = .ok (.if_icmp .ne 87, 3) := by decide +kernel
theorem dX9_next_251 : decode cX9_next 251 = .ok (.aload_n 0, 1) := by decide +kernel
theorem dX9_next_252 : decode cX9_next 252 = .ok (.getfield 220, 3) := by decide +kernel
theorem dX9_next_255 : decode cX9_next 255 = .ok (.aload_n 0, 1) := by decide +kernel
theorem dX9_next_256 : decode cX9_next 256 = .ok (.getfield 211, 3) := by decide +kernel
theorem dX9_next_259 : decode cX9_next 259 = .ok (.if_icmp .ge 76, 3) := by decide +kernel
theorem dX9_next_262 : decode cX9_next 262 = .ok (.aload_n 0, 1) := by decide +kernel
theorem dX9_next_263 : decode cX9_next 263 = .ok (.getfield 35, 3) := by decide +kernel
theorem dX9_next_266 : decode cX9_next 266 = .ok (.aload_n 0, 1) := by decide +kernel
theorem dX9_next_267 : decode cX9_next 267 = .ok (.getfield 220, 3) := by decide +kernel
theorem dX9_next_270 : decode cX9_next 270 = .ok (.iaload, 1) := by decide +kernel
theorem dX9_next_271 : decode cX9_next 271 = .ok (.invokestatic 240, 3) := by decide +kernel
theorem dX9_next_274 : decode cX9_next 274 = .ok (.ifCond .eq 61, 3) := by decide +kernel
theorem dX9_next_277 : decode cX9_next 277 = .ok (.aload_n 0, 1) := by decide +kernel
theorem dX9_next_278 : decode cX9_next 278 = .ok (.aload_n 0, 1) := by decide +kernel
theorem dX9_next_279 : decode cX9_next 279 = .ok (.getfield 233, 3) := by decide +kernel
theorem dX9_next_282 : decode cX9_next 282 = .ok (.ldc2_w 250, 3) := by decide +kernel
theorem dX9_next_285 : decode cX9_next 285 = .ok (.lcmp, 1) := by decide +kernel
theorem dX9_next_286 : decode cX9_next 286 = .ok (.ifCond .le 10, 3) := by decide +kernel
theorem dX9_next_289 : decode cX9_next 289 = .ok (.aload_n 0, 1) := by decide +kernel
theorem dX9_next_290 : decode cX9_next 290 = .ok (.getfield 233, 3) := by decide +kernel
theorem dX9_next_293 : decode cX9_next 293 = .ok (.goto 26, 3) := by decide +kernel
theorem dX9_next_296 : decode cX9_next 296 = .ok (.aload_n 0, 1) := by decide +kernel
theorem dX9_next_297 : decode cX9_next 297 = .ok (.getfield 233, 3) := by decide +kernel
theorem dX9_next_300 : decode cX9_next 300 = .ok (.ldc2_w 205, 3) := by decide +kernel
theorem dX9_next_303 : decode cX9_next 303 = .ok (.lmul, 1) := by decide +kernel
theorem dX9_next_304 : decode cX9_next 304 = .ok (.aload_n 0, 1) := by decide +kernel
theorem dX9_next_305 : decode cX9_next 305 = .ok (.getfield 35, 3) := by decide +kernel
theorem dX9_next_308 : decode cX9_next 308 = .ok (.aload_n 0, 1) := by decide +kernel
theorem dX9_next_309 : decode cX9_next 309 = .ok (.getfield 220, 3) := by decide +kernel
theorem dX9_next_312 : decode cX9_next 312 = .ok (.iaload, 1) := by decide +kernel
theorem dX9_next_313 : decode cX9_next 313 = .ok (.i2l, 1) := by decide +kernel
theorem dX9_next_314 : decode cX9_next 314 = .ok (.ladd, 1) := by decide +kernel
theorem dX9_next_315 : decode cX9_next 315 = .ok (.ldc2_w 252, 3) := by decide +kernel
theorem dX9_next_318 : decode cX9_next 318 = .ok (.lsub, 1) := by decide +kernel
theorem dX9_next_319 : decode cX9_next 319 = .ok (.putfield 233, 3) := by decide +kernel
theorem dX9_next_322 : decode cX9_next 322 = .ok (.aload_n 0, 1) := by decide +kernel
theorem dX9_next_323 : decode cX9_next 323 = .ok (.dup, 1) := by decide +kernel
theorem dX9_next_324 : decode cX9_next 324 = .ok (.getfield 220, 3) := by decide +kernel
theorem dX9_next_327 : decode cX9_next 327 = .ok (.iconst 1, 1) := by decide +kernel
theorem dX9_next_328 : decode cX9_next 328 = .ok (.iadd, 1) := by decide +kernel
theorem dX9_next_329 : decode cX9_next 329 = .ok (.putfield 220, 3) := by decide +kernel
theorem dX9_next_332 : decode cX9_next 332 = .ok (.goto (-89), 3) := by decide +kernel
theorem dX9_next_335 : decode cX9_next 335 = .ok (.return_, 1) := by decide +kernel
theorem dX9_isWord_0 : decode cX9_isWord 0 = .ok (.aload_n 0, 1) := by decide +kernel
theorem dX9_isWord_1 : decode cX9_isWord 1 = .ok (.getfield 243, 3) := by decide +kernel
theorem dX9_isWord_4 : decode cX9_isWord 4 = .ok (.iconst 1, 1) := by decide +kernel
theorem dX9_isWord_5 : decode cX9_isWord 5 = .ok (.if_icmp .ne 16, 3) := by decide +kernel
theorem dX9_isWord_8 : decode cX9_isWord 8 = .ok (.aload_n 0, 1) := by decide +kernel
theorem dX9_isWord_9 : decode cX9_isWord 9 = .ok (.getfield 233, 3) := by decide +kernel
theorem dX9_isWord_12 : decode cX9_isWord 12 = .ok (.lload_n 1, 1) := by decide +kernel
theorem dX9_isWord_13 : decode cX9_isWord 13 = .ok (.lcmp, 1) := by decide +kernel
theorem dX9_isWord_14 : decode cX9_isWord 14 = .ok (.ifCond .ne 7, 3) := by decide +kernel
theorem dX9_isWord_17 : decode cX9_isWord 17 = .ok (.iconst 1, 1) := by decide +kernel
theorem dX9_isWord_18 : decode cX9_isWord 18 = .ok (.goto 4, 3) := by decide +kernel
theorem dX9_isWord_21 : decode cX9_isWord 21 = .ok (.iconst 0, 1) := by decide +kernel
theorem dX9_isWord_22 : decode cX9_isWord 22 = .ok (.ireturn, 1) := by decide +kernel
theorem dX9_isSign_0 : decode cX9_isSign 0 = .ok (.aload_n 0, 1) := by decide +kernel
theorem dX9_isSign_1 : decode cX9_isSign 1 = .ok (.getfield 243, 3) := by decide +kernel
theorem dX9_isSign_4 : decode cX9_isSign 4 = .ok (.iconst 3, 1) := by decide +kernel
theorem dX9_isSign_5 : decode cX9_isSign 5 = .ok (.if_icmp .ne 17, 3) := by decide +kernel
theorem dX9_isSign_8 : decode cX9_isSign 8 = .ok (.aload_n 0, 1) := by decide +kernel
theorem dX9_isSign_9 : decode cX9_isSign 9 = .ok (.getfield 233, 3) := by decide +kernel
theorem dX9_isSign_12 : decode cX9_isSign 12 = .ok (.iload_n 1, 1) := by decide +kernel
theorem dX9_isSign_13 : decode cX9_isSign 13 = .ok (.i2l, 1) := by decide +kernel
theorem dX9_isSign_14 : decode cX9_isSign 14 = .ok (.lcmp, 1) := by decide +kernel
theorem dX9_isSign_15 : decode cX9_isSign 15 = .ok (.ifCond .ne 7, 3) := by decide +kernel
theorem dX9_isSign_18 : decode cX9_isSign 18 = .ok (.iconst 1, 1) := by decide +kernel
theorem dX9_isSign_19 : decode cX9_isSign 19 = .ok (.goto 4, 3) := by decide +kernel
theorem dX9_isSign_22 : decode cX9_isSign 22 = .ok (.iconst 0, 1) := by decide +kernel
theorem dX9_isSign_23 : decode cX9_isSign 23 = .ok (.ireturn, 1) := by decide +kernel
theorem dX9_must_0 : decode cX9_must 0 = .ok (.aload_n 0, 1) := by decide +kernel
theorem dX9_must_1 : decode cX9_must 1 = .ok (.getfield 223, 3) := by decide +kernel
theorem dX9_must_4 : decode cX9_must 4 = .ok (.ifCond .ne 20, 3) := by decide +kernel
theorem dX9_must_7 : decode cX9_must 7 = .ok (.iload_n 1, 1) := by decide +kernel
theorem dX9_must_8 : decode cX9_must 8 = .ok (.ifCond .ne 16, 3) := by decide +kernel
theorem dX9_must_11 : decode cX9_must 11 = .ok (.aload_n 0, 1) := by decide +kernel
theorem dX9_must_12 : decode cX9_must 12 = .ok (.iconst 1, 1) := by decide +kernel
theorem dX9_must_13 : decode cX9_must 13 = .ok (.putfield 223, 3) := by decide +kernel
theorem dX9_must_16 : decode cX9_must 16 = .ok (.aload_n 0, 1) := by decide +kernel
theorem dX9_must_17 : decode cX9_must 17 = .ok (.aload_n 0, 1) := by decide +kernel
theorem dX9_must_18 : decode cX9_must 18 = .ok (.getfield 230, 3) := by decide +kernel
theorem dX9_must_21 : decode cX9_must 21 = .ok (.putfield 38, 3) := by decide +kernel
theorem dX9_must_24 : decode cX9_must 24 = .ok (.aload_n 0, 1) := by decide +kernel
theorem dX9_must_25 : decode cX9_must 25 = .ok (.getfield 223, 3) := by decide +kernel
theorem dX9_must_28 : decode cX9_must 28 = .ok (.ifCond .ne 7, 3) := by decide +kernel
theorem dX9_must_31 : decode cX9_must 31 = .ok (.aload_n 0, 1) := by decide +kernel
theorem dX9_must_32 : decode cX9_must 32 = .ok (.invokevirtual 227, 3) := by decide +kernel
theorem dX9_must_35 : decode cX9_must 35 = .ok (.return_, 1) := by decide +kernel
theorem dX9_number_0 : decode cX9_number 0 = .ok (.aload_n 0, 1) := by decide +kernel
theorem dX9_number_1 : decode cX9_number 1 = .ok (.getfield 233, 3) := by decide +kernel
theorem dX9_number_4 : decode cX9_number 4 = .ok (.l2i, 1) := by decide +kernel
theorem dX9_number_5 : decode cX9_number 5 = .ok (.istore 5, 2) := by decide +kernel
theorem dX9_number_7 : decode cX9_number 7 = .ok (.aload_n 0, 1) := by decide +kernel
theorem dX9_number_8 : decode cX9_number 8 = .ok (.aload_n 0, 1) := by decide +kernel
theorem dX9_number_9 : decode cX9_number 9 = .ok (.getfield 243, 3) := by decide +kernel
theorem dX9_number_12 : decode cX9_number 12 = .ok (.iconst 2, 1) := by decide +kernel
theorem dX9_number_13 : decode cX9_number 13 = .ok (.if_icmp .ne 19, 3) := by decide +kernel
theorem dX9_number_16 : decode cX9_number 16 = .ok (.aload_n 0, 1) := by decide +kernel
theorem dX9_number_17 : decode cX9_number 17 = .ok (.getfield 233, 3) := by decide +kernel
theorem dX9_number_20 : decode cX9_number 20 = .ok (.lload_n 1, 1) := by decide +kernel
theorem dX9_number_21 : decode cX9_number 21 = .ok (.lload_n 3, 1) := by decide +kernel
theorem dX9_number_22 : decode cX9_number 22 = .ok (.invokestatic 154, 3) := by decide +kernel
theorem dX9_number_25 : decode cX9_number 25 = .ok (.ifCond .eq 7, 3) := by decide +kernel
theorem dX9_number_28 : decode cX9_number 28 = .ok (.iconst 1, 1) := by decide +kernel
theorem dX9_number_29 : decode cX9_number 29 = .ok (.goto 4, 3) := by decide +kernel
theorem dX9_number_32 : decode cX9_number 32 = .ok (.iconst 0, 1) := by decide +kernel
theorem dX9_number_33 : decode cX9_number 33 = .ok (.invokevirtual 254, 3) := by decide +kernel
theorem dX9_number_36 : decode cX9_number 36 = .ok (.iload 5, 2) := by decide +kernel
theorem dX9_number_38 : decode cX9_number 38 = .ok (.ireturn, 1) := by decide +kernel
theorem dX9_fault_0 : decode cX9_fault 0 = .ok (.aload_n 0, 1) := by decide +kernel
theorem dX9_fault_1 : decode cX9_fault 1 = .ok (.iconst 0, 1) := by decide +kernel
theorem dX9_fault_2 : decode cX9_fault 2 = .ok (.putfield 134, 3) := by decide +kernel
theorem dX9_fault_5 : decode cX9_fault 5 = .ok (.aload_n 0, 1) := by decide +kernel
theorem dX9_fault_6 : decode cX9_fault 6 = .ok (.getfield 38, 3) := by decide +kernel
theorem dX9_fault_9 : decode cX9_fault 9 = .ok (.ireturn, 1) := by decide +kernel
theorem dX9_emit_0 : decode cX9_emit 0 = .ok (.aload_n 0, 1) := by decide +kernel
theorem dX9_emit_1 : decode cX9_emit 1 = .ok (.getfield 45, 3) := by decide +kernel
theorem dX9_emit_4 : decode cX9_emit 4 = .ok (.aload_n 0, 1) := by decide +kernel
theorem dX9_emit_5 : decode cX9_emit 5 = .ok (.getfield 258, 3) := by decide +kernel
theorem dX9_emit_8 : decode cX9_emit 8 = .ok (.iload_n 1, 1) := by decide +kernel
theorem dX9_emit_9 : decode cX9_emit 9 = .ok (.iastore, 1) := by decide +kernel
theorem dX9_emit_10 : decode cX9_emit 10 = .ok (.aload_n 0, 1) := by decide +kernel
theorem dX9_emit_11 : decode cX9_emit 11 = .ok (.getfield 48, 3) := by decide +kernel
theorem dX9_emit_14 : decode cX9_emit 14 = .ok (.aload_n 0, 1) := by decide +kernel
theorem dX9_emit_15 : decode cX9_emit 15 = .ok (.getfield 258, 3) := by decide +kernel
theorem dX9_emit_18 : decode cX9_emit 18 = .ok (.iload_n 2, 1) := by decide +kernel
theorem dX9_emit_19 : decode cX9_emit 19 = .ok (.iastore, 1) := by decide +kernel
theorem dX9_emit_20 : decode cX9_emit 20 = .ok (.aload_n 0, 1) := by decide +kernel
theorem dX9_emit_21 : decode cX9_emit 21 = .ok (.dup, 1) := by decide +kernel
theorem dX9_emit_22 : decode cX9_emit 22 = .ok (.getfield 258, 3) := by decide +kernel
theorem dX9_emit_25 : decode cX9_emit 25 = .ok (.iconst 1, 1) := by decide +kernel
theorem dX9_emit_26 : decode cX9_emit 26 = .ok (.iadd, 1) := by decide +kernel
theorem dX9_emit_27 : decode cX9_emit 27 = .ok (.putfield 258, 3) := by decide +kernel
theorem dX9_emit_30 : decode cX9_emit 30 = .ok (.return_, 1) := by decide +kernel
theorem dX9_push_0 : decode cX9_push 0 = .ok (.aload_n 0, 1) := by decide +kernel
theorem dX9_push_1 : decode cX9_push 1 = .ok (.getfield 51, 3) := by decide +kernel
theorem dX9_push_4 : decode cX9_push 4 = .ok (.aload_n 0, 1) := by decide +kernel
theorem dX9_push_5 : decode cX9_push 5 = .ok (.getfield 261, 3) := by decide +kernel
theorem dX9_push_8 : decode cX9_push 8 = .ok (.iload_n 1, 1) := by decide +kernel
theorem dX9_push_9 : decode cX9_push 9 = .ok (.iastore, 1) := by decide +kernel
theorem dX9_push_10 : decode cX9_push 10 = .ok (.aload_n 0, 1) := by decide +kernel
theorem dX9_push_11 : decode cX9_push 11 = .ok (.getfield 54, 3) := by decide +kernel
theorem dX9_push_14 : decode cX9_push 14 = .ok (.aload_n 0, 1) := by decide +kernel
theorem dX9_push_15 : decode cX9_push 15 = .ok (.getfield 261, 3) := by decide +kernel
theorem dX9_push_18 : decode cX9_push 18 = .ok (.iload_n 2, 1) := by decide +kernel
theorem dX9_push_19 : decode cX9_push 19 = .ok (.iastore, 1) := by decide +kernel
theorem dX9_push_20 : decode cX9_push 20 = .ok (.aload_n 0, 1) := by decide +kernel
theorem dX9_push_21 : decode cX9_push 21 = .ok (.dup, 1) := by decide +kernel
theorem dX9_push_22 : decode cX9_push 22 = .ok (.getfield 261, 3) := by decide +kernel
theorem dX9_push_25 : decode cX9_push 25 = .ok (.iconst 1, 1) := by decide +kernel
theorem dX9_push_26 : decode cX9_push 26 = .ok (.iadd, 1) := by decide +kernel
theorem dX9_push_27 : decode cX9_push 27 = .ok (.putfield 261, 3) := by decide +kernel
theorem dX9_push_30 : decode cX9_push 30 = .ok (.return_, 1) := by decide +kernel
theorem dX9_binds_0 : decode cX9_binds 0 = .ok (.iload_n 0, 1) := by decide +kernel
theorem dX9_binds_1 : decode cX9_binds 1 = .ok (.bipush 31, 2) := by decide +kernel
theorem dX9_binds_3 : decode cX9_binds 3 = .ok (.if_icmp .lt 7, 3) := by decide +kernel
theorem dX9_binds_6 : decode cX9_binds 6 = .ok (.iconst 0, 1) := by decide +kernel
theorem dX9_binds_7 : decode cX9_binds 7 = .ok (.goto 55, 3) := by decide +kernel
theorem dX9_binds_10 : decode cX9_binds 10 = .ok (.iload_n 0, 1) := by decide +kernel
theorem dX9_binds_11 : decode cX9_binds 11 = .ok (.bipush 30, 2) := by decide +kernel
theorem dX9_binds_13 : decode cX9_binds 13 = .ok (.if_icmp .ne 7, 3) := by decide +kernel
theorem dX9_binds_16 : decode cX9_binds 16 = .ok (.iconst 1, 1) := by decide +kernel
theorem dX9_binds_17 : decode cX9_binds 17 = .ok (.goto 45, 3) := by decide +kernel
theorem dX9_binds_20 : decode cX9_binds 20 = .ok (.iload_n 0, 1) := by decide +kernel
theorem dX9_binds_21 : decode cX9_binds 21 = .ok (.bipush 29, 2) := by decide +kernel
theorem dX9_binds_23 : decode cX9_binds 23 = .ok (.if_icmp .ne 7, 3) := by decide +kernel
theorem dX9_binds_26 : decode cX9_binds 26 = .ok (.iconst 2, 1) := by decide +kernel
theorem dX9_binds_27 : decode cX9_binds 27 = .ok (.goto 35, 3) := by decide +kernel
theorem dX9_binds_30 : decode cX9_binds 30 = .ok (.iload_n 0, 1) := by decide +kernel
theorem dX9_binds_31 : decode cX9_binds 31 = .ok (.bipush 28, 2) := by decide +kernel
theorem dX9_binds_33 : decode cX9_binds 33 = .ok (.if_icmp .ne 7, 3) := by decide +kernel
theorem dX9_binds_36 : decode cX9_binds 36 = .ok (.iconst 3, 1) := by decide +kernel
theorem dX9_binds_37 : decode cX9_binds 37 = .ok (.goto 25, 3) := by decide +kernel
theorem dX9_binds_40 : decode cX9_binds 40 = .ok (.iload_n 0, 1) := by decide +kernel
theorem dX9_binds_41 : decode cX9_binds 41 = .ok (.bipush 25, 2) := by decide +kernel
theorem dX9_binds_43 : decode cX9_binds 43 = .ok (.if_icmp .lt 7, 3) := by decide +kernel
theorem dX9_binds_46 : decode cX9_binds 46 = .ok (.iconst 4, 1) := by decide +kernel
theorem dX9_binds_47 : decode cX9_binds 47 = .ok (.goto 15, 3) := by decide +kernel
theorem dX9_binds_50 : decode cX9_binds 50 = .ok (.iload_n 0, 1) := by decide +kernel
theorem dX9_binds_51 : decode cX9_binds 51 = .ok (.bipush 22, 2) := by decide +kernel
theorem dX9_binds_53 : decode cX9_binds 53 = .ok (.if_icmp .lt 8, 3) := by decide +kernel
theorem dX9_binds_56 : decode cX9_binds 56 = .ok (.bipush 6, 2) := by decide +kernel
theorem dX9_binds_58 : decode cX9_binds 58 = .ok (.goto 4, 3) := by decide +kernel
theorem dX9_binds_61 : decode cX9_binds 61 = .ok (.iconst 5, 1) := by decide +kernel
theorem dX9_binds_62 : decode cX9_binds 62 = .ok (.ireturn, 1) := by decide +kernel
theorem dX9_settle_0 : decode cX9_settle 0 = .ok (.aload_n 0, 1) := by decide +kernel
theorem dX9_settle_1 : decode cX9_settle 1 = .ok (.getfield 261, 3) := by decide +kernel
theorem dX9_settle_4 : decode cX9_settle 4 = .ok (.ifCond .le 97, 3) := by decide +kernel
theorem dX9_settle_7 : decode cX9_settle 7 = .ok (.aload_n 0, 1) := by decide +kernel
theorem dX9_settle_8 : decode cX9_settle 8 = .ok (.getfield 51, 3) := by decide +kernel
theorem dX9_settle_11 : decode cX9_settle 11 = .ok (.aload_n 0, 1) := by decide +kernel
theorem dX9_settle_12 : decode cX9_settle 12 = .ok (.getfield 261, 3) := by decide +kernel
theorem dX9_settle_15 : decode cX9_settle 15 = .ok (.iconst 1, 1) := by decide +kernel
theorem dX9_settle_16 : decode cX9_settle 16 = .ok (.isub, 1) := by decide +kernel
theorem dX9_settle_17 : decode cX9_settle 17 = .ok (.iaload, 1) := by decide +kernel
theorem dX9_settle_18 : decode cX9_settle 18 = .ok (.invokestatic 264, 3) := by decide +kernel
theorem dX9_settle_21 : decode cX9_settle 21 = .ok (.iload_n 1, 1) := by decide +kernel
theorem dX9_settle_22 : decode cX9_settle 22 = .ok (.if_icmp .lt 79, 3) := by decide +kernel
theorem dX9_settle_25 : decode cX9_settle 25 = .ok (.aload_n 0, 1) := by decide +kernel
theorem dX9_settle_26 : decode cX9_settle 26 = .ok (.dup, 1) := by decide +kernel
theorem dX9_settle_27 : decode cX9_settle 27 = .ok (.getfield 261, 3) := by decide +kernel
theorem dX9_settle_30 : decode cX9_settle 30 = .ok (.iconst 1, 1) := by decide +kernel
theorem dX9_settle_31 : decode cX9_settle 31 = .ok (.isub, 1) := by decide +kernel
theorem dX9_settle_32 : decode cX9_settle 32 = .ok (.putfield 261, 3) := by decide +kernel
theorem dX9_settle_35 : decode cX9_settle 35 = .ok (.aload_n 0, 1) := by decide +kernel
theorem dX9_settle_36 : decode cX9_settle 36 = .ok (.getfield 51, 3) := by decide +kernel
theorem dX9_settle_39 : decode cX9_settle 39 = .ok (.aload_n 0, 1) := by decide +kernel
theorem dX9_settle_40 : decode cX9_settle 40 = .ok (.getfield 261, 3) := by decide +kernel
theorem dX9_settle_43 : decode cX9_settle 43 = .ok (.iaload, 1) := by decide +kernel
theorem dX9_settle_44 : decode cX9_settle 44 = .ok (.bipush 29, 2) := by decide +kernel
theorem dX9_settle_46 : decode cX9_settle 46 = .ok (.if_icmp .eq 17, 3) := by decide +kernel
theorem dX9_settle_49 : decode cX9_settle 49 = .ok (.aload_n 0, 1) := by decide +kernel
theorem dX9_settle_50 : decode cX9_settle 50 = .ok (.getfield 51, 3) := by decide +kernel
theorem dX9_settle_53 : decode cX9_settle 53 = .ok (.aload_n 0, 1) := by decide +kernel
theorem dX9_settle_54 : decode cX9_settle 54 = .ok (.getfield 261, 3) := by decide +kernel
theorem dX9_settle_57 : decode cX9_settle 57 = .ok (.iaload, 1) := by decide +kernel
theorem dX9_settle_58 : decode cX9_settle 58 = .ok (.bipush 30, 2) := by decide +kernel
theorem dX9_settle_60 : decode cX9_settle 60 = .ok (.if_icmp .ne 24, 3) := by decide +kernel
theorem dX9_settle_63 : decode cX9_settle 63 = .ok (.aload_n 0, 1) := by decide +kernel
theorem dX9_settle_64 : decode cX9_settle 64 = .ok (.getfield 48, 3) := by decide +kernel
theorem dX9_settle_67 : decode cX9_settle 67 = .ok (.aload_n 0, 1) := by decide +kernel
theorem dX9_settle_68 : decode cX9_settle 68 = .ok (.getfield 54, 3) := by decide +kernel
theorem dX9_settle_71 : decode cX9_settle 71 = .ok (.aload_n 0, 1) := by decide +kernel
theorem dX9_settle_72 : decode cX9_settle 72 = .ok (.getfield 261, 3) := by decide +kernel
theorem dX9_settle_75 : decode cX9_settle 75 = .ok (.iaload, 1) := by decide +kernel
theorem dX9_settle_76 : decode cX9_settle 76 = .ok (.aload_n 0, 1) := by decide +kernel
theorem dX9_settle_77 : decode cX9_settle 77 = .ok (.getfield 258, 3) := by decide +kernel
theorem dX9_settle_80 : decode cX9_settle 80 = .ok (.iastore, 1) := by decide +kernel
theorem dX9_settle_81 : decode cX9_settle 81 = .ok (.goto (-81), 3) := by decide +kernel
theorem dX9_settle_84 : decode cX9_settle 84 = .ok (.aload_n 0, 1) := by decide +kernel
theorem dX9_settle_85 : decode cX9_settle 85 = .ok (.aload_n 0, 1) := by decide +kernel
theorem dX9_settle_86 : decode cX9_settle 86 = .ok (.getfield 51, 3) := by decide +kernel
theorem dX9_settle_89 : decode cX9_settle 89 = .ok (.aload_n 0, 1) := by decide +kernel
theorem dX9_settle_90 : decode cX9_settle 90 = .ok (.getfield 261, 3) := by decide +kernel
theorem dX9_settle_93 : decode cX9_settle 93 = .ok (.iaload, 1) := by decide +kernel
theorem dX9_settle_94 : decode cX9_settle 94 = .ok (.iconst 0, 1) := by decide +kernel
theorem dX9_settle_95 : decode cX9_settle 95 = .ok (.invokevirtual 267, 3) := by decide +kernel
theorem dX9_settle_98 : decode cX9_settle 98 = .ok (.goto (-98), 3) := by decide +kernel
theorem dX9_settle_101 : decode cX9_settle 101 = .ok (.return_, 1) := by decide +kernel
