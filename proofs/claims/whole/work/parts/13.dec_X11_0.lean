theorem dX11_thrown_0 : decode cX11_thrown 0 = .ok (.aload_n 0, 1) := by decide +kernel
theorem dX11_thrown_1 : decode cX11_thrown 1 = .ok (.getfield 1, 3) := by decide +kernel
theorem dX11_thrown_4 : decode cX11_thrown 4 = .ok (.ireturn, 1) := by decide +kernel
theorem dX11_end_0 : decode cX11_end 0 = .ok (.aload_n 0, 1) := by decide +kernel
theorem dX11_end_1 : decode cX11_end 1 = .ok (.iconst 0, 1) := by decide +kernel
theorem dX11_end_2 : decode cX11_end 2 = .ok (.putfield 1, 3) := by decide +kernel
theorem dX11_end_5 : decode cX11_end 5 = .ok (.iload_n 1, 1) := by decide +kernel
theorem dX11_end_6 : decode cX11_end 6 = .ok (.ifCond .lt 11, 3) := by decide +kernel
theorem dX11_end_9 : decode cX11_end 9 = .ok (.iload_n 1, 1) := by decide +kernel
theorem dX11_end_10 : decode cX11_end 10 = .ok (.aload_n 0, 1) := by decide +kernel
theorem dX11_end_11 : decode cX11_end 11 = .ok (.getfield 7, 3) := by decide +kernel
theorem dX11_end_14 : decode cX11_end 14 = .ok (.if_icmp .le 5, 3) := by decide +kernel
theorem dX11_end_17 : decode cX11_end 17 = .ok (.iconst 0, 1) := by decide +kernel
theorem dX11_end_18 : decode cX11_end 18 = .ok (.ireturn, 1) := by decide +kernel
theorem dX11_end_19 : decode cX11_end 19 = .ok (.aload_n 0, 1) := by decide +kernel
theorem dX11_end_20 : decode cX11_end 20 = .ok (.iload_n 1, 1) := by decide +kernel
theorem dX11_end_21 : decode cX11_end 21 = .ok (.putfield 7, 3) := by decide +kernel
theorem dX11_end_24 : decode cX11_end 24 = .ok (.iconst 1, 1) := by decide +kernel
theorem dX11_end_25 : decode cX11_end 25 = .ok (.ireturn, 1) := by decide +kernel
theorem dX11_lesser_0 : decode cX11_lesser 0 = .ok (.iload_n 0, 1) := by decide +kernel
theorem dX11_lesser_1 : decode cX11_lesser 1 = .ok (.iload_n 1, 1) := by decide +kernel
theorem dX11_lesser_2 : decode cX11_lesser 2 = .ok (.if_icmp .ge 7, 3) := by decide +kernel
theorem dX11_lesser_5 : decode cX11_lesser 5 = .ok (.iload_n 0, 1) := by decide +kernel
theorem dX11_lesser_6 : decode cX11_lesser 6 = .ok (.goto 4, 3) := by decide +kernel
theorem dX11_lesser_9 : decode cX11_lesser 9 = .ok (.iload_n 1, 1) := by decide +kernel
theorem dX11_lesser_10 : decode cX11_lesser 10 = .ok (.ireturn, 1) := by decide +kernel
theorem dX11_init_0 : decode cX11_init 0 = .ok (.aload_n 0, 1) := by decide +kernel
theorem dX11_init_1 : decode cX11_init 1 = .ok (.invokespecial 27, 3) := by decide +kernel
theorem dX11_init_4 : decode cX11_init 4 = .ok (.aload_n 0, 1) := by decide +kernel
theorem dX11_init_5 : decode cX11_init 5 = .ok (.sipush 940, 3) := by decide +kernel
theorem dX11_init_8 : decode cX11_init 8 = .ok (.newarray .byte, 2) := by decide +kernel
theorem dX11_init_10 : decode cX11_init 10 = .ok (.putfield 14, 3) := by decide +kernel
theorem dX11_init_13 : decode cX11_init 13 = .ok (.aload_n 0, 1) := by decide +kernel
theorem dX11_init_14 : decode cX11_init 14 = .ok (.sipush 457, 3) := by decide +kernel
theorem dX11_init_17 : decode cX11_init 17 = .ok (.newarray .int, 2) := by decide +kernel
theorem dX11_init_19 : decode cX11_init 19 = .ok (.putfield 33, 3) := by decide +kernel
theorem dX11_init_22 : decode cX11_init 22 = .ok (.aload_n 0, 1) := by decide +kernel
theorem dX11_init_23 : decode cX11_init 23 = .ok (.sipush 131, 3) := by decide +kernel
theorem dX11_init_26 : decode cX11_init 26 = .ok (.newarray .int, 2) := by decide +kernel
theorem dX11_init_28 : decode cX11_init 28 = .ok (.putfield 37, 3) := by decide +kernel
theorem dX11_init_31 : decode cX11_init 31 = .ok (.aload_n 0, 1) := by decide +kernel
theorem dX11_init_32 : decode cX11_init 32 = .ok (.sipush 160, 3) := by decide +kernel
theorem dX11_init_35 : decode cX11_init 35 = .ok (.newarray .int, 2) := by decide +kernel
theorem dX11_init_37 : decode cX11_init 37 = .ok (.putfield 40, 3) := by decide +kernel
theorem dX11_init_40 : decode cX11_init 40 = .ok (.aload_n 0, 1) := by decide +kernel
theorem dX11_init_41 : decode cX11_init 41 = .ok (.bipush 24, 2) := by decide +kernel
theorem dX11_init_43 : decode cX11_init 43 = .ok (.newarray .long, 2) := by decide +kernel
theorem dX11_init_45 : decode cX11_init 45 = .ok (.putfield 43, 3) := by decide +kernel
theorem dX11_init_48 : decode cX11_init 48 = .ok (.aload_n 0, 1) := by decide +kernel
theorem dX11_init_49 : decode cX11_init 49 = .ok (.bipush 24, 2) := by decide +kernel
theorem dX11_init_51 : decode cX11_init 51 = .ok (.newarray .long, 2) := by decide +kernel
theorem dX11_init_53 : decode cX11_init 53 = .ok (.putfield 47, 3) := by decide +kernel
theorem dX11_init_56 : decode cX11_init 56 = .ok (.aload_n 0, 1) := by decide +kernel
theorem dX11_init_57 : decode cX11_init 57 = .ok (.sipush 1160, 3) := by decide +kernel
theorem dX11_init_60 : decode cX11_init 60 = .ok (.newarray .int, 2) := by decide +kernel
theorem dX11_init_62 : decode cX11_init 62 = .ok (.putfield 50, 3) := by decide +kernel
theorem dX11_init_65 : decode cX11_init 65 = .ok (.aload_n 0, 1) := by decide +kernel
theorem dX11_init_66 : decode cX11_init 66 = .ok (.sipush 145, 3) := by decide +kernel
theorem dX11_init_69 : decode cX11_init 69 = .ok (.newarray .int, 2) := by decide +kernel
theorem dX11_init_71 : decode cX11_init 71 = .ok (.putfield 53, 3) := by decide +kernel
theorem dX11_init_74 : decode cX11_init 74 = .ok (.aload_n 0, 1) := by decide +kernel
theorem dX11_init_75 : decode cX11_init 75 = .ok (.sipush 256, 3) := by decide +kernel
theorem dX11_init_78 : decode cX11_init 78 = .ok (.newarray .int, 2) := by decide +kernel
theorem dX11_init_80 : decode cX11_init 80 = .ok (.putfield 56, 3) := by decide +kernel
theorem dX11_init_83 : decode cX11_init 83 = .ok (.aload_n 0, 1) := by decide +kernel
theorem dX11_init_84 : decode cX11_init 84 = .ok (.bipush 16, 2) := by decide +kernel
theorem dX11_init_86 : decode cX11_init 86 = .ok (.newarray .int, 2) := by decide +kernel
theorem dX11_init_88 : decode cX11_init 88 = .ok (.putfield 59, 3) := by decide +kernel
theorem dX11_init_91 : decode cX11_init 91 = .ok (.aload_n 0, 1) := by decide +kernel
theorem dX11_init_92 : decode cX11_init 92 = .ok (.bipush 16, 2) := by decide +kernel
theorem dX11_init_94 : decode cX11_init 94 = .ok (.newarray .int, 2) := by decide +kernel
theorem dX11_init_96 : decode cX11_init 96 = .ok (.putfield 62, 3) := by decide +kernel
theorem dX11_init_99 : decode cX11_init 99 = .ok (.aload_n 0, 1) := by decide +kernel
theorem dX11_init_100 : decode cX11_init 100 = .ok (.bipush 7, 2) := by decide +kernel
theorem dX11_init_102 : decode cX11_init 102 = .ok (.newarray .int, 2) := by decide +kernel
theorem dX11_init_104 : decode cX11_init 104 = .ok (.putfield 65, 3) := by decide +kernel
theorem dX11_init_107 : decode cX11_init 107 = .ok (.aload_n 0, 1) := by decide +kernel
theorem dX11_init_108 : decode cX11_init 108 = .ok (.bipush 7, 2) := by decide +kernel
theorem dX11_init_110 : decode cX11_init 110 = .ok (.newarray .int, 2) := by decide +kernel
theorem dX11_init_112 : decode cX11_init 112 = .ok (.putfield 68, 3) := by decide +kernel
theorem dX11_init_115 : decode cX11_init 115 = .ok (.aload_n 0, 1) := by decide +kernel
theorem dX11_init_116 : decode cX11_init 116 = .ok (.iconst (-1), 1) := by decide +kernel
theorem dX11_init_117 : decode cX11_init 117 = .ok (.putfield 71, 3) := by decide +kernel
theorem dX11_init_120 : decode cX11_init 120 = .ok (.aload_n 0, 1) := by decide +kernel
theorem dX11_init_121 : decode cX11_init 121 = .ok (.bipush 80, 2) := by decide +kernel
theorem dX11_init_123 : decode cX11_init 123 = .ok (.newarray .byte, 2) := by decide +kernel
theorem dX11_init_125 : decode cX11_init 125 = .ok (.putfield 74, 3) := by decide +kernel
theorem dX11_init_128 : decode cX11_init 128 = .ok (.aload_n 0, 1) := by decide +kernel
theorem dX11_init_129 : decode cX11_init 129 = .ok (.iconst 4, 1) := by decide +kernel
theorem dX11_init_130 : decode cX11_init 130 = .ok (.newarray .int, 2) := by decide +kernel
theorem dX11_init_132 : decode cX11_init 132 = .ok (.putfield 77, 3) := by decide +kernel
theorem dX11_init_135 : decode cX11_init 135 = .ok (.aload_n 0, 1) := by decide +kernel
theorem dX11_init_136 : decode cX11_init 136 = .ok (.bipush 45, 2) := by decide +kernel
theorem dX11_init_138 : decode cX11_init 138 = .ok (.newarray .int, 2) := by decide +kernel
theorem dX11_init_140 : decode cX11_init 140 = .ok (.putfield 80, 3) := by decide +kernel
theorem dX11_init_143 : decode cX11_init 143 = .ok (.aload_n 0, 1) := by decide +kernel
theorem dX11_init_144 : decode cX11_init 144 = .ok (.bipush 45, 2) := by decide +kernel
theorem dX11_init_146 : decode cX11_init 146 = .ok (.newarray .boolean, 2) := by decide +kernel
theorem dX11_init_148 : decode cX11_init 148 = .ok (.putfield 83, 3) := by decide +kernel
theorem dX11_init_151 : decode cX11_init 151 = .ok (.aload_n 0, 1) := by decide +kernel
theorem dX11_init_152 : decode cX11_init 152 = .ok (.sipush 914, 3) := by decide +kernel
theorem dX11_init_155 : decode cX11_init 155 = .ok (.newarray .int, 2) := by decide +kernel
theorem dX11_init_157 : decode cX11_init 157 = .ok (.putfield 87, 3) := by decide +kernel
theorem dX11_init_160 : decode cX11_init 160 = .ok (.aload_n 0, 1) := by decide +kernel
theorem dX11_init_161 : decode cX11_init 161 = .ok (.bipush 24, 2) := by decide +kernel
theorem dX11_init_163 : decode cX11_init 163 = .ok (.newarray .long, 2) := by decide +kernel
theorem dX11_init_165 : decode cX11_init 165 = .ok (.putfield 90, 3) := by decide +kernel
theorem dX11_init_168 : decode cX11_init 168 = .ok (.aload_n 0, 1) := by decide +kernel
theorem dX11_init_169 : decode cX11_init 169 = .ok (.iconst 2, 1) := by decide +kernel
theorem dX11_init_170 : decode cX11_init 170 = .ok (.newarray .boolean, 2) := by decide +kernel
theorem dX11_init_172 : decode cX11_init 172 = .ok (.putfield 93, 3) := by decide +kernel
theorem dX11_init_175 : decode cX11_init 175 = .ok (.aload_n 0, 1) := by decide +kernel
theorem dX11_init_176 : decode cX11_init 176 = .ok (.getfield 47, 3) := by decide +kernel
theorem dX11_init_179 : decode cX11_init 179 = .ok (.iconst 0, 1) := by decide +kernel
theorem dX11_init_180 : decode cX11_init 180 = .ok (.ldc2_w 96, 3) := by decide +kernel
theorem dX11_init_183 : decode cX11_init 183 = .ok (.lastore, 1) := by decide +kernel
theorem dX11_init_184 : decode cX11_init 184 = .ok (.aload_n 0, 1) := by decide +kernel
theorem dX11_init_185 : decode cX11_init 185 = .ok (.getfield 47, 3) := by decide +kernel
theorem dX11_init_188 : decode cX11_init 188 = .ok (.iconst 1, 1) := by decide +kernel
theorem dX11_init_189 : decode cX11_init 189 = .ok (.ldc2_w 98, 3) := by decide +kernel
theorem dX11_init_192 : decode cX11_init 192 = .ok (.lastore, 1) := by decide +kernel
theorem dX11_init_193 : decode cX11_init 193 = .ok (.aload_n 0, 1) := by decide +kernel
theorem dX11_init_194 : decode cX11_init 194 = .ok (.getfield 47, 3) := by decide +kernel
theorem dX11_init_197 : decode cX11_init 197 = .ok (.iconst 2, 1) := by decide +kernel
theorem dX11_init_198 : decode cX11_init 198 = .ok (.ldc2_w 100, 3) := by decide +kernel
theorem dX11_init_201 : decode cX11_init 201 = .ok (.lastore, 1) := by decide +kernel
theorem dX11_init_202 : decode cX11_init 202 = .ok (.aload_n 0, 1) := by decide +kernel
theorem dX11_init_203 : decode cX11_init 203 = .ok (.getfield 47, 3) := by decide +kernel
theorem dX11_init_206 : decode cX11_init 206 = .ok (.iconst 3, 1) := by decide +kernel
theorem dX11_init_207 : decode cX11_init 207 = .ok (.ldc2_w 102, 3) := by decide +kernel
theorem dX11_init_210 : decode cX11_init 210 = .ok (.lastore, 1) := by decide +kernel
theorem dX11_init_211 : decode cX11_init 211 = .ok (.aload_n 0, 1) := by decide +kernel
theorem dX11_init_212 : decode cX11_init 212 = .ok (.getfield 47, 3) := by decide +kernel
theorem dX11_init_215 : decode cX11_init 215 = .ok (.iconst 4, 1) := by decide +kernel
theorem dX11_init_216 : decode cX11_init 216 = .ok (.ldc2_w 104, 3) := by decide +kernel
theorem dX11_init_219 : decode cX11_init 219 = .ok (.lastore, 1) := by decide +kernel
theorem dX11_init_220 : decode cX11_init 220 = .ok (.aload_n 0, 1) := by decide +kernel
theorem dX11_init_221 : decode cX11_init 221 = .ok (.getfield 47, 3) := by decide +kernel
theorem dX11_init_224 : decode cX11_init 224 = .ok (.iconst 5, 1) := by decide +kernel
theorem dX11_init_225 : decode cX11_init 225 = .ok (.ldc2_w 106, 3) := by decide +kernel
theorem dX11_init_228 : decode cX11_init 228 = .ok (.lastore, 1) := by decide +kernel
theorem dX11_init_229 : decode cX11_init 229 = .ok (.aload_n 0, 1) := by decide +kernel
theorem dX11_init_230 : decode cX11_init 230 = .ok (.getfield 47, 3) := by decide +kernel
theorem dX11_init_233 : decode cX11_init 233 = .ok (.bipush 6, 2) := by decide +kernel
theorem dX11_init_235 : decode cX11_init 235 = .ok (.ldc2_w 108, 3) := by decide +kernel
theorem dX11_init_238 : decode cX11_init 238 = .ok (.lastore, 1) := by decide +kernel
theorem dX11_init_239 : decode cX11_init 239 = .ok (.aload_n 0, 1) := by decide +kernel
theorem dX11_init_240 : decode cX11_init 240 = .ok (.getfield 47, 3) := by decide +kernel
theorem dX11_init_243 : decode cX11_init 243 = .ok (.bipush 7, 2) := by decide +kernel
theorem dX11_init_245 : decode cX11_init 245 = .ok (.ldc2_w 110, 3) := by decide +kernel
theorem dX11_init_248 : decode cX11_init 248 = .ok (.lastore, 1) := by decide +kernel
theorem dX11_init_249 : decode cX11_init 249 = .ok (.aload_n 0, 1) := by decide +kernel
theorem dX11_init_250 : decode cX11_init 250 = .ok (.getfield 47, 3) := by decide +kernel
theorem dX11_init_253 : decode cX11_init 253 = .ok (.bipush 8, 2) := by decide +kernel
theorem dX11_init_255 : decode cX11_init 255 = .ok (.ldc2_w 112, 3) := by decide +kernel
theorem dX11_init_258 : decode cX11_init 258 = .ok (.lastore, 1) := by decide +kernel
theorem dX11_init_259 : decode cX11_init 259 = .ok (.aload_n 0, 1) := by decide +kernel
theorem dX11_init_260 : decode cX11_init 260 = .ok (.getfield 47, 3) := by decide +kernel
theorem dX11_init_263 : decode cX11_init 263 = .ok (.bipush 9, 2) := by decide +kernel
theorem dX11_init_265 : decode cX11_init 265 = .ok (.ldc2_w 114, 3) := by decide +kernel
theorem dX11_init_268 : decode cX11_init 268 = .ok (.lastore, 1) := by decide +kernel
theorem dX11_init_269 : decode cX11_init 269 = .ok (.aload_n 0, 1) := by decide +kernel
theorem dX11_init_270 : decode cX11_init 270 = .ok (.getfield 47, 3) := by decide +kernel
theorem dX11_init_273 : decode cX11_init 273 = .ok (.bipush 10, 2) := by decide +kernel
theorem dX11_init_275 : decode cX11_init 275 = .ok (.ldc2_w 116, 3) := by decide +kernel
theorem dX11_init_278 : decode cX11_init 278 = .ok (.lastore, 1) := by decide +kernel
theorem dX11_init_279 : decode cX11_init 279 = .ok (.aload_n 0, 1) := by decide +kernel
theorem dX11_init_280 : decode cX11_init 280 = .ok (.getfield 47, 3) := by decide +kernel
theorem dX11_init_283 : decode cX11_init 283 = .ok (.bipush 11, 2) := by decide +kernel
theorem dX11_init_285 : decode cX11_init 285 = .ok (.ldc2_w 118, 3) := by decide +kernel
theorem dX11_init_288 : decode cX11_init 288 = .ok (.lastore, 1) := by decide +kernel
theorem dX11_init_289 : decode cX11_init 289 = .ok (.aload_n 0, 1) := by decide +kernel
theorem dX11_init_290 : decode cX11_init 290 = .ok (.getfield 47, 3) := by decide +kernel
theorem dX11_init_293 : decode cX11_init 293 = .ok (.bipush 12, 2) := by decide +kernel
theorem dX11_init_295 : decode cX11_init 295 = .ok (.ldc2_w 120, 3) := by decide +kernel
theorem dX11_init_298 : decode cX11_init 298 = .ok (.lastore, 1) := by decide +kernel
theorem dX11_init_299 : decode cX11_init 299 = .ok (.aload_n 0, 1) := by decide +kernel
theorem dX11_init_300 : decode cX11_init 300 = .ok (.getfield 47, 3) := by decide +kernel
theorem dX11_init_303 : decode cX11_init 303 = .ok (.bipush 13, 2) := by decide +kernel
theorem dX11_init_305 : decode cX11_init 305 = .ok (.ldc2_w 122, 3) := by decide +kernel
theorem dX11_init_308 : decode cX11_init 308 = .ok (.lastore, 1) := by decide +kernel
theorem dX11_init_309 : decode cX11_init 309 = .ok (.aload_n 0, 1) := by decide +kernel
theorem dX11_init_310 : decode cX11_init 310 = .ok (.getfield 47, 3) := by decide +kernel
theorem dX11_init_313 : decode cX11_init 313 = .ok (.bipush 14, 2) := by decide +kernel
theorem dX11_init_315 : decode cX11_init 315 = .ok (.ldc2_w 124, 3) := by decide +kernel
theorem dX11_init_318 : decode cX11_init 318 = .ok (.lastore, 1) := by decide +kernel
theorem dX11_init_319 : decode cX11_init 319 = .ok (.aload_n 0, 1) := by decide +kernel
theorem dX11_init_320 : decode cX11_init 320 = .ok (.getfield 47, 3) := by decide +kernel
theorem dX11_init_323 : decode cX11_init 323 = .ok (.bipush 15, 2) := by decide +kernel
theorem dX11_init_325 : decode cX11_init 325 = .ok (.ldc2_w 126, 3) := by decide +kernel
theorem dX11_init_328 : decode cX11_init 328 = .ok (.lastore, 1) := by decide +kernel
theorem dX11_init_329 : decode cX11_init 329 = .ok (.aload_n 0, 1) := by decide +kernel
theorem dX11_init_330 : decode cX11_init 330 = .ok (.getfield 47, 3) := by decide +kernel
theorem dX11_init_333 : decode cX11_init 333 = .ok (.bipush 16, 2) := by decide +kernel
theorem dX11_init_335 : decode cX11_init 335 = .ok (.ldc2_w 128, 3) := by decide +kernel
theorem dX11_init_338 : decode cX11_init 338 = .ok (.lastore, 1) := by decide +kernel
theorem dX11_init_339 : decode cX11_init 339 = .ok (.aload_n 0, 1) := by decide +kernel
theorem dX11_init_340 : decode cX11_init 340 = .ok (.getfield 47, 3) := by decide +kernel
theorem dX11_init_343 : decode cX11_init 343 = .ok (.bipush 17, 2) := by decide +kernel
theorem dX11_init_345 : decode cX11_init 345 = .ok (.ldc2_w 130, 3) := by decide +kernel
theorem dX11_init_348 : decode cX11_init 348 = .ok (.lastore, 1) := by decide +kernel
theorem dX11_init_349 : decode cX11_init 349 = .ok (.aload_n 0, 1) := by decide +kernel
theorem dX11_init_350 : decode cX11_init 350 = .ok (.getfield 47, 3) := by decide +kernel
theorem dX11_init_353 : decode cX11_init 353 = .ok (.bipush 18, 2) := by decide +kernel
theorem dX11_init_355 : decode cX11_init 355 = .ok (.ldc2_w 132, 3) := by decide +kernel
theorem dX11_init_358 : decode cX11_init 358 = .ok (.lastore, 1) := by decide +kernel
theorem dX11_init_359 : decode cX11_init 359 = .ok (.aload_n 0, 1) := by decide +kernel
theorem dX11_init_360 : decode cX11_init 360 = .ok (.getfield 47, 3) := by decide +kernel
theorem dX11_init_363 : decode cX11_init 363 = .ok (.bipush 19, 2) := by decide +kernel
theorem dX11_init_365 : decode cX11_init 365 = .ok (.ldc2_w 134, 3) := by decide +kernel
theorem dX11_init_368 : decode cX11_init 368 = .ok (.lastore, 1) := by decide +kernel
theorem dX11_init_369 : decode cX11_init 369 = .ok (.aload_n 0, 1) := by decide +kernel
theorem dX11_init_370 : decode cX11_init 370 = .ok (.getfield 47, 3) := by decide +kernel
theorem dX11_init_373 : decode cX11_init 373 = .ok (.bipush 20, 2) := by decide +kernel
theorem dX11_init_375 : decode cX11_init 375 = .ok (.ldc2_w 136, 3) := by decide +kernel
theorem dX11_init_378 : decode cX11_init 378 = .ok (.lastore, 1) := by decide +kernel
theorem dX11_init_379 : decode cX11_init 379 = .ok (.aload_n 0, 1) := by decide +kernel
theorem dX11_init_380 : decode cX11_init 380 = .ok (.getfield 47, 3) := by decide +kernel
theorem dX11_init_383 : decode cX11_init 383 = .ok (.bipush 21, 2) := by decide +kernel
theorem dX11_init_385 : decode cX11_init 385 = .ok (.ldc2_w 138, 3) := by decide +kernel
theorem dX11_init_388 : decode cX11_init 388 = .ok (.lastore, 1) := by decide +kernel
theorem dX11_init_389 : decode cX11_init 389 = .ok (.aload_n 0, 1) := by decide +kernel
theorem dX11_init_390 : decode cX11_init 390 = .ok (.getfield 47, 3) := by decide +kernel
theorem dX11_init_393 : decode cX11_init 393 = .ok (.bipush 22, 2) := by decide +kernel
theorem dX11_init_395 : decode cX11_init 395 = .ok (.ldc2_w 140, 3) := by decide +kernel
theorem dX11_init_398 : decode cX11_init 398 = .ok (.lastore, 1) := by decide +kernel
theorem dX11_init_399 : decode cX11_init 399 = .ok (.aload_n 0, 1) := by decide +kernel
theorem dX11_init_400 : decode cX11_init 400 = .ok (.getfield 47, 3) := by decide +kernel
theorem dX11_init_403 : decode cX11_init 403 = .ok (.bipush 23, 2) := by decide +kernel
theorem dX11_init_405 : decode cX11_init 405 = .ok (.ldc2_w 142, 3) := by decide +kernel
theorem dX11_init_408 : decode cX11_init 408 = .ok (.lastore, 1) := by decide +kernel
theorem dX11_init_409 : decode cX11_init 409 = .ok (.aload_n 0, 1) := by decide +kernel
theorem dX11_init_410 : decode cX11_init 410 = .ok (.invokevirtual 144, 3) := by decide +kernel
theorem dX11_init_413 : decode cX11_init 413 = .ok (.iconst 0, 1) := by decide +kernel
theorem dX11_init_414 : decode cX11_init 414 = .ok (.istore_n 1, 1) := by decide +kernel
theorem dX11_init_415 : decode cX11_init 415 = .ok (.iload_n 1, 1) := by decide +kernel
theorem dX11_init_416 : decode cX11_init 416 = .ok (.sipush 131, 3) := by decide +kernel
theorem dX11_init_419 : decode cX11_init 419 = .ok (.if_icmp .ge 21, 3) := by decide +kernel
theorem dX11_init_422 : decode cX11_init 422 = .ok (.aload_n 0, 1) := by decide +kernel
theorem dX11_init_423 : decode cX11_init 423 = .ok (.getfield 33, 3) := by decide +kernel
theorem dX11_init_426 : decode cX11_init 426 = .ok (.iload_n 1, 1) := by decide +kernel
theorem dX11_init_427 : decode cX11_init 427 = .ok (.aload_n 0, 1) := by decide +kernel
theorem dX11_init_428 : decode cX11_init 428 = .ok (.getfield 37, 3) := by decide +kernel
theorem dX11_init_431 : decode cX11_init 431 = .ok (.iload_n 1, 1) := by decide +kernel
theorem dX11_init_432 : decode cX11_init 432 = .ok (.iaload, 1) := by decide +kernel
theorem dX11_init_433 : decode cX11_init 433 = .ok (.iastore, 1) := by decide +kernel
theorem dX11_init_434 : decode cX11_init 434 = .ok (.iinc 1 1, 3) := by decide +kernel
theorem dX11_init_437 : decode cX11_init 437 = .ok (.goto (-22), 3) := by decide +kernel
theorem dX11_init_440 : decode cX11_init 440 = .ok (.aload_n 0, 1) := by decide +kernel
theorem dX11_init_441 : decode cX11_init 441 = .ok (.getfield 33, 3) := by decide +kernel
theorem dX11_init_444 : decode cX11_init 444 = .ok (.sipush 135, 3) := by decide +kernel
theorem dX11_init_447 : decode cX11_init 447 = .ok (.iconst 1, 1) := by decide +kernel
theorem dX11_init_448 : decode cX11_init 448 = .ok (.iastore, 1) := by decide +kernel
theorem dX11_init_449 : decode cX11_init 449 = .ok (.return_, 1) := by decide +kernel
theorem dX11_isDigit_0 : decode cX11_isDigit 0 = .ok (.iload_n 0, 1) := by decide +kernel
theorem dX11_isDigit_1 : decode cX11_isDigit 1 = .ok (.bipush 48, 2) := by decide +kernel
theorem dX11_isDigit_3 : decode cX11_isDigit 3 = .ok (.if_icmp .lt 13, 3) := by decide +kernel
theorem dX11_isDigit_6 : decode cX11_isDigit 6 = .ok (.iload_n 0, 1) := by decide +kernel
theorem dX11_isDigit_7 : decode cX11_isDigit 7 = .ok (.bipush 57, 2) := by decide +kernel
theorem dX11_isDigit_9 : decode cX11_isDigit 9 = .ok (.if_icmp .gt 7, 3) := by decide +kernel
theorem dX11_isDigit_12 : decode cX11_isDigit 12 = .ok (.iconst 1, 1) := by decide +kernel
theorem dX11_isDigit_13 : decode cX11_isDigit 13 = .ok (.goto 4, 3) := by decide +kernel
theorem dX11_isDigit_16 : decode cX11_isDigit 16 = .ok (.iconst 0, 1) := by decide +kernel
theorem dX11_isDigit_17 : decode cX11_isDigit 17 = .ok (.ireturn, 1) := by decide +kernel
theorem dX11_isSign_0 : decode cX11_isSign 0 = .ok (.aload_n 0, 1) := by decide +kernel
theorem dX11_isSign_1 : decode cX11_isSign 1 = .ok (.getfield 157, 3) := by decide +kernel
theorem dX11_isSign_4 : decode cX11_isSign 4 = .ok (.iconst 3, 1) := by decide +kernel
theorem dX11_isSign_5 : decode cX11_isSign 5 = .ok (.if_icmp .ne 15, 3) := by decide +kernel
theorem dX11_isSign_8 : decode cX11_isSign 8 = .ok (.aload_n 0, 1) := by decide +kernel
theorem dX11_isSign_9 : decode cX11_isSign 9 = .ok (.getfield 167, 3) := by decide +kernel
theorem dX11_isSign_12 : decode cX11_isSign 12 = .ok (.iload_n 1, 1) := by decide +kernel
theorem dX11_isSign_13 : decode cX11_isSign 13 = .ok (.if_icmp .ne 7, 3) := by decide +kernel
theorem dX11_isSign_16 : decode cX11_isSign 16 = .ok (.iconst 1, 1) := by decide +kernel
theorem dX11_isSign_17 : decode cX11_isSign 17 = .ok (.goto 4, 3) := by decide +kernel
theorem dX11_isSign_20 : decode cX11_isSign 20 = .ok (.iconst 0, 1) := by decide +kernel
theorem dX11_isSign_21 : decode cX11_isSign 21 = .ok (.ireturn, 1) := by decide +kernel
theorem dX11_puts_0 : decode cX11_puts 0 = .ok (.aload_n 0, 1) := by decide +kernel
theorem dX11_puts_1 : decode cX11_puts 1 = .ok (.iload_n 2, 1) := by decide +kernel
theorem dX11_puts_2 : decode cX11_puts 2 = .ok (.iload_n 3, 1) := by decide +kernel
theorem dX11_puts_3 : decode cX11_puts 3 = .ok (.invokevirtual 196, 3) := by decide +kernel
theorem dX11_puts_6 : decode cX11_puts 6 = .ok (.ifCond .ne 5, 3) := by decide +kernel
theorem dX11_puts_9 : decode cX11_puts 9 = .ok (.iconst 0, 1) := by decide +kernel
theorem dX11_puts_10 : decode cX11_puts 10 = .ok (.ireturn, 1) := by decide +kernel
theorem dX11_puts_11 : decode cX11_puts 11 = .ok (.aload_n 0, 1) := by decide +kernel
theorem dX11_puts_12 : decode cX11_puts 12 = .ok (.getfield 37, 3) := by decide +kernel
theorem dX11_puts_15 : decode cX11_puts 15 = .ok (.iload_n 1, 1) := by decide +kernel
theorem dX11_puts_16 : decode cX11_puts 16 = .ok (.aload_n 0, 1) := by decide +kernel
theorem dX11_puts_17 : decode cX11_puts 17 = .ok (.getfield 193, 3) := by decide +kernel
theorem dX11_puts_20 : decode cX11_puts 20 = .ok (.iastore, 1) := by decide +kernel
theorem dX11_puts_21 : decode cX11_puts 21 = .ok (.iconst 1, 1) := by decide +kernel
theorem dX11_puts_22 : decode cX11_puts 22 = .ok (.ireturn, 1) := by decide +kernel
theorem dX11_takesName_0 : decode cX11_takesName 0 = .ok (.aload_n 0, 1) := by decide +kernel
theorem dX11_takesName_1 : decode cX11_takesName 1 = .ok (.iload_n 1, 1) := by decide +kernel
theorem dX11_takesName_2 : decode cX11_takesName 2 = .ok (.iload_n 2, 1) := by decide +kernel
theorem dX11_takesName_3 : decode cX11_takesName 3 = .ok (.invokevirtual 208, 3) := by decide +kernel
theorem dX11_takesName_6 : decode cX11_takesName 6 = .ok (.ifCond .ne 5, 3) := by decide +kernel
theorem dX11_takesName_9 : decode cX11_takesName 9 = .ok (.iconst 0, 1) := by decide +kernel
theorem dX11_takesName_10 : decode cX11_takesName 10 = .ok (.ireturn, 1) := by decide +kernel
theorem dX11_takesName_11 : decode cX11_takesName 11 = .ok (.aload_n 0, 1) := by decide +kernel
theorem dX11_takesName_12 : decode cX11_takesName 12 = .ok (.invokevirtual 186, 3) := by decide +kernel
theorem dX11_takesName_15 : decode cX11_takesName 15 = .ok (.iconst 1, 1) := by decide +kernel
theorem dX11_takesName_16 : decode cX11_takesName 16 = .ok (.ireturn, 1) := by decide +kernel
theorem dX11_readGood_0 : decode cX11_readGood 0 = .ok (.aload_n 0, 1) := by decide +kernel
theorem dX11_readGood_1 : decode cX11_readGood 1 = .ok (.getfield 37, 3) := by decide +kernel
theorem dX11_readGood_4 : decode cX11_readGood 4 = .ok (.iconst 1, 1) := by decide +kernel
theorem dX11_readGood_5 : decode cX11_readGood 5 = .ok (.iaload, 1) := by decide +kernel
theorem dX11_readGood_6 : decode cX11_readGood 6 = .ok (.istore_n 1, 1) := by decide +kernel
theorem dX11_readGood_7 : decode cX11_readGood 7 = .ok (.iload_n 1, 1) := by decide +kernel
theorem dX11_readGood_8 : decode cX11_readGood 8 = .ok (.iconst 5, 1) := by decide +kernel
theorem dX11_readGood_9 : decode cX11_readGood 9 = .ok (.if_icmp .ne 9, 3) := by decide +kernel
theorem dX11_readGood_12 : decode cX11_readGood 12 = .ok (.aload_n 0, 1) := by decide +kernel
theorem dX11_readGood_13 : decode cX11_readGood 13 = .ok (.iconst 4, 1) := by decide +kernel
theorem dX11_readGood_14 : decode cX11_readGood 14 = .ok (.invokevirtual 183, 3) := by decide +kernel
theorem dX11_readGood_17 : decode cX11_readGood 17 = .ok (.ireturn, 1) := by decide +kernel
theorem dX11_readGood_18 : decode cX11_readGood 18 = .ok (.aload_n 0, 1) := by decide +kernel
theorem dX11_readGood_19 : decode cX11_readGood 19 = .ok (.invokevirtual 186, 3) := by decide +kernel
theorem dX11_readGood_22 : decode cX11_readGood 22 = .ok (.aload_n 0, 1) := by decide +kernel
theorem dX11_readGood_23 : decode cX11_readGood 23 = .ok (.bipush 19, 2) := by decide +kernel
theorem dX11_readGood_25 : decode cX11_readGood 25 = .ok (.iload_n 1, 1) := by decide +kernel
theorem dX11_readGood_26 : decode cX11_readGood 26 = .ok (.iadd, 1) := by decide +kernel
theorem dX11_readGood_27 : decode cX11_readGood 27 = .ok (.invokevirtual 241, 3) := by decide +kernel
theorem dX11_readGood_30 : decode cX11_readGood 30 = .ok (.ifCond .ne 5, 3) := by decide +kernel
theorem dX11_readGood_33 : decode cX11_readGood 33 = .ok (.iconst 0, 1) := by decide +kernel
theorem dX11_readGood_34 : decode cX11_readGood 34 = .ok (.ireturn, 1) := by decide +kernel
theorem dX11_readGood_35 : decode cX11_readGood 35 = .ok (.aload_n 0, 1) := by decide +kernel
theorem dX11_readGood_36 : decode cX11_readGood 36 = .ok (.getfield 37, 3) := by decide +kernel
theorem dX11_readGood_39 : decode cX11_readGood 39 = .ok (.iconst 1, 1) := by decide +kernel
theorem dX11_readGood_40 : decode cX11_readGood 40 = .ok (.dup2, 1) := by decide +kernel
theorem dX11_readGood_41 : decode cX11_readGood 41 = .ok (.iaload, 1) := by decide +kernel
theorem dX11_readGood_42 : decode cX11_readGood 42 = .ok (.iconst 1, 1) := by decide +kernel
theorem dX11_readGood_43 : decode cX11_readGood 43 = .ok (.iadd, 1) := by decide +kernel
theorem dX11_readGood_44 : decode cX11_readGood 44 = .ok (.iastore, 1) := by decide +kernel
theorem dX11_readGood_45 : decode cX11_readGood 45 = .ok (.iconst 1, 1) := by decide +kernel
theorem dX11_readGood_46 : decode cX11_readGood 46 = .ok (.ireturn, 1) := by decide +kernel
theorem dX11_fault_0 : decode cX11_fault 0 = .ok (.aload_n 0, 1) := by decide +kernel
theorem dX11_fault_1 : decode cX11_fault 1 = .ok (.iconst 0, 1) := by decide +kernel
theorem dX11_fault_2 : decode cX11_fault 2 = .ok (.putfield 1, 3) := by decide +kernel
theorem dX11_fault_5 : decode cX11_fault 5 = .ok (.aload_n 0, 1) := by decide +kernel
theorem dX11_fault_6 : decode cX11_fault 6 = .ok (.getfield 174, 3) := by decide +kernel
theorem dX11_fault_9 : decode cX11_fault 9 = .ok (.ireturn, 1) := by decide +kernel
theorem dX11_mayBy_0 : decode cX11_mayBy 0 = .ok (.iconst 1, 1) := by decide +kernel
theorem dX11_mayBy_1 : decode cX11_mayBy 1 = .ok (.aload_n 0, 1) := by decide +kernel
theorem dX11_mayBy_2 : decode cX11_mayBy 2 = .ok (.getfield 33, 3) := by decide +kernel
theorem dX11_mayBy_5 : decode cX11_mayBy 5 = .ok (.iconst 0, 1) := by decide +kernel
theorem dX11_mayBy_6 : decode cX11_mayBy 6 = .ok (.iaload, 1) := by decide +kernel
theorem dX11_mayBy_7 : decode cX11_mayBy 7 = .ok (.ishl, 1) := by decide +kernel
theorem dX11_mayBy_8 : decode cX11_mayBy 8 = .ok (.iconst 1, 1) := by decide +kernel
theorem dX11_mayBy_9 : decode cX11_mayBy 9 = .ok (.isub, 1) := by decide +kernel
theorem dX11_mayBy_10 : decode cX11_mayBy 10 = .ok (.iconst 1, 1) := by decide +kernel
theorem dX11_mayBy_11 : decode cX11_mayBy 11 = .ok (.iload_n 1, 1) := by decide +kernel
theorem dX11_mayBy_12 : decode cX11_mayBy 12 = .ok (.ishl, 1) := by decide +kernel
theorem dX11_mayBy_13 : decode cX11_mayBy 13 = .ok (.iconst (-1), 1) := by decide +kernel
theorem dX11_mayBy_14 : decode cX11_mayBy 14 = .ok (.ixor, 1) := by decide +kernel
theorem dX11_mayBy_15 : decode cX11_mayBy 15 = .ok (.iand, 1) := by decide +kernel
theorem dX11_mayBy_16 : decode cX11_mayBy 16 = .ok (.aload_n 0, 1) := by decide +kernel
theorem dX11_mayBy_17 : decode cX11_mayBy 17 = .ok (.iload_n 1, 1) := by decide +kernel
theorem dX11_mayBy_18 : decode cX11_mayBy 18 = .ok (.invokevirtual 265, 3) := by decide +kernel
theorem dX11_mayBy_21 : decode cX11_mayBy 21 = .ok (.iconst (-1), 1) := by decide +kernel
theorem dX11_mayBy_22 : decode cX11_mayBy 22 = .ok (.ixor, 1) := by decide +kernel
theorem dX11_mayBy_23 : decode cX11_mayBy 23 = .ok (.aload_n 0, 1) := by decide +kernel
theorem dX11_mayBy_24 : decode cX11_mayBy 24 = .ok (.getfield 33, 3) := by decide +kernel
theorem dX11_mayBy_27 : decode cX11_mayBy 27 = .ok (.bipush 124, 2) := by decide +kernel
theorem dX11_mayBy_29 : decode cX11_mayBy 29 = .ok (.iload_n 1, 1) := by decide +kernel
theorem dX11_mayBy_30 : decode cX11_mayBy 30 = .ok (.iadd, 1) := by decide +kernel
theorem dX11_mayBy_31 : decode cX11_mayBy 31 = .ok (.iaload, 1) := by decide +kernel
theorem dX11_mayBy_32 : decode cX11_mayBy 32 = .ok (.ior, 1) := by decide +kernel
theorem dX11_mayBy_33 : decode cX11_mayBy 33 = .ok (.iand, 1) := by decide +kernel
theorem dX11_mayBy_34 : decode cX11_mayBy 34 = .ok (.ireturn, 1) := by decide +kernel
theorem dX11_fed_0 : decode cX11_fed 0 = .ok (.iconst 0, 1) := by decide +kernel
theorem dX11_fed_1 : decode cX11_fed 1 = .ok (.istore_n 1, 1) := by decide +kernel
theorem dX11_fed_2 : decode cX11_fed 2 = .ok (.iconst 0, 1) := by decide +kernel
theorem dX11_fed_3 : decode cX11_fed 3 = .ok (.istore_n 2, 1) := by decide +kernel
theorem dX11_fed_4 : decode cX11_fed 4 = .ok (.iload_n 2, 1) := by decide +kernel
theorem dX11_fed_5 : decode cX11_fed 5 = .ok (.aload_n 0, 1) := by decide +kernel
theorem dX11_fed_6 : decode cX11_fed 6 = .ok (.getfield 33, 3) := by decide +kernel
theorem dX11_fed_9 : decode cX11_fed 9 = .ok (.iconst 0, 1) := by decide +kernel
theorem dX11_fed_10 : decode cX11_fed 10 = .ok (.iaload, 1) := by decide +kernel
theorem dX11_fed_11 : decode cX11_fed 11 = .ok (.if_icmp .ge 27, 3) := by decide +kernel
theorem dX11_fed_14 : decode cX11_fed 14 = .ok (.iload_n 1, 1) := by decide +kernel
theorem dX11_fed_15 : decode cX11_fed 15 = .ok (.aload_n 0, 1) := by decide +kernel
theorem dX11_fed_16 : decode cX11_fed 16 = .ok (.iload_n 2, 1) := by decide +kernel
theorem dX11_fed_17 : decode cX11_fed 17 = .ok (.invokevirtual 269, 3) := by decide +kernel
theorem dX11_fed_20 : decode cX11_fed 20 = .ok (.ifCond .ne 9, 3) := by decide +kernel
theorem dX11_fed_23 : decode cX11_fed 23 = .ok (.iconst 1, 1) := by decide +kernel
theorem dX11_fed_24 : decode cX11_fed 24 = .ok (.iload_n 2, 1) := by decide +kernel
theorem dX11_fed_25 : decode cX11_fed 25 = .ok (.ishl, 1) := by decide +kernel
theorem dX11_fed_26 : decode cX11_fed 26 = .ok (.goto 4, 3) := by decide +kernel
theorem dX11_fed_29 : decode cX11_fed 29 = .ok (.iconst 0, 1) := by decide +kernel
theorem dX11_fed_30 : decode cX11_fed 30 = .ok (.ior, 1) := by decide +kernel
theorem dX11_fed_31 : decode cX11_fed 31 = .ok (.istore_n 1, 1) := by decide +kernel
theorem dX11_fed_32 : decode cX11_fed 32 = .ok (.iinc 2 1, 3) := by decide +kernel
theorem dX11_fed_35 : decode cX11_fed 35 = .ok (.goto (-31), 3) := by decide +kernel
theorem dX11_fed_38 : decode cX11_fed 38 = .ok (.iload_n 1, 1) := by decide +kernel
theorem dX11_fed_39 : decode cX11_fed 39 = .ok (.ireturn, 1) := by decide +kernel
theorem dX11_now_0 : decode cX11_now 0 = .ok (.aload_n 0, 1) := by decide +kernel
theorem dX11_now_1 : decode cX11_now 1 = .ok (.iconst 0, 1) := by decide +kernel
theorem dX11_now_2 : decode cX11_now 2 = .ok (.putfield 1, 3) := by decide +kernel
theorem dX11_now_5 : decode cX11_now 5 = .ok (.iconst 0, 1) := by decide +kernel
theorem dX11_now_6 : decode cX11_now 6 = .ok (.istore_n 2, 1) := by decide +kernel
theorem dX11_now_7 : decode cX11_now 7 = .ok (.iconst 0, 1) := by decide +kernel
theorem dX11_now_8 : decode cX11_now 8 = .ok (.istore_n 3, 1) := by decide +kernel
theorem dX11_now_9 : decode cX11_now 9 = .ok (.iconst 0, 1) := by decide +kernel
theorem dX11_now_10 : decode cX11_now 10 = .ok (.istore 4, 2) := by decide +kernel
theorem dX11_now_12 : decode cX11_now 12 = .ok (.iload 4, 2) := by decide +kernel
theorem dX11_now_14 : decode cX11_now 14 = .ok (.aload_n 0, 1) := by decide +kernel
theorem dX11_now_15 : decode cX11_now 15 = .ok (.getfield 33, 3) := by decide +kernel
theorem dX11_now_18 : decode cX11_now 18 = .ok (.iconst 0, 1) := by decide +kernel
theorem dX11_now_19 : decode cX11_now 19 = .ok (.iaload, 1) := by decide +kernel
theorem dX11_now_20 : decode cX11_now 20 = .ok (.if_icmp .ge 40, 3) := by decide +kernel
theorem dX11_now_23 : decode cX11_now 23 = .ok (.iload_n 2, 1) := by decide +kernel
theorem dX11_now_24 : decode cX11_now 24 = .ok (.aload_n 0, 1) := by decide +kernel
theorem dX11_now_25 : decode cX11_now 25 = .ok (.getfield 33, 3) := by decide +kernel
theorem dX11_now_28 : decode cX11_now 28 = .ok (.sipush 220, 3) := by decide +kernel
theorem dX11_now_31 : decode cX11_now 31 = .ok (.iload 4, 2) := by decide +kernel
theorem dX11_now_33 : decode cX11_now 33 = .ok (.iadd, 1) := by decide +kernel
theorem dX11_now_34 : decode cX11_now 34 = .ok (.iaload, 1) := by decide +kernel
theorem dX11_now_35 : decode cX11_now 35 = .ok (.invokestatic 284, 3) := by decide +kernel
theorem dX11_now_38 : decode cX11_now 38 = .ok (.iadd, 1) := by decide +kernel
theorem dX11_now_39 : decode cX11_now 39 = .ok (.istore_n 2, 1) := by decide +kernel
theorem dX11_now_40 : decode cX11_now 40 = .ok (.iload_n 3, 1) := by decide +kernel
theorem dX11_now_41 : decode cX11_now 41 = .ok (.aload_n 0, 1) := by decide +kernel
theorem dX11_now_42 : decode cX11_now 42 = .ok (.getfield 33, 3) := by decide +kernel
theorem dX11_now_45 : decode cX11_now 45 = .ok (.sipush 213, 3) := by decide +kernel
theorem dX11_now_48 : decode cX11_now 48 = .ok (.iload 4, 2) := by decide +kernel
theorem dX11_now_50 : decode cX11_now 50 = .ok (.iadd, 1) := by decide +kernel
theorem dX11_now_51 : decode cX11_now 51 = .ok (.iaload, 1) := by decide +kernel
theorem dX11_now_52 : decode cX11_now 52 = .ok (.iadd, 1) := by decide +kernel
theorem dX11_now_53 : decode cX11_now 53 = .ok (.istore_n 3, 1) := by decide +kernel
theorem dX11_now_54 : decode cX11_now 54 = .ok (.iinc 4 1, 3) := by decide +kernel
theorem dX11_now_57 : decode cX11_now 57 = .ok (.goto (-45), 3) := by decide +kernel
theorem dX11_now_60 : decode cX11_now 60 = .ok (.iload_n 1, 1) := by decide +kernel
theorem dX11_now_61 : decode cX11_now 61 = .ok (.tableswitch 103 0 7 #[47, 56, 65, 74, 79, 88, 97, 101], 47) := by decide +kernel
theorem dX11_now_108 : decode cX11_now 108 = .ok (.aload_n 0, 1) := by decide +kernel
theorem dX11_now_109 : decode cX11_now 109 = .ok (.getfield 33, 3) := by decide +kernel
theorem dX11_now_112 : decode cX11_now 112 = .ok (.sipush 131, 3) := by decide +kernel
theorem dX11_now_115 : decode cX11_now 115 = .ok (.iaload, 1) := by decide +kernel
theorem dX11_now_116 : decode cX11_now 116 = .ok (.ireturn, 1) := by decide +kernel
theorem dX11_now_117 : decode cX11_now 117 = .ok (.aload_n 0, 1) := by decide +kernel
theorem dX11_now_118 : decode cX11_now 118 = .ok (.getfield 33, 3) := by decide +kernel
theorem dX11_now_121 : decode cX11_now 121 = .ok (.sipush 133, 3) := by decide +kernel
theorem dX11_now_124 : decode cX11_now 124 = .ok (.iaload, 1) := by decide +kernel
theorem dX11_now_125 : decode cX11_now 125 = .ok (.ireturn, 1) := by decide +kernel
theorem dX11_now_126 : decode cX11_now 126 = .ok (.aload_n 0, 1) := by decide +kernel
theorem dX11_now_127 : decode cX11_now 127 = .ok (.getfield 33, 3) := by decide +kernel
theorem dX11_now_130 : decode cX11_now 130 = .ok (.sipush 134, 3) := by decide +kernel
theorem dX11_now_133 : decode cX11_now 133 = .ok (.iaload, 1) := by decide +kernel
theorem dX11_now_134 : decode cX11_now 134 = .ok (.ireturn, 1) := by decide +kernel
theorem dX11_now_135 : decode cX11_now 135 = .ok (.aload_n 0, 1) := by decide +kernel
theorem dX11_now_136 : decode cX11_now 136 = .ok (.invokevirtual 287, 3) := by decide +kernel
theorem dX11_now_139 : decode cX11_now 139 = .ok (.ireturn, 1) := by decide +kernel
theorem dX11_now_140 : decode cX11_now 140 = .ok (.aload_n 0, 1) := by decide +kernel
theorem dX11_now_141 : decode cX11_now 141 = .ok (.getfield 33, 3) := by decide +kernel
theorem dX11_now_144 : decode cX11_now 144 = .ok (.sipush 135, 3) := by decide +kernel
theorem dX11_now_147 : decode cX11_now 147 = .ok (.iaload, 1) := by decide +kernel
theorem dX11_now_148 : decode cX11_now 148 = .ok (.ireturn, 1) := by decide +kernel
theorem dX11_now_149 : decode cX11_now 149 = .ok (.aload_n 0, 1) := by decide +kernel
theorem dX11_now_150 : decode cX11_now 150 = .ok (.getfield 33, 3) := by decide +kernel
theorem dX11_now_153 : decode cX11_now 153 = .ok (.sipush 132, 3) := by decide +kernel
theorem dX11_now_156 : decode cX11_now 156 = .ok (.iaload, 1) := by decide +kernel
theorem dX11_now_157 : decode cX11_now 157 = .ok (.ireturn, 1) := by decide +kernel
theorem dX11_now_158 : decode cX11_now 158 = .ok (.iload_n 2, 1) := by decide +kernel
theorem dX11_now_159 : decode cX11_now 159 = .ok (.iconst 2, 1) := by decide +kernel
theorem dX11_now_160 : decode cX11_now 160 = .ok (.idiv, 1) := by decide +kernel
theorem dX11_now_161 : decode cX11_now 161 = .ok (.ireturn, 1) := by decide +kernel
theorem dX11_now_162 : decode cX11_now 162 = .ok (.iload_n 3, 1) := by decide +kernel
theorem dX11_now_163 : decode cX11_now 163 = .ok (.ireturn, 1) := by decide +kernel
theorem dX11_now_164 : decode cX11_now 164 = .ok (.iconst (-1), 1) := by decide +kernel
theorem dX11_now_165 : decode cX11_now 165 = .ok (.ireturn, 1) := by decide +kernel
theorem dX11_whyNod_0 : decode cX11_whyNod 0 = .ok (.iload_n 1, 1) := by decide +kernel
theorem dX11_whyNod_1 : decode cX11_whyNod 1 = .ok (.iload_n 2, 1) := by decide +kernel
theorem dX11_whyNod_2 : decode cX11_whyNod 2 = .ok (.if_icmp .ne 7, 3) := by decide +kernel
theorem dX11_whyNod_5 : decode cX11_whyNod 5 = .ok (.iconst 1, 1) := by decide +kernel
theorem dX11_whyNod_6 : decode cX11_whyNod 6 = .ok (.goto 40, 3) := by decide +kernel
theorem dX11_whyNod_9 : decode cX11_whyNod 9 = .ok (.aload_n 0, 1) := by decide +kernel
theorem dX11_whyNod_10 : decode cX11_whyNod 10 = .ok (.iload_n 1, 1) := by decide +kernel
theorem dX11_whyNod_11 : decode cX11_whyNod 11 = .ok (.invokevirtual 290, 3) := by decide +kernel
theorem dX11_whyNod_14 : decode cX11_whyNod 14 = .ok (.ifCond .ne 11, 3) := by decide +kernel
theorem dX11_whyNod_17 : decode cX11_whyNod 17 = .ok (.aload_n 0, 1) := by decide +kernel
theorem dX11_whyNod_18 : decode cX11_whyNod 18 = .ok (.iload_n 2, 1) := by decide +kernel
theorem dX11_whyNod_19 : decode cX11_whyNod 19 = .ok (.invokevirtual 290, 3) := by decide +kernel
theorem dX11_whyNod_22 : decode cX11_whyNod 22 = .ok (.ifCond .eq 7, 3) := by decide +kernel
theorem dX11_whyNod_25 : decode cX11_whyNod 25 = .ok (.iconst 2, 1) := by decide +kernel
theorem dX11_whyNod_26 : decode cX11_whyNod 26 = .ok (.goto 20, 3) := by decide +kernel
theorem dX11_whyNod_29 : decode cX11_whyNod 29 = .ok (.aload_n 0, 1) := by decide +kernel
theorem dX11_whyNod_30 : decode cX11_whyNod 30 = .ok (.iload_n 1, 1) := by decide +kernel
theorem dX11_whyNod_31 : decode cX11_whyNod 31 = .ok (.invokevirtual 265, 3) := by decide +kernel
theorem dX11_whyNod_34 : decode cX11_whyNod 34 = .ok (.iload_n 2, 1) := by decide +kernel
theorem dX11_whyNod_35 : decode cX11_whyNod 35 = .ok (.invokestatic 214, 3) := by decide +kernel
theorem dX11_whyNod_38 : decode cX11_whyNod 38 = .ok (.ifCond .eq 7, 3) := by decide +kernel
theorem dX11_whyNod_41 : decode cX11_whyNod 41 = .ok (.iconst 3, 1) := by decide +kernel
theorem dX11_whyNod_42 : decode cX11_whyNod 42 = .ok (.goto 4, 3) := by decide +kernel
theorem dX11_whyNod_45 : decode cX11_whyNod 45 = .ok (.iconst 0, 1) := by decide +kernel
theorem dX11_whyNod_46 : decode cX11_whyNod 46 = .ok (.ireturn, 1) := by decide +kernel
theorem dX11_whyTell_0 : decode cX11_whyTell 0 = .ok (.iload_n 1, 1) := by decide +kernel
theorem dX11_whyTell_1 : decode cX11_whyTell 1 = .ok (.iload_n 2, 1) := by decide +kernel
theorem dX11_whyTell_2 : decode cX11_whyTell 2 = .ok (.if_icmp .eq 13, 3) := by decide +kernel
theorem dX11_whyTell_5 : decode cX11_whyTell 5 = .ok (.iload_n 1, 1) := by decide +kernel
theorem dX11_whyTell_6 : decode cX11_whyTell 6 = .ok (.iload_n 3, 1) := by decide +kernel
theorem dX11_whyTell_7 : decode cX11_whyTell 7 = .ok (.if_icmp .eq 8, 3) := by decide +kernel
theorem dX11_whyTell_10 : decode cX11_whyTell 10 = .ok (.iload_n 2, 1) := by decide +kernel
theorem dX11_whyTell_11 : decode cX11_whyTell 11 = .ok (.iload_n 3, 1) := by decide +kernel
theorem dX11_whyTell_12 : decode cX11_whyTell 12 = .ok (.if_icmp .ne 7, 3) := by decide +kernel
theorem dX11_whyTell_15 : decode cX11_whyTell 15 = .ok (.iconst 1, 1) := by decide +kernel
theorem dX11_whyTell_16 : decode cX11_whyTell 16 = .ok (.goto 48, 3) := by decide +kernel
theorem dX11_whyTell_19 : decode cX11_whyTell 19 = .ok (.aload_n 0, 1) := by decide +kernel
theorem dX11_whyTell_20 : decode cX11_whyTell 20 = .ok (.iload_n 1, 1) := by decide +kernel
theorem dX11_whyTell_21 : decode cX11_whyTell 21 = .ok (.invokevirtual 265, 3) := by decide +kernel
theorem dX11_whyTell_24 : decode cX11_whyTell 24 = .ok (.iload_n 2, 1) := by decide +kernel
theorem dX11_whyTell_25 : decode cX11_whyTell 25 = .ok (.invokestatic 214, 3) := by decide +kernel
theorem dX11_whyTell_28 : decode cX11_whyTell 28 = .ok (.ifCond .eq 15, 3) := by decide +kernel
theorem dX11_whyTell_31 : decode cX11_whyTell 31 = .ok (.aload_n 0, 1) := by decide +kernel
theorem dX11_whyTell_32 : decode cX11_whyTell 32 = .ok (.iload_n 1, 1) := by decide +kernel
theorem dX11_whyTell_33 : decode cX11_whyTell 33 = .ok (.invokevirtual 265, 3) := by decide +kernel
theorem dX11_whyTell_36 : decode cX11_whyTell 36 = .ok (.iload_n 3, 1) := by decide +kernel
theorem dX11_whyTell_37 : decode cX11_whyTell 37 = .ok (.invokestatic 214, 3) := by decide +kernel
theorem dX11_whyTell_40 : decode cX11_whyTell 40 = .ok (.ifCond .ne 7, 3) := by decide +kernel
theorem dX11_whyTell_43 : decode cX11_whyTell 43 = .ok (.iconst 2, 1) := by decide +kernel
theorem dX11_whyTell_44 : decode cX11_whyTell 44 = .ok (.goto 20, 3) := by decide +kernel
theorem dX11_whyTell_47 : decode cX11_whyTell 47 = .ok (.aload_n 0, 1) := by decide +kernel
theorem dX11_whyTell_48 : decode cX11_whyTell 48 = .ok (.iload_n 2, 1) := by decide +kernel
theorem dX11_whyTell_49 : decode cX11_whyTell 49 = .ok (.invokevirtual 265, 3) := by decide +kernel
theorem dX11_whyTell_52 : decode cX11_whyTell 52 = .ok (.iload_n 3, 1) := by decide +kernel
theorem dX11_whyTell_53 : decode cX11_whyTell 53 = .ok (.invokestatic 214, 3) := by decide +kernel
theorem dX11_whyTell_56 : decode cX11_whyTell 56 = .ok (.ifCond .eq 7, 3) := by decide +kernel
theorem dX11_whyTell_59 : decode cX11_whyTell 59 = .ok (.iconst 3, 1) := by decide +kernel
theorem dX11_whyTell_60 : decode cX11_whyTell 60 = .ok (.goto 4, 3) := by decide +kernel
theorem dX11_whyTell_63 : decode cX11_whyTell 63 = .ok (.iconst 0, 1) := by decide +kernel
theorem dX11_whyTell_64 : decode cX11_whyTell 64 = .ok (.ireturn, 1) := by decide +kernel
theorem dX11_buy_0 : decode cX11_buy 0 = .ok (.aload_n 0, 1) := by decide +kernel
theorem dX11_buy_1 : decode cX11_buy 1 = .ok (.iconst 0, 1) := by decide +kernel
theorem dX11_buy_2 : decode cX11_buy 2 = .ok (.putfield 1, 3) := by decide +kernel
theorem dX11_buy_5 : decode cX11_buy 5 = .ok (.aload_n 0, 1) := by decide +kernel
theorem dX11_buy_6 : decode cX11_buy 6 = .ok (.iload_n 1, 1) := by decide +kernel
theorem dX11_buy_7 : decode cX11_buy 7 = .ok (.invokevirtual 272, 3) := by decide +kernel
theorem dX11_buy_10 : decode cX11_buy 10 = .ok (.ifCond .eq 19, 3) := by decide +kernel
theorem dX11_buy_13 : decode cX11_buy 13 = .ok (.aload_n 0, 1) := by decide +kernel
theorem dX11_buy_14 : decode cX11_buy 14 = .ok (.iload_n 2, 1) := by decide +kernel
theorem dX11_buy_15 : decode cX11_buy 15 = .ok (.invokevirtual 281, 3) := by decide +kernel
theorem dX11_buy_18 : decode cX11_buy 18 = .ok (.ifCond .eq 11, 3) := by decide +kernel
theorem dX11_buy_21 : decode cX11_buy 21 = .ok (.aload_n 0, 1) := by decide +kernel
theorem dX11_buy_22 : decode cX11_buy 22 = .ok (.iload_n 3, 1) := by decide +kernel
theorem dX11_buy_23 : decode cX11_buy 23 = .ok (.invokevirtual 272, 3) := by decide +kernel
theorem dX11_buy_26 : decode cX11_buy 26 = .ok (.ifCond .ne 5, 3) := by decide +kernel
theorem dX11_buy_29 : decode cX11_buy 29 = .ok (.iconst (-1), 1) := by decide +kernel
theorem dX11_buy_30 : decode cX11_buy 30 = .ok (.ireturn, 1) := by decide +kernel
theorem dX11_buy_31 : decode cX11_buy 31 = .ok (.aload_n 0, 1) := by decide +kernel
theorem dX11_buy_32 : decode cX11_buy 32 = .ok (.iload_n 1, 1) := by decide +kernel
theorem dX11_buy_33 : decode cX11_buy 33 = .ok (.iload_n 2, 1) := by decide +kernel
theorem dX11_buy_34 : decode cX11_buy 34 = .ok (.iload_n 3, 1) := by decide +kernel
theorem dX11_buy_35 : decode cX11_buy 35 = .ok (.invokevirtual 306, 3) := by decide +kernel
theorem dX11_buy_38 : decode cX11_buy 38 = .ok (.istore 4, 2) := by decide +kernel
theorem dX11_buy_40 : decode cX11_buy 40 = .ok (.iload 4, 2) := by decide +kernel
theorem dX11_buy_42 : decode cX11_buy 42 = .ok (.ifCond .le 6, 3) := by decide +kernel
theorem dX11_buy_45 : decode cX11_buy 45 = .ok (.iload 4, 2) := by decide +kernel
theorem dX11_buy_47 : decode cX11_buy 47 = .ok (.ireturn, 1) := by decide +kernel
theorem dX11_buy_48 : decode cX11_buy 48 = .ok (.aload_n 0, 1) := by decide +kernel
theorem dX11_buy_49 : decode cX11_buy 49 = .ok (.invokevirtual 310, 3) := by decide +kernel
theorem dX11_buy_52 : decode cX11_buy 52 = .ok (.aload_n 0, 1) := by decide +kernel
theorem dX11_buy_53 : decode cX11_buy 53 = .ok (.iload_n 1, 1) := by decide +kernel
theorem dX11_buy_54 : decode cX11_buy 54 = .ok (.iload_n 2, 1) := by decide +kernel
theorem dX11_buy_55 : decode cX11_buy 55 = .ok (.iload_n 3, 1) := by decide +kernel
theorem dX11_buy_56 : decode cX11_buy 56 = .ok (.invokevirtual 313, 3) := by decide +kernel
theorem dX11_buy_59 : decode cX11_buy 59 = .ok (.iconst 0, 1) := by decide +kernel
theorem dX11_buy_60 : decode cX11_buy 60 = .ok (.ireturn, 1) := by decide +kernel
theorem dX11_days_0 : decode cX11_days 0 = .ok (.aload_n 0, 1) := by decide +kernel
theorem dX11_days_1 : decode cX11_days 1 = .ok (.iconst 0, 1) := by decide +kernel
theorem dX11_days_2 : decode cX11_days 2 = .ok (.putfield 1, 3) := by decide +kernel
theorem dX11_days_5 : decode cX11_days 5 = .ok (.iload_n 1, 1) := by decide +kernel
theorem dX11_days_6 : decode cX11_days 6 = .ok (.iconst 1, 1) := by decide +kernel
theorem dX11_days_7 : decode cX11_days 7 = .ok (.bipush 60, 2) := by decide +kernel
theorem dX11_days_9 : decode cX11_days 9 = .ok (.invokestatic 189, 3) := by decide +kernel
theorem dX11_days_12 : decode cX11_days 12 = .ok (.ifCond .ne 5, 3) := by decide +kernel
theorem dX11_days_15 : decode cX11_days 15 = .ok (.iconst (-1), 1) := by decide +kernel
theorem dX11_days_16 : decode cX11_days 16 = .ok (.ireturn, 1) := by decide +kernel
theorem dX11_days_17 : decode cX11_days 17 = .ok (.aload_n 0, 1) := by decide +kernel
theorem dX11_days_18 : decode cX11_days 18 = .ok (.getfield 33, 3) := by decide +kernel
theorem dX11_days_21 : decode cX11_days 21 = .ok (.sipush 131, 3) := by decide +kernel
theorem dX11_days_24 : decode cX11_days 24 = .ok (.iaload, 1) := by decide +kernel
theorem dX11_days_25 : decode cX11_days 25 = .ok (.sipush 400, 3) := by decide +kernel
theorem dX11_days_28 : decode cX11_days 28 = .ok (.if_icmp .ne 5, 3) := by decide +kernel
theorem dX11_days_31 : decode cX11_days 31 = .ok (.iconst 0, 1) := by decide +kernel
theorem dX11_days_32 : decode cX11_days 32 = .ok (.ireturn, 1) := by decide +kernel
theorem dX11_days_33 : decode cX11_days 33 = .ok (.aload_n 0, 1) := by decide +kernel
theorem dX11_days_34 : decode cX11_days 34 = .ok (.invokevirtual 310, 3) := by decide +kernel
theorem dX11_days_37 : decode cX11_days 37 = .ok (.aload_n 0, 1) := by decide +kernel
theorem dX11_days_38 : decode cX11_days 38 = .ok (.iload_n 1, 1) := by decide +kernel
theorem dX11_days_39 : decode cX11_days 39 = .ok (.invokevirtual 332, 3) := by decide +kernel
theorem dX11_days_42 : decode cX11_days 42 = .ok (.ireturn, 1) := by decide +kernel
theorem dX11_back_0 : decode cX11_back 0 = .ok (.iconst 0, 1) := by decide +kernel
theorem dX11_back_1 : decode cX11_back 1 = .ok (.istore_n 1, 1) := by decide +kernel
theorem dX11_back_2 : decode cX11_back 2 = .ok (.iload_n 1, 1) := by decide +kernel
theorem dX11_back_3 : decode cX11_back 3 = .ok (.sipush 145, 3) := by decide +kernel
theorem dX11_back_6 : decode cX11_back 6 = .ok (.if_icmp .ge 25, 3) := by decide +kernel
theorem dX11_back_9 : decode cX11_back 9 = .ok (.aload_n 0, 1) := by decide +kernel
theorem dX11_back_10 : decode cX11_back 10 = .ok (.getfield 33, 3) := by decide +kernel
theorem dX11_back_13 : decode cX11_back 13 = .ok (.sipush 131, 3) := by decide +kernel
theorem dX11_back_16 : decode cX11_back 16 = .ok (.iload_n 1, 1) := by decide +kernel
theorem dX11_back_17 : decode cX11_back 17 = .ok (.iadd, 1) := by decide +kernel
theorem dX11_back_18 : decode cX11_back 18 = .ok (.aload_n 0, 1) := by decide +kernel
theorem dX11_back_19 : decode cX11_back 19 = .ok (.getfield 53, 3) := by decide +kernel
theorem dX11_back_22 : decode cX11_back 22 = .ok (.iload_n 1, 1) := by decide +kernel
theorem dX11_back_23 : decode cX11_back 23 = .ok (.iaload, 1) := by decide +kernel
theorem dX11_back_24 : decode cX11_back 24 = .ok (.iastore, 1) := by decide +kernel
theorem dX11_back_25 : decode cX11_back 25 = .ok (.iinc 1 1, 3) := by decide +kernel
theorem dX11_back_28 : decode cX11_back 28 = .ok (.goto (-26), 3) := by decide +kernel
theorem dX11_back_31 : decode cX11_back 31 = .ok (.return_, 1) := by decide +kernel
theorem dX11_isMask_0 : decode cX11_isMask 0 = .ok (.iconst 1, 1) := by decide +kernel
theorem dX11_isMask_1 : decode cX11_isMask 1 = .ok (.istore_n 2, 1) := by decide +kernel
theorem dX11_isMask_2 : decode cX11_isMask 2 = .ok (.iconst 0, 1) := by decide +kernel
theorem dX11_isMask_3 : decode cX11_isMask 3 = .ok (.istore_n 3, 1) := by decide +kernel
theorem dX11_isMask_4 : decode cX11_isMask 4 = .ok (.iload_n 3, 1) := by decide +kernel
theorem dX11_isMask_5 : decode cX11_isMask 5 = .ok (.aload_n 0, 1) := by decide +kernel
theorem dX11_isMask_6 : decode cX11_isMask 6 = .ok (.getfield 18, 3) := by decide +kernel
theorem dX11_isMask_9 : decode cX11_isMask 9 = .ok (.if_icmp .ge 60, 3) := by decide +kernel
theorem dX11_isMask_12 : decode cX11_isMask 12 = .ok (.iload_n 2, 1) := by decide +kernel
theorem dX11_isMask_13 : decode cX11_isMask 13 = .ok (.ifCond .eq 48, 3) := by decide +kernel
theorem dX11_isMask_16 : decode cX11_isMask 16 = .ok (.aload_n 0, 1) := by decide +kernel
theorem dX11_isMask_17 : decode cX11_isMask 17 = .ok (.iload_n 3, 1) := by decide +kernel
theorem dX11_isMask_18 : decode cX11_isMask 18 = .ok (.invokevirtual 345, 3) := by decide +kernel
theorem dX11_isMask_21 : decode cX11_isMask 21 = .ok (.iload_n 1, 1) := by decide +kernel
theorem dX11_isMask_22 : decode cX11_isMask 22 = .ok (.if_icmp .eq 39, 3) := by decide +kernel
theorem dX11_isMask_25 : decode cX11_isMask 25 = .ok (.aload_n 0, 1) := by decide +kernel
theorem dX11_isMask_26 : decode cX11_isMask 26 = .ok (.iload_n 1, 1) := by decide +kernel
theorem dX11_isMask_27 : decode cX11_isMask 27 = .ok (.invokevirtual 278, 3) := by decide +kernel
theorem dX11_isMask_30 : decode cX11_isMask 30 = .ok (.aload_n 0, 1) := by decide +kernel
theorem dX11_isMask_31 : decode cX11_isMask 31 = .ok (.iload_n 3, 1) := by decide +kernel
theorem dX11_isMask_32 : decode cX11_isMask 32 = .ok (.invokevirtual 345, 3) := by decide +kernel
theorem dX11_isMask_35 : decode cX11_isMask 35 = .ok (.invokestatic 214, 3) := by decide +kernel
theorem dX11_isMask_38 : decode cX11_isMask 38 = .ok (.aload_n 0, 1) := by decide +kernel
theorem dX11_isMask_39 : decode cX11_isMask 39 = .ok (.iload_n 3, 1) := by decide +kernel
theorem dX11_isMask_40 : decode cX11_isMask 40 = .ok (.iconst 1, 1) := by decide +kernel
theorem dX11_isMask_41 : decode cX11_isMask 41 = .ok (.iadd, 1) := by decide +kernel
theorem dX11_isMask_42 : decode cX11_isMask 42 = .ok (.invokevirtual 345, 3) := by decide +kernel
theorem dX11_isMask_45 : decode cX11_isMask 45 = .ok (.iconst 1, 1) := by decide +kernel
theorem dX11_isMask_46 : decode cX11_isMask 46 = .ok (.if_icmp .ne 7, 3) := by decide +kernel
theorem dX11_isMask_49 : decode cX11_isMask 49 = .ok (.iconst 1, 1) := by decide +kernel
theorem dX11_isMask_50 : decode cX11_isMask 50 = .ok (.goto 4, 3) := by decide +kernel
theorem dX11_isMask_53 : decode cX11_isMask 53 = .ok (.iconst 0, 1) := by decide +kernel
theorem dX11_isMask_54 : decode cX11_isMask 54 = .ok (.if_icmp .ne 7, 3) := by decide +kernel
theorem dX11_isMask_57 : decode cX11_isMask 57 = .ok (.iconst 1, 1) := by decide +kernel
theorem dX11_isMask_58 : decode cX11_isMask 58 = .ok (.goto 4, 3) := by decide +kernel
theorem dX11_isMask_61 : decode cX11_isMask 61 = .ok (.iconst 0, 1) := by decide +kernel
theorem dX11_isMask_62 : decode cX11_isMask 62 = .ok (.istore_n 2, 1) := by decide +kernel
theorem dX11_isMask_63 : decode cX11_isMask 63 = .ok (.iinc 3 2, 3) := by decide +kernel
theorem dX11_isMask_66 : decode cX11_isMask 66 = .ok (.goto (-62), 3) := by decide +kernel
theorem dX11_isMask_69 : decode cX11_isMask 69 = .ok (.iload_n 2, 1) := by decide +kernel
theorem dX11_isMask_70 : decode cX11_isMask 70 = .ok (.ireturn, 1) := by decide +kernel
theorem dX11_serve_0 : decode cX11_serve 0 = .ok (.aload_n 0, 1) := by decide +kernel
theorem dX11_serve_1 : decode cX11_serve 1 = .ok (.iconst 0, 1) := by decide +kernel
theorem dX11_serve_2 : decode cX11_serve 2 = .ok (.putfield 1, 3) := by decide +kernel
theorem dX11_serve_5 : decode cX11_serve 5 = .ok (.aload_n 0, 1) := by decide +kernel
theorem dX11_serve_6 : decode cX11_serve 6 = .ok (.iload_n 1, 1) := by decide +kernel
theorem dX11_serve_7 : decode cX11_serve 7 = .ok (.invokevirtual 281, 3) := by decide +kernel
theorem dX11_serve_10 : decode cX11_serve 10 = .ok (.ifCond .ne 5, 3) := by decide +kernel
theorem dX11_serve_13 : decode cX11_serve 13 = .ok (.iconst (-1), 1) := by decide +kernel
theorem dX11_serve_14 : decode cX11_serve 14 = .ok (.ireturn, 1) := by decide +kernel
theorem dX11_serve_15 : decode cX11_serve 15 = .ok (.iconst 0, 1) := by decide +kernel
theorem dX11_serve_16 : decode cX11_serve 16 = .ok (.istore_n 2, 1) := by decide +kernel
theorem dX11_serve_17 : decode cX11_serve 17 = .ok (.iconst 0, 1) := by decide +kernel
theorem dX11_serve_18 : decode cX11_serve 18 = .ok (.istore_n 3, 1) := by decide +kernel
theorem dX11_serve_19 : decode cX11_serve 19 = .ok (.iload_n 3, 1) := by decide +kernel
theorem dX11_serve_20 : decode cX11_serve 20 = .ok (.aload_n 0, 1) := by decide +kernel
theorem dX11_serve_21 : decode cX11_serve 21 = .ok (.getfield 33, 3) := by decide +kernel
theorem dX11_serve_24 : decode cX11_serve 24 = .ok (.iconst 0, 1) := by decide +kernel
theorem dX11_serve_25 : decode cX11_serve 25 = .ok (.iaload, 1) := by decide +kernel
theorem dX11_serve_26 : decode cX11_serve 26 = .ok (.if_icmp .ge 35, 3) := by decide +kernel
theorem dX11_serve_29 : decode cX11_serve 29 = .ok (.iload_n 2, 1) := by decide +kernel
theorem dX11_serve_30 : decode cX11_serve 30 = .ok (.aload_n 0, 1) := by decide +kernel
theorem dX11_serve_31 : decode cX11_serve 31 = .ok (.getfield 33, 3) := by decide +kernel
theorem dX11_serve_34 : decode cX11_serve 34 = .ok (.bipush 47, 2) := by decide +kernel
theorem dX11_serve_36 : decode cX11_serve 36 = .ok (.iconst 5, 1) := by decide +kernel
theorem dX11_serve_37 : decode cX11_serve 37 = .ok (.iload_n 3, 1) := by decide +kernel
theorem dX11_serve_38 : decode cX11_serve 38 = .ok (.imul, 1) := by decide +kernel
theorem dX11_serve_39 : decode cX11_serve 39 = .ok (.iadd, 1) := by decide +kernel
theorem dX11_serve_40 : decode cX11_serve 40 = .ok (.iload_n 1, 1) := by decide +kernel
theorem dX11_serve_41 : decode cX11_serve 41 = .ok (.iadd, 1) := by decide +kernel
theorem dX11_serve_42 : decode cX11_serve 42 = .ok (.iaload, 1) := by decide +kernel
theorem dX11_serve_43 : decode cX11_serve 43 = .ok (.ifCond .le 9, 3) := by decide +kernel
theorem dX11_serve_46 : decode cX11_serve 46 = .ok (.iconst 1, 1) := by decide +kernel
theorem dX11_serve_47 : decode cX11_serve 47 = .ok (.iload_n 3, 1) := by decide +kernel
theorem dX11_serve_48 : decode cX11_serve 48 = .ok (.ishl, 1) := by decide +kernel
theorem dX11_serve_49 : decode cX11_serve 49 = .ok (.goto 4, 3) := by decide +kernel
theorem dX11_serve_52 : decode cX11_serve 52 = .ok (.iconst 0, 1) := by decide +kernel
theorem dX11_serve_53 : decode cX11_serve 53 = .ok (.ior, 1) := by decide +kernel
theorem dX11_serve_54 : decode cX11_serve 54 = .ok (.istore_n 2, 1) := by decide +kernel
theorem dX11_serve_55 : decode cX11_serve 55 = .ok (.iinc 3 1, 3) := by decide +kernel
theorem dX11_serve_58 : decode cX11_serve 58 = .ok (.goto (-39), 3) := by decide +kernel
theorem dX11_serve_61 : decode cX11_serve 61 = .ok (.iconst (-1), 1) := by decide +kernel
theorem dX11_serve_62 : decode cX11_serve 62 = .ok (.istore_n 3, 1) := by decide +kernel
theorem dX11_serve_63 : decode cX11_serve 63 = .ok (.iconst 0, 1) := by decide +kernel
theorem dX11_serve_64 : decode cX11_serve 64 = .ok (.istore 4, 2) := by decide +kernel
theorem dX11_serve_66 : decode cX11_serve 66 = .ok (.iload 4, 2) := by decide +kernel
theorem dX11_serve_68 : decode cX11_serve 68 = .ok (.iload_n 2, 1) := by decide +kernel
theorem dX11_serve_69 : decode cX11_serve 69 = .ok (.if_icmp .gt 47, 3) := by decide +kernel
theorem dX11_serve_72 : decode cX11_serve 72 = .ok (.iload 4, 2) := by decide +kernel
theorem dX11_serve_74 : decode cX11_serve 74 = .ok (.iload_n 2, 1) := by decide +kernel
theorem dX11_serve_75 : decode cX11_serve 75 = .ok (.iconst (-1), 1) := by decide +kernel
theorem dX11_serve_76 : decode cX11_serve 76 = .ok (.ixor, 1) := by decide +kernel
theorem dX11_serve_77 : decode cX11_serve 77 = .ok (.iand, 1) := by decide +kernel
theorem dX11_serve_78 : decode cX11_serve 78 = .ok (.ifCond .ne 32, 3) := by decide +kernel
theorem dX11_serve_81 : decode cX11_serve 81 = .ok (.iload_n 3, 1) := by decide +kernel
theorem dX11_serve_82 : decode cX11_serve 82 = .ok (.ifCond .lt 15, 3) := by decide +kernel
theorem dX11_serve_85 : decode cX11_serve 85 = .ok (.iload 4, 2) := by decide +kernel
theorem dX11_serve_87 : decode cX11_serve 87 = .ok (.invokestatic 284, 3) := by decide +kernel
theorem dX11_serve_90 : decode cX11_serve 90 = .ok (.iload_n 3, 1) := by decide +kernel
theorem dX11_serve_91 : decode cX11_serve 91 = .ok (.invokestatic 284, 3) := by decide +kernel
theorem dX11_serve_94 : decode cX11_serve 94 = .ok (.if_icmp .ge 16, 3) := by decide +kernel
theorem dX11_serve_97 : decode cX11_serve 97 = .ok (.aload_n 0, 1) := by decide +kernel
theorem dX11_serve_98 : decode cX11_serve 98 = .ok (.iload_n 1, 1) := by decide +kernel
theorem dX11_serve_99 : decode cX11_serve 99 = .ok (.iload 4, 2) := by decide +kernel
theorem dX11_serve_101 : decode cX11_serve 101 = .ok (.invokevirtual 358, 3) := by decide +kernel
theorem dX11_serve_104 : decode cX11_serve 104 = .ok (.ifCond .eq 6, 3) := by decide +kernel
theorem dX11_serve_107 : decode cX11_serve 107 = .ok (.iload 4, 2) := by decide +kernel
theorem dX11_serve_109 : decode cX11_serve 109 = .ok (.istore_n 3, 1) := by decide +kernel
theorem dX11_serve_110 : decode cX11_serve 110 = .ok (.iinc 4 1, 3) := by decide +kernel
theorem dX11_serve_113 : decode cX11_serve 113 = .ok (.goto (-47), 3) := by decide +kernel
theorem dX11_serve_116 : decode cX11_serve 116 = .ok (.iload_n 3, 1) := by decide +kernel
theorem dX11_serve_117 : decode cX11_serve 117 = .ok (.ifCond .ge 5, 3) := by decide +kernel
theorem dX11_serve_120 : decode cX11_serve 120 = .ok (.iconst (-1), 1) := by decide +kernel
theorem dX11_serve_121 : decode cX11_serve 121 = .ok (.ireturn, 1) := by decide +kernel
theorem dX11_serve_122 : decode cX11_serve 122 = .ok (.aload_n 0, 1) := by decide +kernel
theorem dX11_serve_123 : decode cX11_serve 123 = .ok (.iconst 1, 1) := by decide +kernel
theorem dX11_serve_124 : decode cX11_serve 124 = .ok (.putfield 361, 3) := by decide +kernel
theorem dX11_serve_127 : decode cX11_serve 127 = .ok (.aload_n 0, 1) := by decide +kernel
theorem dX11_serve_128 : decode cX11_serve 128 = .ok (.iload_n 3, 1) := by decide +kernel
theorem dX11_serve_129 : decode cX11_serve 129 = .ok (.putfield 364, 3) := by decide +kernel
theorem dX11_serve_132 : decode cX11_serve 132 = .ok (.iload_n 3, 1) := by decide +kernel
theorem dX11_serve_133 : decode cX11_serve 133 = .ok (.invokestatic 284, 3) := by decide +kernel
theorem dX11_serve_136 : decode cX11_serve 136 = .ok (.ireturn, 1) := by decide +kernel
theorem dX11_chainAt_0 : decode cX11_chainAt 0 = .ok (.aload_n 0, 1) := by decide +kernel
theorem dX11_chainAt_1 : decode cX11_chainAt 1 = .ok (.iconst 0, 1) := by decide +kernel
theorem dX11_chainAt_2 : decode cX11_chainAt 2 = .ok (.putfield 1, 3) := by decide +kernel
theorem dX11_chainAt_5 : decode cX11_chainAt 5 = .ok (.iload_n 1, 1) := by decide +kernel
theorem dX11_chainAt_6 : decode cX11_chainAt 6 = .ok (.iconst 0, 1) := by decide +kernel
theorem dX11_chainAt_7 : decode cX11_chainAt 7 = .ok (.aload_n 0, 1) := by decide +kernel
theorem dX11_chainAt_8 : decode cX11_chainAt 8 = .ok (.getfield 71, 3) := by decide +kernel
theorem dX11_chainAt_11 : decode cX11_chainAt 11 = .ok (.iconst 1, 1) := by decide +kernel
theorem dX11_chainAt_12 : decode cX11_chainAt 12 = .ok (.isub, 1) := by decide +kernel
theorem dX11_chainAt_13 : decode cX11_chainAt 13 = .ok (.invokestatic 189, 3) := by decide +kernel
theorem dX11_chainAt_16 : decode cX11_chainAt 16 = .ok (.ifCond .eq 12, 3) := by decide +kernel
theorem dX11_chainAt_19 : decode cX11_chainAt 19 = .ok (.aload_n 0, 1) := by decide +kernel
theorem dX11_chainAt_20 : decode cX11_chainAt 20 = .ok (.getfield 68, 3) := by decide +kernel
theorem dX11_chainAt_23 : decode cX11_chainAt 23 = .ok (.iload_n 1, 1) := by decide +kernel
theorem dX11_chainAt_24 : decode cX11_chainAt 24 = .ok (.iaload, 1) := by decide +kernel
theorem dX11_chainAt_25 : decode cX11_chainAt 25 = .ok (.goto 4, 3) := by decide +kernel
theorem dX11_chainAt_28 : decode cX11_chainAt 28 = .ok (.iconst (-1), 1) := by decide +kernel
theorem dX11_chainAt_29 : decode cX11_chainAt 29 = .ok (.ireturn, 1) := by decide +kernel
theorem dX11_apart_0 : decode cX11_apart 0 = .ok (.aload_n 0, 1) := by decide +kernel
theorem dX11_apart_1 : decode cX11_apart 1 = .ok (.iconst 0, 1) := by decide +kernel
theorem dX11_apart_2 : decode cX11_apart 2 = .ok (.putfield 1, 3) := by decide +kernel
theorem dX11_apart_5 : decode cX11_apart 5 = .ok (.aload_n 0, 1) := by decide +kernel
theorem dX11_apart_6 : decode cX11_apart 6 = .ok (.iload_n 1, 1) := by decide +kernel
theorem dX11_apart_7 : decode cX11_apart 7 = .ok (.invokevirtual 272, 3) := by decide +kernel
theorem dX11_apart_10 : decode cX11_apart 10 = .ok (.ifCond .eq 28, 3) := by decide +kernel
theorem dX11_apart_13 : decode cX11_apart 13 = .ok (.aload_n 0, 1) := by decide +kernel
theorem dX11_apart_14 : decode cX11_apart 14 = .ok (.iload_n 2, 1) := by decide +kernel
theorem dX11_apart_15 : decode cX11_apart 15 = .ok (.invokevirtual 272, 3) := by decide +kernel
theorem dX11_apart_18 : decode cX11_apart 18 = .ok (.ifCond .eq 20, 3) := by decide +kernel
theorem dX11_apart_21 : decode cX11_apart 21 = .ok (.iload_n 1, 1) := by decide +kernel
theorem dX11_apart_22 : decode cX11_apart 22 = .ok (.iload_n 2, 1) := by decide +kernel
theorem dX11_apart_23 : decode cX11_apart 23 = .ok (.if_icmp .eq 15, 3) := by decide +kernel
theorem dX11_apart_26 : decode cX11_apart 26 = .ok (.aload_n 0, 1) := by decide +kernel
theorem dX11_apart_27 : decode cX11_apart 27 = .ok (.iload_n 1, 1) := by decide +kernel
theorem dX11_apart_28 : decode cX11_apart 28 = .ok (.invokevirtual 265, 3) := by decide +kernel
theorem dX11_apart_31 : decode cX11_apart 31 = .ok (.iload_n 2, 1) := by decide +kernel
theorem dX11_apart_32 : decode cX11_apart 32 = .ok (.invokestatic 214, 3) := by decide +kernel
theorem dX11_apart_35 : decode cX11_apart 35 = .ok (.ifCond .eq 5, 3) := by decide +kernel
theorem dX11_apart_38 : decode cX11_apart 38 = .ok (.iconst (-1), 1) := by decide +kernel
theorem dX11_apart_39 : decode cX11_apart 39 = .ok (.ireturn, 1) := by decide +kernel
theorem dX11_apart_40 : decode cX11_apart 40 = .ok (.iconst (-1), 1) := by decide +kernel
theorem dX11_apart_41 : decode cX11_apart 41 = .ok (.istore_n 3, 1) := by decide +kernel
theorem dX11_apart_42 : decode cX11_apart 42 = .ok (.iconst 0, 1) := by decide +kernel
theorem dX11_apart_43 : decode cX11_apart 43 = .ok (.istore 4, 2) := by decide +kernel
theorem dX11_apart_45 : decode cX11_apart 45 = .ok (.iload 4, 2) := by decide +kernel
theorem dX11_apart_47 : decode cX11_apart 47 = .ok (.iconst 1, 1) := by decide +kernel
theorem dX11_apart_48 : decode cX11_apart 48 = .ok (.aload_n 0, 1) := by decide +kernel
theorem dX11_apart_49 : decode cX11_apart 49 = .ok (.getfield 33, 3) := by decide +kernel
theorem dX11_apart_52 : decode cX11_apart 52 = .ok (.iconst 0, 1) := by decide +kernel
theorem dX11_apart_53 : decode cX11_apart 53 = .ok (.iaload, 1) := by decide +kernel
theorem dX11_apart_54 : decode cX11_apart 54 = .ok (.ishl, 1) := by decide +kernel
theorem dX11_apart_55 : decode cX11_apart 55 = .ok (.if_icmp .ge 57, 3) := by decide +kernel
theorem dX11_apart_58 : decode cX11_apart 58 = .ok (.iload 4, 2) := by decide +kernel
theorem dX11_apart_60 : decode cX11_apart 60 = .ok (.iload_n 1, 1) := by decide +kernel
theorem dX11_apart_61 : decode cX11_apart 61 = .ok (.invokestatic 214, 3) := by decide +kernel
theorem dX11_apart_64 : decode cX11_apart 64 = .ok (.ifCond .ne 42, 3) := by decide +kernel
theorem dX11_apart_67 : decode cX11_apart 67 = .ok (.iload 4, 2) := by decide +kernel
theorem dX11_apart_69 : decode cX11_apart 69 = .ok (.iload_n 2, 1) := by decide +kernel
theorem dX11_apart_70 : decode cX11_apart 70 = .ok (.invokestatic 214, 3) := by decide +kernel
theorem dX11_apart_73 : decode cX11_apart 73 = .ok (.ifCond .ne 33, 3) := by decide +kernel
theorem dX11_apart_76 : decode cX11_apart 76 = .ok (.iload_n 3, 1) := by decide +kernel
theorem dX11_apart_77 : decode cX11_apart 77 = .ok (.ifCond .lt 15, 3) := by decide +kernel
theorem dX11_apart_80 : decode cX11_apart 80 = .ok (.iload 4, 2) := by decide +kernel
theorem dX11_apart_82 : decode cX11_apart 82 = .ok (.invokestatic 284, 3) := by decide +kernel
theorem dX11_apart_85 : decode cX11_apart 85 = .ok (.iload_n 3, 1) := by decide +kernel
theorem dX11_apart_86 : decode cX11_apart 86 = .ok (.invokestatic 284, 3) := by decide +kernel
theorem dX11_apart_89 : decode cX11_apart 89 = .ok (.if_icmp .ge 17, 3) := by decide +kernel
theorem dX11_apart_92 : decode cX11_apart 92 = .ok (.aload_n 0, 1) := by decide +kernel
theorem dX11_apart_93 : decode cX11_apart 93 = .ok (.iload_n 1, 1) := by decide +kernel
theorem dX11_apart_94 : decode cX11_apart 94 = .ok (.iload_n 2, 1) := by decide +kernel
theorem dX11_apart_95 : decode cX11_apart 95 = .ok (.iload 4, 2) := by decide +kernel
theorem dX11_apart_97 : decode cX11_apart 97 = .ok (.invokevirtual 373, 3) := by decide +kernel
theorem dX11_apart_100 : decode cX11_apart 100 = .ok (.ifCond .eq 6, 3) := by decide +kernel
theorem dX11_apart_103 : decode cX11_apart 103 = .ok (.iload 4, 2) := by decide +kernel
theorem dX11_apart_105 : decode cX11_apart 105 = .ok (.istore_n 3, 1) := by decide +kernel
theorem dX11_apart_106 : decode cX11_apart 106 = .ok (.iinc 4 1, 3) := by decide +kernel
theorem dX11_apart_109 : decode cX11_apart 109 = .ok (.goto (-64), 3) := by decide +kernel
theorem dX11_apart_112 : decode cX11_apart 112 = .ok (.aload_n 0, 1) := by decide +kernel
theorem dX11_apart_113 : decode cX11_apart 113 = .ok (.iconst 1, 1) := by decide +kernel
theorem dX11_apart_114 : decode cX11_apart 114 = .ok (.putfield 376, 3) := by decide +kernel
theorem dX11_apart_117 : decode cX11_apart 117 = .ok (.aload_n 0, 1) := by decide +kernel
theorem dX11_apart_118 : decode cX11_apart 118 = .ok (.iload_n 3, 1) := by decide +kernel
theorem dX11_apart_119 : decode cX11_apart 119 = .ok (.putfield 379, 3) := by decide +kernel
theorem dX11_apart_122 : decode cX11_apart 122 = .ok (.iload_n 3, 1) := by decide +kernel
theorem dX11_apart_123 : decode cX11_apart 123 = .ok (.invokestatic 284, 3) := by decide +kernel
theorem dX11_apart_126 : decode cX11_apart 126 = .ok (.ireturn, 1) := by decide +kernel
theorem dX11_spells_0 : decode cX11_spells 0 = .ok (.bipush 56, 2) := by decide +kernel
theorem dX11_spells_2 : decode cX11_spells 2 = .ok (.istore_n 3, 1) := by decide +kernel
theorem dX11_spells_3 : decode cX11_spells 3 = .ok (.iload_n 3, 1) := by decide +kernel
theorem dX11_spells_4 : decode cX11_spells 4 = .ok (.ifCond .lt 33, 3) := by decide +kernel
theorem dX11_spells_7 : decode cX11_spells 7 = .ok (.lload_n 1, 1) := by decide +kernel
theorem dX11_spells_8 : decode cX11_spells 8 = .ok (.iload_n 3, 1) := by decide +kernel
theorem dX11_spells_9 : decode cX11_spells 9 = .ok (.lshr, 1) := by decide +kernel
theorem dX11_spells_10 : decode cX11_spells 10 = .ok (.ldc2_w 385, 3) := by decide +kernel
theorem dX11_spells_13 : decode cX11_spells 13 = .ok (.land, 1) := by decide +kernel
theorem dX11_spells_14 : decode cX11_spells 14 = .ok (.lconst 0, 1) := by decide +kernel
theorem dX11_spells_15 : decode cX11_spells 15 = .ok (.lcmp, 1) := by decide +kernel
theorem dX11_spells_16 : decode cX11_spells 16 = .ok (.ifCond .eq 15, 3) := by decide +kernel
theorem dX11_spells_19 : decode cX11_spells 19 = .ok (.aload_n 0, 1) := by decide +kernel
theorem dX11_spells_20 : decode cX11_spells 20 = .ok (.lload_n 1, 1) := by decide +kernel
theorem dX11_spells_21 : decode cX11_spells 21 = .ok (.iload_n 3, 1) := by decide +kernel
theorem dX11_spells_22 : decode cX11_spells 22 = .ok (.lshr, 1) := by decide +kernel
theorem dX11_spells_23 : decode cX11_spells 23 = .ok (.ldc2_w 385, 3) := by decide +kernel
theorem dX11_spells_26 : decode cX11_spells 26 = .ok (.land, 1) := by decide +kernel
theorem dX11_spells_27 : decode cX11_spells 27 = .ok (.l2i, 1) := by decide +kernel
theorem dX11_spells_28 : decode cX11_spells 28 = .ok (.invokevirtual 387, 3) := by decide +kernel
theorem dX11_spells_31 : decode cX11_spells 31 = .ok (.iinc 3 (-8), 3) := by decide +kernel
theorem dX11_spells_34 : decode cX11_spells 34 = .ok (.goto (-31), 3) := by decide +kernel
theorem dX11_spells_37 : decode cX11_spells 37 = .ok (.return_, 1) := by decide +kernel
theorem dX11_draw_0 : decode cX11_draw 0 = .ok (.aload_n 0, 1) := by decide +kernel
theorem dX11_draw_1 : decode cX11_draw 1 = .ok (.aload_n 0, 1) := by decide +kernel
theorem dX11_draw_2 : decode cX11_draw 2 = .ok (.getfield 399, 3) := by decide +kernel
theorem dX11_draw_5 : decode cX11_draw 5 = .ok (.ldc_w 402, 3) := by decide +kernel
theorem dX11_draw_8 : decode cX11_draw 8 = .ok (.imul, 1) := by decide +kernel
theorem dX11_draw_9 : decode cX11_draw 9 = .ok (.sipush 12345, 3) := by decide +kernel
theorem dX11_draw_12 : decode cX11_draw 12 = .ok (.iadd, 1) := by decide +kernel
theorem dX11_draw_13 : decode cX11_draw 13 = .ok (.putfield 399, 3) := by decide +kernel
theorem dX11_draw_16 : decode cX11_draw 16 = .ok (.aload_n 0, 1) := by decide +kernel
theorem dX11_draw_17 : decode cX11_draw 17 = .ok (.getfield 399, 3) := by decide +kernel
theorem dX11_draw_20 : decode cX11_draw 20 = .ok (.bipush 8, 2) := by decide +kernel
theorem dX11_draw_22 : decode cX11_draw 22 = .ok (.iushr, 1) := by decide +kernel
theorem dX11_draw_23 : decode cX11_draw 23 = .ok (.iload_n 1, 1) := by decide +kernel
theorem dX11_draw_24 : decode cX11_draw 24 = .ok (.irem, 1) := by decide +kernel
theorem dX11_draw_25 : decode cX11_draw 25 = .ok (.ireturn, 1) := by decide +kernel
theorem dX11_odds_0 : decode cX11_odds 0 = .ok (.aload_n 0, 1) := by decide +kernel
theorem dX11_odds_1 : decode cX11_odds 1 = .ok (.iconst 0, 1) := by decide +kernel
theorem dX11_odds_2 : decode cX11_odds 2 = .ok (.putfield 1, 3) := by decide +kernel
theorem dX11_odds_5 : decode cX11_odds 5 = .ok (.aload_n 0, 1) := by decide +kernel
theorem dX11_odds_6 : decode cX11_odds 6 = .ok (.iload_n 1, 1) := by decide +kernel
theorem dX11_odds_7 : decode cX11_odds 7 = .ok (.invokevirtual 272, 3) := by decide +kernel
theorem dX11_odds_10 : decode cX11_odds 10 = .ok (.ifCond .eq 13, 3) := by decide +kernel
theorem dX11_odds_13 : decode cX11_odds 13 = .ok (.iload_n 2, 1) := by decide +kernel
theorem dX11_odds_14 : decode cX11_odds 14 = .ok (.iconst 1, 1) := by decide +kernel
theorem dX11_odds_15 : decode cX11_odds 15 = .ok (.bipush 30, 2) := by decide +kernel
theorem dX11_odds_17 : decode cX11_odds 17 = .ok (.invokestatic 189, 3) := by decide +kernel
theorem dX11_odds_20 : decode cX11_odds 20 = .ok (.ifCond .ne 5, 3) := by decide +kernel
theorem dX11_odds_23 : decode cX11_odds 23 = .ok (.iconst (-1), 1) := by decide +kernel
theorem dX11_odds_24 : decode cX11_odds 24 = .ok (.ireturn, 1) := by decide +kernel
theorem dX11_odds_25 : decode cX11_odds 25 = .ok (.aload_n 0, 1) := by decide +kernel
theorem dX11_odds_26 : decode cX11_odds 26 = .ok (.invokevirtual 412, 3) := by decide +kernel
theorem dX11_odds_29 : decode cX11_odds 29 = .ok (.aload_n 0, 1) := by decide +kernel
theorem dX11_odds_30 : decode cX11_odds 30 = .ok (.getfield 33, 3) := by decide +kernel
theorem dX11_odds_33 : decode cX11_odds 33 = .ok (.sipush 136, 3) := by decide +kernel
theorem dX11_odds_36 : decode cX11_odds 36 = .ok (.iload_n 1, 1) := by decide +kernel
theorem dX11_odds_37 : decode cX11_odds 37 = .ok (.iadd, 1) := by decide +kernel
theorem dX11_odds_38 : decode cX11_odds 38 = .ok (.iaload, 1) := by decide +kernel
theorem dX11_odds_39 : decode cX11_odds 39 = .ok (.istore 4, 2) := by decide +kernel
theorem dX11_odds_41 : decode cX11_odds 41 = .ok (.iconst 0, 1) := by decide +kernel
theorem dX11_odds_42 : decode cX11_odds 42 = .ok (.istore 5, 2) := by decide +kernel
theorem dX11_odds_44 : decode cX11_odds 44 = .ok (.iconst 0, 1) := by decide +kernel
theorem dX11_odds_45 : decode cX11_odds 45 = .ok (.istore 6, 2) := by decide +kernel
theorem dX11_odds_47 : decode cX11_odds 47 = .ok (.iload 6, 2) := by decide +kernel
theorem dX11_odds_49 : decode cX11_odds 49 = .ok (.iload_n 2, 1) := by decide +kernel
theorem dX11_odds_50 : decode cX11_odds 50 = .ok (.if_icmp .ge 49, 3) := by decide +kernel
theorem dX11_odds_53 : decode cX11_odds 53 = .ok (.aload_n 0, 1) := by decide +kernel
theorem dX11_odds_54 : decode cX11_odds 54 = .ok (.bipush 10, 2) := by decide +kernel
theorem dX11_odds_56 : decode cX11_odds 56 = .ok (.iload_n 3, 1) := by decide +kernel
theorem dX11_odds_57 : decode cX11_odds 57 = .ok (.iload 6, 2) := by decide +kernel
theorem dX11_odds_59 : decode cX11_odds 59 = .ok (.iadd, 1) := by decide +kernel
theorem dX11_odds_60 : decode cX11_odds 60 = .ok (.invokevirtual 409, 3) := by decide +kernel
theorem dX11_odds_63 : decode cX11_odds 63 = .ok (.pop, 1) := by decide +kernel
theorem dX11_odds_64 : decode cX11_odds 64 = .ok (.iload 5, 2) := by decide +kernel
theorem dX11_odds_66 : decode cX11_odds 66 = .ok (.aload_n 0, 1) := by decide +kernel
theorem dX11_odds_67 : decode cX11_odds 67 = .ok (.getfield 33, 3) := by decide +kernel
theorem dX11_odds_70 : decode cX11_odds 70 = .ok (.sipush 136, 3) := by decide +kernel
theorem dX11_odds_73 : decode cX11_odds 73 = .ok (.iload_n 1, 1) := by decide +kernel
theorem dX11_odds_74 : decode cX11_odds 74 = .ok (.iadd, 1) := by decide +kernel
theorem dX11_odds_75 : decode cX11_odds 75 = .ok (.iaload, 1) := by decide +kernel
theorem dX11_odds_76 : decode cX11_odds 76 = .ok (.iload 4, 2) := by decide +kernel
theorem dX11_odds_78 : decode cX11_odds 78 = .ok (.if_icmp .le 7, 3) := by decide +kernel
theorem dX11_odds_81 : decode cX11_odds 81 = .ok (.iconst 1, 1) := by decide +kernel
theorem dX11_odds_82 : decode cX11_odds 82 = .ok (.goto 4, 3) := by decide +kernel
theorem dX11_odds_85 : decode cX11_odds 85 = .ok (.iconst 0, 1) := by decide +kernel
theorem dX11_odds_86 : decode cX11_odds 86 = .ok (.iadd, 1) := by decide +kernel
theorem dX11_odds_87 : decode cX11_odds 87 = .ok (.istore 5, 2) := by decide +kernel
theorem dX11_odds_89 : decode cX11_odds 89 = .ok (.aload_n 0, 1) := by decide +kernel
theorem dX11_odds_90 : decode cX11_odds 90 = .ok (.invokevirtual 415, 3) := by decide +kernel
theorem dX11_odds_93 : decode cX11_odds 93 = .ok (.iinc 6 1, 3) := by decide +kernel
theorem dX11_odds_96 : decode cX11_odds 96 = .ok (.goto (-49), 3) := by decide +kernel
theorem dX11_odds_99 : decode cX11_odds 99 = .ok (.iload 5, 2) := by decide +kernel
theorem dX11_odds_101 : decode cX11_odds 101 = .ok (.ireturn, 1) := by decide +kernel
theorem dX11_told_0 : decode cX11_told 0 = .ok (.aload_n 0, 1) := by decide +kernel
theorem dX11_told_1 : decode cX11_told 1 = .ok (.iconst 0, 1) := by decide +kernel
theorem dX11_told_2 : decode cX11_told 2 = .ok (.putfield 1, 3) := by decide +kernel
theorem dX11_told_5 : decode cX11_told 5 = .ok (.aload_n 0, 1) := by decide +kernel
theorem dX11_told_6 : decode cX11_told 6 = .ok (.getfield 428, 3) := by decide +kernel
theorem dX11_told_9 : decode cX11_told 9 = .ok (.ifCond .eq 21, 3) := by decide +kernel
theorem dX11_told_12 : decode cX11_told 12 = .ok (.iload_n 1, 1) := by decide +kernel
theorem dX11_told_13 : decode cX11_told 13 = .ok (.iconst 0, 1) := by decide +kernel
theorem dX11_told_14 : decode cX11_told 14 = .ok (.iconst 3, 1) := by decide +kernel
theorem dX11_told_15 : decode cX11_told 15 = .ok (.invokestatic 189, 3) := by decide +kernel
theorem dX11_told_18 : decode cX11_told 18 = .ok (.ifCond .eq 12, 3) := by decide +kernel
theorem dX11_told_21 : decode cX11_told 21 = .ok (.aload_n 0, 1) := by decide +kernel
theorem dX11_told_22 : decode cX11_told 22 = .ok (.getfield 77, 3) := by decide +kernel
theorem dX11_told_25 : decode cX11_told 25 = .ok (.iload_n 1, 1) := by decide +kernel
theorem dX11_told_26 : decode cX11_told 26 = .ok (.iaload, 1) := by decide +kernel
theorem dX11_told_27 : decode cX11_told 27 = .ok (.goto 4, 3) := by decide +kernel
theorem dX11_told_30 : decode cX11_told 30 = .ok (.iconst (-1), 1) := by decide +kernel
theorem dX11_told_31 : decode cX11_told 31 = .ok (.ireturn, 1) := by decide +kernel
theorem dX11_leafOf_0 : decode cX11_leafOf 0 = .ok (.aload_n 0, 1) := by decide +kernel
theorem dX11_leafOf_1 : decode cX11_leafOf 1 = .ok (.ldc2_w 128, 3) := by decide +kernel
theorem dX11_leafOf_4 : decode cX11_leafOf 4 = .ok (.invokevirtual 220, 3) := by decide +kernel
theorem dX11_leafOf_7 : decode cX11_leafOf 7 = .ok (.ifCond .eq 7, 3) := by decide +kernel
theorem dX11_leafOf_10 : decode cX11_leafOf 10 = .ok (.iconst 0, 1) := by decide +kernel
theorem dX11_leafOf_11 : decode cX11_leafOf 11 = .ok (.goto 134, 3) := by decide +kernel
theorem dX11_leafOf_14 : decode cX11_leafOf 14 = .ok (.aload_n 0, 1) := by decide +kernel
theorem dX11_leafOf_15 : decode cX11_leafOf 15 = .ok (.ldc2_w 130, 3) := by decide +kernel
theorem dX11_leafOf_18 : decode cX11_leafOf 18 = .ok (.invokevirtual 220, 3) := by decide +kernel
theorem dX11_leafOf_21 : decode cX11_leafOf 21 = .ok (.ifCond .eq 7, 3) := by decide +kernel
theorem dX11_leafOf_24 : decode cX11_leafOf 24 = .ok (.iconst 1, 1) := by decide +kernel
theorem dX11_leafOf_25 : decode cX11_leafOf 25 = .ok (.goto 120, 3) := by decide +kernel
theorem dX11_leafOf_28 : decode cX11_leafOf 28 = .ok (.aload_n 0, 1) := by decide +kernel
theorem dX11_leafOf_29 : decode cX11_leafOf 29 = .ok (.ldc2_w 132, 3) := by decide +kernel
theorem dX11_leafOf_32 : decode cX11_leafOf 32 = .ok (.invokevirtual 220, 3) := by decide +kernel
theorem dX11_leafOf_35 : decode cX11_leafOf 35 = .ok (.ifCond .eq 7, 3) := by decide +kernel
theorem dX11_leafOf_38 : decode cX11_leafOf 38 = .ok (.iconst 2, 1) := by decide +kernel
theorem dX11_leafOf_39 : decode cX11_leafOf 39 = .ok (.goto 106, 3) := by decide +kernel
theorem dX11_leafOf_42 : decode cX11_leafOf 42 = .ok (.aload_n 0, 1) := by decide +kernel
theorem dX11_leafOf_43 : decode cX11_leafOf 43 = .ok (.ldc2_w 134, 3) := by decide +kernel
theorem dX11_leafOf_46 : decode cX11_leafOf 46 = .ok (.invokevirtual 220, 3) := by decide +kernel
theorem dX11_leafOf_49 : decode cX11_leafOf 49 = .ok (.ifCond .eq 7, 3) := by decide +kernel
theorem dX11_leafOf_52 : decode cX11_leafOf 52 = .ok (.iconst 3, 1) := by decide +kernel
theorem dX11_leafOf_53 : decode cX11_leafOf 53 = .ok (.goto 92, 3) := by decide +kernel
theorem dX11_leafOf_56 : decode cX11_leafOf 56 = .ok (.aload_n 0, 1) := by decide +kernel
theorem dX11_leafOf_57 : decode cX11_leafOf 57 = .ok (.ldc2_w 104, 3) := by decide +kernel
theorem dX11_leafOf_60 : decode cX11_leafOf 60 = .ok (.invokevirtual 220, 3) := by decide +kernel
theorem dX11_leafOf_63 : decode cX11_leafOf 63 = .ok (.ifCond .eq 7, 3) := by decide +kernel
theorem dX11_leafOf_66 : decode cX11_leafOf 66 = .ok (.iconst 4, 1) := by decide +kernel
theorem dX11_leafOf_67 : decode cX11_leafOf 67 = .ok (.goto 78, 3) := by decide +kernel
theorem dX11_leafOf_70 : decode cX11_leafOf 70 = .ok (.aload_n 0, 1) := by decide +kernel
theorem dX11_leafOf_71 : decode cX11_leafOf 71 = .ok (.ldc2_w 102, 3) := by decide +kernel
theorem dX11_leafOf_74 : decode cX11_leafOf 74 = .ok (.invokevirtual 220, 3) := by decide +kernel
theorem dX11_leafOf_77 : decode cX11_leafOf 77 = .ok (.ifCond .eq 7, 3) := by decide +kernel
theorem dX11_leafOf_80 : decode cX11_leafOf 80 = .ok (.iconst 5, 1) := by decide +kernel
theorem dX11_leafOf_81 : decode cX11_leafOf 81 = .ok (.goto 64, 3) := by decide +kernel
theorem dX11_leafOf_84 : decode cX11_leafOf 84 = .ok (.aload_n 0, 1) := by decide +kernel
theorem dX11_leafOf_85 : decode cX11_leafOf 85 = .ok (.ldc2_w 136, 3) := by decide +kernel
theorem dX11_leafOf_88 : decode cX11_leafOf 88 = .ok (.invokevirtual 220, 3) := by decide +kernel
theorem dX11_leafOf_91 : decode cX11_leafOf 91 = .ok (.ifCond .eq 8, 3) := by decide +kernel
theorem dX11_leafOf_94 : decode cX11_leafOf 94 = .ok (.bipush 6, 2) := by decide +kernel
theorem dX11_leafOf_96 : decode cX11_leafOf 96 = .ok (.goto 49, 3) := by decide +kernel
theorem dX11_leafOf_99 : decode cX11_leafOf 99 = .ok (.aload_n 0, 1) := by decide +kernel
theorem dX11_leafOf_100 : decode cX11_leafOf 100 = .ok (.ldc2_w 138, 3) := by decide +kernel
theorem dX11_leafOf_103 : decode cX11_leafOf 103 = .ok (.invokevirtual 220, 3) := by decide +kernel
theorem dX11_leafOf_106 : decode cX11_leafOf 106 = .ok (.ifCond .eq 8, 3) := by decide +kernel
theorem dX11_leafOf_109 : decode cX11_leafOf 109 = .ok (.bipush 7, 2) := by decide +kernel
theorem dX11_leafOf_111 : decode cX11_leafOf 111 = .ok (.goto 34, 3) := by decide +kernel
theorem dX11_leafOf_114 : decode cX11_leafOf 114 = .ok (.aload_n 0, 1) := by decide +kernel
theorem dX11_leafOf_115 : decode cX11_leafOf 115 = .ok (.ldc2_w 140, 3) := by decide +kernel
theorem dX11_leafOf_118 : decode cX11_leafOf 118 = .ok (.invokevirtual 220, 3) := by decide +kernel
theorem dX11_leafOf_121 : decode cX11_leafOf 121 = .ok (.ifCond .eq 8, 3) := by decide +kernel
theorem dX11_leafOf_124 : decode cX11_leafOf 124 = .ok (.bipush 8, 2) := by decide +kernel
theorem dX11_leafOf_126 : decode cX11_leafOf 126 = .ok (.goto 19, 3) := by decide +kernel
theorem dX11_leafOf_129 : decode cX11_leafOf 129 = .ok (.aload_n 0, 1) := by decide +kernel
theorem dX11_leafOf_130 : decode cX11_leafOf 130 = .ok (.ldc2_w 142, 3) := by decide +kernel
theorem dX11_leafOf_133 : decode cX11_leafOf 133 = .ok (.invokevirtual 220, 3) := by decide +kernel
theorem dX11_leafOf_136 : decode cX11_leafOf 136 = .ok (.ifCond .eq 8, 3) := by decide +kernel
theorem dX11_leafOf_139 : decode cX11_leafOf 139 = .ok (.bipush 9, 2) := by decide +kernel
theorem dX11_leafOf_141 : decode cX11_leafOf 141 = .ok (.goto 4, 3) := by decide +kernel
theorem dX11_leafOf_144 : decode cX11_leafOf 144 = .ok (.iconst (-1), 1) := by decide +kernel
theorem dX11_leafOf_145 : decode cX11_leafOf 145 = .ok (.ireturn, 1) := by decide +kernel
theorem dX11_isSold_0 : decode cX11_isSold 0 = .ok (.iconst 0, 1) := by decide +kernel
theorem dX11_isSold_1 : decode cX11_isSold 1 = .ok (.istore_n 2, 1) := by decide +kernel
theorem dX11_isSold_2 : decode cX11_isSold 2 = .ok (.iconst 0, 1) := by decide +kernel
theorem dX11_isSold_3 : decode cX11_isSold 3 = .ok (.istore_n 3, 1) := by decide +kernel
theorem dX11_isSold_4 : decode cX11_isSold 4 = .ok (.iconst 0, 1) := by decide +kernel
theorem dX11_isSold_5 : decode cX11_isSold 5 = .ok (.istore 4, 2) := by decide +kernel
theorem dX11_isSold_7 : decode cX11_isSold 7 = .ok (.iload 4, 2) := by decide +kernel
theorem dX11_isSold_9 : decode cX11_isSold 9 = .ok (.aload_n 0, 1) := by decide +kernel
theorem dX11_isSold_10 : decode cX11_isSold 10 = .ok (.getfield 33, 3) := by decide +kernel
theorem dX11_isSold_13 : decode cX11_isSold 13 = .ok (.iconst 1, 1) := by decide +kernel
theorem dX11_isSold_14 : decode cX11_isSold 14 = .ok (.iaload, 1) := by decide +kernel
theorem dX11_isSold_15 : decode cX11_isSold 15 = .ok (.if_icmp .ge 54, 3) := by decide +kernel
theorem dX11_isSold_18 : decode cX11_isSold 18 = .ok (.iload_n 2, 1) := by decide +kernel
theorem dX11_isSold_19 : decode cX11_isSold 19 = .ok (.ifCond .ne 20, 3) := by decide +kernel
theorem dX11_isSold_22 : decode cX11_isSold 22 = .ok (.aload_n 0, 1) := by decide +kernel
theorem dX11_isSold_23 : decode cX11_isSold 23 = .ok (.getfield 33, 3) := by decide +kernel
theorem dX11_isSold_26 : decode cX11_isSold 26 = .ok (.bipush 47, 2) := by decide +kernel
theorem dX11_isSold_28 : decode cX11_isSold 28 = .ok (.iconst 5, 1) := by decide +kernel
theorem dX11_isSold_29 : decode cX11_isSold 29 = .ok (.iload_n 1, 1) := by decide +kernel
theorem dX11_isSold_30 : decode cX11_isSold 30 = .ok (.imul, 1) := by decide +kernel
theorem dX11_isSold_31 : decode cX11_isSold 31 = .ok (.iadd, 1) := by decide +kernel
theorem dX11_isSold_32 : decode cX11_isSold 32 = .ok (.iload 4, 2) := by decide +kernel
theorem dX11_isSold_34 : decode cX11_isSold 34 = .ok (.iadd, 1) := by decide +kernel
theorem dX11_isSold_35 : decode cX11_isSold 35 = .ok (.iaload, 1) := by decide +kernel
theorem dX11_isSold_36 : decode cX11_isSold 36 = .ok (.ifCond .le 7, 3) := by decide +kernel
theorem dX11_isSold_39 : decode cX11_isSold 39 = .ok (.iconst 1, 1) := by decide +kernel
theorem dX11_isSold_40 : decode cX11_isSold 40 = .ok (.goto 4, 3) := by decide +kernel
theorem dX11_isSold_43 : decode cX11_isSold 43 = .ok (.iconst 0, 1) := by decide +kernel
theorem dX11_isSold_44 : decode cX11_isSold 44 = .ok (.istore_n 2, 1) := by decide +kernel
theorem dX11_isSold_45 : decode cX11_isSold 45 = .ok (.iload_n 3, 1) := by decide +kernel
theorem dX11_isSold_46 : decode cX11_isSold 46 = .ok (.aload_n 0, 1) := by decide +kernel
theorem dX11_isSold_47 : decode cX11_isSold 47 = .ok (.getfield 33, 3) := by decide +kernel
theorem dX11_isSold_50 : decode cX11_isSold 50 = .ok (.sipush 143, 3) := by decide +kernel
theorem dX11_isSold_53 : decode cX11_isSold 53 = .ok (.iconst 5, 1) := by decide +kernel
theorem dX11_isSold_54 : decode cX11_isSold 54 = .ok (.iload_n 1, 1) := by decide +kernel
theorem dX11_isSold_55 : decode cX11_isSold 55 = .ok (.imul, 1) := by decide +kernel
theorem dX11_isSold_56 : decode cX11_isSold 56 = .ok (.iadd, 1) := by decide +kernel
theorem dX11_isSold_57 : decode cX11_isSold 57 = .ok (.iload 4, 2) := by decide +kernel
theorem dX11_isSold_59 : decode cX11_isSold 59 = .ok (.iadd, 1) := by decide +kernel
theorem dX11_isSold_60 : decode cX11_isSold 60 = .ok (.iaload, 1) := by decide +kernel
theorem dX11_isSold_61 : decode cX11_isSold 61 = .ok (.iadd, 1) := by decide +kernel
theorem dX11_isSold_62 : decode cX11_isSold 62 = .ok (.istore_n 3, 1) := by decide +kernel
theorem dX11_isSold_63 : decode cX11_isSold 63 = .ok (.iinc 4 1, 3) := by decide +kernel
theorem dX11_isSold_66 : decode cX11_isSold 66 = .ok (.goto (-59), 3) := by decide +kernel
theorem dX11_isSold_69 : decode cX11_isSold 69 = .ok (.iload_n 2, 1) := by decide +kernel
theorem dX11_isSold_70 : decode cX11_isSold 70 = .ok (.ifCond .eq 11, 3) := by decide +kernel
theorem dX11_isSold_73 : decode cX11_isSold 73 = .ok (.iload_n 3, 1) := by decide +kernel
theorem dX11_isSold_74 : decode cX11_isSold 74 = .ok (.ifCond .ne 7, 3) := by decide +kernel
theorem dX11_isSold_77 : decode cX11_isSold 77 = .ok (.iconst 1, 1) := by decide +kernel
theorem dX11_isSold_78 : decode cX11_isSold 78 = .ok (.goto 4, 3) := by decide +kernel
theorem dX11_isSold_81 : decode cX11_isSold 81 = .ok (.iconst 0, 1) := by decide +kernel
theorem dX11_isSold_82 : decode cX11_isSold 82 = .ok (.ireturn, 1) := by decide +kernel
theorem dX11_image_0 : decode cX11_image 0 = .ok (.aload_n 0, 1) := by decide +kernel
theorem dX11_image_1 : decode cX11_image 1 = .ok (.iconst 0, 1) := by decide +kernel
theorem dX11_image_2 : decode cX11_image 2 = .ok (.putfield 1, 3) := by decide +kernel
theorem dX11_image_5 : decode cX11_image 5 = .ok (.iload_n 1, 1) := by decide +kernel
theorem dX11_image_6 : decode cX11_image 6 = .ok (.iconst 0, 1) := by decide +kernel
theorem dX11_image_7 : decode cX11_image 7 = .ok (.iconst 1, 1) := by decide +kernel
theorem dX11_image_8 : decode cX11_image 8 = .ok (.invokestatic 189, 3) := by decide +kernel
theorem dX11_image_11 : decode cX11_image 11 = .ok (.ifCond .ne 5, 3) := by decide +kernel
theorem dX11_image_14 : decode cX11_image 14 = .ok (.iconst 0, 1) := by decide +kernel
theorem dX11_image_15 : decode cX11_image 15 = .ok (.ireturn, 1) := by decide +kernel
theorem dX11_image_16 : decode cX11_image 16 = .ok (.iconst 0, 1) := by decide +kernel
theorem dX11_image_17 : decode cX11_image 17 = .ok (.istore_n 2, 1) := by decide +kernel
theorem dX11_image_18 : decode cX11_image 18 = .ok (.iload_n 2, 1) := by decide +kernel
theorem dX11_image_19 : decode cX11_image 19 = .ok (.sipush 457, 3) := by decide +kernel
theorem dX11_image_22 : decode cX11_image 22 = .ok (.if_icmp .ge 27, 3) := by decide +kernel
theorem dX11_image_25 : decode cX11_image 25 = .ok (.aload_n 0, 1) := by decide +kernel
theorem dX11_image_26 : decode cX11_image 26 = .ok (.getfield 87, 3) := by decide +kernel
theorem dX11_image_29 : decode cX11_image 29 = .ok (.sipush 457, 3) := by decide +kernel
theorem dX11_image_32 : decode cX11_image 32 = .ok (.iload_n 1, 1) := by decide +kernel
theorem dX11_image_33 : decode cX11_image 33 = .ok (.imul, 1) := by decide +kernel
theorem dX11_image_34 : decode cX11_image 34 = .ok (.iload_n 2, 1) := by decide +kernel
theorem dX11_image_35 : decode cX11_image 35 = .ok (.iadd, 1) := by decide +kernel
theorem dX11_image_36 : decode cX11_image 36 = .ok (.aload_n 0, 1) := by decide +kernel
theorem dX11_image_37 : decode cX11_image 37 = .ok (.getfield 33, 3) := by decide +kernel
theorem dX11_image_40 : decode cX11_image 40 = .ok (.iload_n 2, 1) := by decide +kernel
theorem dX11_image_41 : decode cX11_image 41 = .ok (.iaload, 1) := by decide +kernel
theorem dX11_image_42 : decode cX11_image 42 = .ok (.iastore, 1) := by decide +kernel
theorem dX11_image_43 : decode cX11_image 43 = .ok (.iinc 2 1, 3) := by decide +kernel
theorem dX11_image_46 : decode cX11_image 46 = .ok (.goto (-28), 3) := by decide +kernel
theorem dX11_image_49 : decode cX11_image 49 = .ok (.iconst 0, 1) := by decide +kernel
theorem dX11_image_50 : decode cX11_image 50 = .ok (.istore_n 2, 1) := by decide +kernel
theorem dX11_image_51 : decode cX11_image 51 = .ok (.iload_n 2, 1) := by decide +kernel
theorem dX11_image_52 : decode cX11_image 52 = .ok (.bipush 12, 2) := by decide +kernel
theorem dX11_image_54 : decode cX11_image 54 = .ok (.if_icmp .ge 26, 3) := by decide +kernel
theorem dX11_image_57 : decode cX11_image 57 = .ok (.aload_n 0, 1) := by decide +kernel
theorem dX11_image_58 : decode cX11_image 58 = .ok (.getfield 90, 3) := by decide +kernel
theorem dX11_image_61 : decode cX11_image 61 = .ok (.bipush 12, 2) := by decide +kernel
theorem dX11_image_63 : decode cX11_image 63 = .ok (.iload_n 1, 1) := by decide +kernel
theorem dX11_image_64 : decode cX11_image 64 = .ok (.imul, 1) := by decide +kernel
theorem dX11_image_65 : decode cX11_image 65 = .ok (.iload_n 2, 1) := by decide +kernel
theorem dX11_image_66 : decode cX11_image 66 = .ok (.iadd, 1) := by decide +kernel
theorem dX11_image_67 : decode cX11_image 67 = .ok (.aload_n 0, 1) := by decide +kernel
theorem dX11_image_68 : decode cX11_image 68 = .ok (.getfield 43, 3) := by decide +kernel
theorem dX11_image_71 : decode cX11_image 71 = .ok (.iload_n 2, 1) := by decide +kernel
theorem dX11_image_72 : decode cX11_image 72 = .ok (.laload, 1) := by decide +kernel
theorem dX11_image_73 : decode cX11_image 73 = .ok (.lastore, 1) := by decide +kernel
theorem dX11_image_74 : decode cX11_image 74 = .ok (.iinc 2 1, 3) := by decide +kernel
theorem dX11_image_77 : decode cX11_image 77 = .ok (.goto (-26), 3) := by decide +kernel
theorem dX11_image_80 : decode cX11_image 80 = .ok (.aload_n 0, 1) := by decide +kernel
theorem dX11_image_81 : decode cX11_image 81 = .ok (.getfield 93, 3) := by decide +kernel
theorem dX11_image_84 : decode cX11_image 84 = .ok (.iload_n 1, 1) := by decide +kernel
theorem dX11_image_85 : decode cX11_image 85 = .ok (.iconst 1, 1) := by decide +kernel
theorem dX11_image_86 : decode cX11_image 86 = .ok (.bastore, 1) := by decide +kernel
theorem dX11_image_87 : decode cX11_image 87 = .ok (.iconst 1, 1) := by decide +kernel
theorem dX11_image_88 : decode cX11_image 88 = .ok (.ireturn, 1) := by decide +kernel
