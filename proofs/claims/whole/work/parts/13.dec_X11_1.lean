theorem dX11_throwsIf_0 : decode cX11_throwsIf 0 = .ok (.aload_n 0, 1) := by decide +kernel
theorem dX11_throwsIf_1 : decode cX11_throwsIf 1 = .ok (.iload_n 1, 1) := by decide +kernel
theorem dX11_throwsIf_2 : decode cX11_throwsIf 2 = .ok (.ifCond .eq 7, 3) := by decide +kernel
theorem dX11_throwsIf_5 : decode cX11_throwsIf 5 = .ok (.iconst 1, 1) := by decide +kernel
theorem dX11_throwsIf_6 : decode cX11_throwsIf 6 = .ok (.goto 4, 3) := by decide +kernel
theorem dX11_throwsIf_9 : decode cX11_throwsIf 9 = .ok (.iconst 0, 1) := by decide +kernel
theorem dX11_throwsIf_10 : decode cX11_throwsIf 10 = .ok (.putfield 1, 3) := by decide +kernel
theorem dX11_throwsIf_13 : decode cX11_throwsIf 13 = .ok (.iload_n 1, 1) := by decide +kernel
theorem dX11_throwsIf_14 : decode cX11_throwsIf 14 = .ok (.ireturn, 1) := by decide +kernel
theorem dX11_taken_0 : decode cX11_taken 0 = .ok (.aload_n 0, 1) := by decide +kernel
theorem dX11_taken_1 : decode cX11_taken 1 = .ok (.aload_n 0, 1) := by decide +kernel
theorem dX11_taken_2 : decode cX11_taken 2 = .ok (.getfield 7, 3) := by decide +kernel
theorem dX11_taken_5 : decode cX11_taken 5 = .ok (.putfield 18, 3) := by decide +kernel
theorem dX11_taken_8 : decode cX11_taken 8 = .ok (.aload_n 0, 1) := by decide +kernel
theorem dX11_taken_9 : decode cX11_taken 9 = .ok (.iconst 0, 1) := by decide +kernel
theorem dX11_taken_10 : decode cX11_taken 10 = .ok (.putfield 7, 3) := by decide +kernel
theorem dX11_taken_13 : decode cX11_taken 13 = .ok (.aload_n 0, 1) := by decide +kernel
theorem dX11_taken_14 : decode cX11_taken 14 = .ok (.iconst 0, 1) := by decide +kernel
theorem dX11_taken_15 : decode cX11_taken 15 = .ok (.putfield 21, 3) := by decide +kernel
theorem dX11_taken_18 : decode cX11_taken 18 = .ok (.aload_n 0, 1) := by decide +kernel
theorem dX11_taken_19 : decode cX11_taken 19 = .ok (.iload_n 1, 1) := by decide +kernel
theorem dX11_taken_20 : decode cX11_taken 20 = .ok (.putfield 24, 3) := by decide +kernel
theorem dX11_taken_23 : decode cX11_taken 23 = .ok (.return_, 1) := by decide +kernel
theorem dX11_greater_0 : decode cX11_greater 0 = .ok (.iload_n 0, 1) := by decide +kernel
theorem dX11_greater_1 : decode cX11_greater 1 = .ok (.iload_n 1, 1) := by decide +kernel
theorem dX11_greater_2 : decode cX11_greater 2 = .ok (.if_icmp .le 7, 3) := by decide +kernel
theorem dX11_greater_5 : decode cX11_greater 5 = .ok (.iload_n 0, 1) := by decide +kernel
theorem dX11_greater_6 : decode cX11_greater 6 = .ok (.goto 4, 3) := by decide +kernel
theorem dX11_greater_9 : decode cX11_greater 9 = .ok (.iload_n 1, 1) := by decide +kernel
theorem dX11_greater_10 : decode cX11_greater 10 = .ok (.ireturn, 1) := by decide +kernel
theorem dX11_clears_0 : decode cX11_clears 0 = .ok (.iconst 0, 1) := by decide +kernel
theorem dX11_clears_1 : decode cX11_clears 1 = .ok (.istore_n 1, 1) := by decide +kernel
theorem dX11_clears_2 : decode cX11_clears 2 = .ok (.iload_n 1, 1) := by decide +kernel
theorem dX11_clears_3 : decode cX11_clears 3 = .ok (.sipush 131, 3) := by decide +kernel
theorem dX11_clears_6 : decode cX11_clears 6 = .ok (.if_icmp .ge 16, 3) := by decide +kernel
theorem dX11_clears_9 : decode cX11_clears 9 = .ok (.aload_n 0, 1) := by decide +kernel
theorem dX11_clears_10 : decode cX11_clears 10 = .ok (.getfield 37, 3) := by decide +kernel
theorem dX11_clears_13 : decode cX11_clears 13 = .ok (.iload_n 1, 1) := by decide +kernel
theorem dX11_clears_14 : decode cX11_clears 14 = .ok (.iconst 0, 1) := by decide +kernel
theorem dX11_clears_15 : decode cX11_clears 15 = .ok (.iastore, 1) := by decide +kernel
theorem dX11_clears_16 : decode cX11_clears 16 = .ok (.iinc 1 1, 3) := by decide +kernel
theorem dX11_clears_19 : decode cX11_clears 19 = .ok (.goto (-17), 3) := by decide +kernel
theorem dX11_clears_22 : decode cX11_clears 22 = .ok (.aload_n 0, 1) := by decide +kernel
theorem dX11_clears_23 : decode cX11_clears 23 = .ok (.getfield 37, 3) := by decide +kernel
theorem dX11_clears_26 : decode cX11_clears 26 = .ok (.iconst 2, 1) := by decide +kernel
theorem dX11_clears_27 : decode cX11_clears 27 = .ok (.iconst 2, 1) := by decide +kernel
theorem dX11_clears_28 : decode cX11_clears 28 = .ok (.iastore, 1) := by decide +kernel
theorem dX11_clears_29 : decode cX11_clears 29 = .ok (.aload_n 0, 1) := by decide +kernel
theorem dX11_clears_30 : decode cX11_clears 30 = .ok (.getfield 37, 3) := by decide +kernel
theorem dX11_clears_33 : decode cX11_clears 33 = .ok (.iconst 3, 1) := by decide +kernel
theorem dX11_clears_34 : decode cX11_clears 34 = .ok (.iconst 1, 1) := by decide +kernel
theorem dX11_clears_35 : decode cX11_clears 35 = .ok (.iastore, 1) := by decide +kernel
theorem dX11_clears_36 : decode cX11_clears 36 = .ok (.return_, 1) := by decide +kernel
theorem dX11_next_0 : decode cX11_next 0 = .ok (.aload_n 0, 1) := by decide +kernel
theorem dX11_next_1 : decode cX11_next 1 = .ok (.invokevirtual 147, 3) := by decide +kernel
theorem dX11_next_4 : decode cX11_next 4 = .ok (.bipush 32, 2) := by decide +kernel
theorem dX11_next_6 : decode cX11_next 6 = .ok (.if_icmp .eq 12, 3) := by decide +kernel
theorem dX11_next_9 : decode cX11_next 9 = .ok (.aload_n 0, 1) := by decide +kernel
theorem dX11_next_10 : decode cX11_next 10 = .ok (.invokevirtual 147, 3) := by decide +kernel
theorem dX11_next_13 : decode cX11_next 13 = .ok (.bipush 10, 2) := by decide +kernel
theorem dX11_next_15 : decode cX11_next 15 = .ok (.if_icmp .ne 16, 3) := by decide +kernel
theorem dX11_next_18 : decode cX11_next 18 = .ok (.aload_n 0, 1) := by decide +kernel
theorem dX11_next_19 : decode cX11_next 19 = .ok (.dup, 1) := by decide +kernel
theorem dX11_next_20 : decode cX11_next 20 = .ok (.getfield 21, 3) := by decide +kernel
theorem dX11_next_23 : decode cX11_next 23 = .ok (.iconst 1, 1) := by decide +kernel
theorem dX11_next_24 : decode cX11_next 24 = .ok (.iadd, 1) := by decide +kernel
theorem dX11_next_25 : decode cX11_next 25 = .ok (.putfield 21, 3) := by decide +kernel
theorem dX11_next_28 : decode cX11_next 28 = .ok (.goto (-28), 3) := by decide +kernel
theorem dX11_next_31 : decode cX11_next 31 = .ok (.aload_n 0, 1) := by decide +kernel
theorem dX11_next_32 : decode cX11_next 32 = .ok (.aload_n 0, 1) := by decide +kernel
theorem dX11_next_33 : decode cX11_next 33 = .ok (.getfield 21, 3) := by decide +kernel
theorem dX11_next_36 : decode cX11_next 36 = .ok (.putfield 151, 3) := by decide +kernel
theorem dX11_next_39 : decode cX11_next 39 = .ok (.aload_n 0, 1) := by decide +kernel
theorem dX11_next_40 : decode cX11_next 40 = .ok (.iconst 0, 1) := by decide +kernel
theorem dX11_next_41 : decode cX11_next 41 = .ok (.putfield 154, 3) := by decide +kernel
theorem dX11_next_44 : decode cX11_next 44 = .ok (.aload_n 0, 1) := by decide +kernel
theorem dX11_next_45 : decode cX11_next 45 = .ok (.getfield 18, 3) := by decide +kernel
theorem dX11_next_48 : decode cX11_next 48 = .ok (.aload_n 0, 1) := by decide +kernel
theorem dX11_next_49 : decode cX11_next 49 = .ok (.getfield 24, 3) := by decide +kernel
theorem dX11_next_52 : decode cX11_next 52 = .ok (.if_icmp .le 28, 3) := by decide +kernel
theorem dX11_next_55 : decode cX11_next 55 = .ok (.aload_n 0, 1) := by decide +kernel
theorem dX11_next_56 : decode cX11_next 56 = .ok (.getfield 21, 3) := by decide +kernel
theorem dX11_next_59 : decode cX11_next 59 = .ok (.aload_n 0, 1) := by decide +kernel
theorem dX11_next_60 : decode cX11_next 60 = .ok (.getfield 24, 3) := by decide +kernel
theorem dX11_next_63 : decode cX11_next 63 = .ok (.if_icmp .lt 17, 3) := by decide +kernel
theorem dX11_next_66 : decode cX11_next 66 = .ok (.aload_n 0, 1) := by decide +kernel
theorem dX11_next_67 : decode cX11_next 67 = .ok (.aload_n 0, 1) := by decide +kernel
theorem dX11_next_68 : decode cX11_next 68 = .ok (.getfield 24, 3) := by decide +kernel
theorem dX11_next_71 : decode cX11_next 71 = .ok (.putfield 151, 3) := by decide +kernel
theorem dX11_next_74 : decode cX11_next 74 = .ok (.aload_n 0, 1) := by decide +kernel
theorem dX11_next_75 : decode cX11_next 75 = .ok (.iconst 4, 1) := by decide +kernel
theorem dX11_next_76 : decode cX11_next 76 = .ok (.putfield 157, 3) := by decide +kernel
theorem dX11_next_79 : decode cX11_next 79 = .ok (.return_, 1) := by decide +kernel
theorem dX11_next_80 : decode cX11_next 80 = .ok (.aload_n 0, 1) := by decide +kernel
theorem dX11_next_81 : decode cX11_next 81 = .ok (.invokevirtual 147, 3) := by decide +kernel
theorem dX11_next_84 : decode cX11_next 84 = .ok (.istore_n 1, 1) := by decide +kernel
theorem dX11_next_85 : decode cX11_next 85 = .ok (.iload_n 1, 1) := by decide +kernel
theorem dX11_next_86 : decode cX11_next 86 = .ok (.ifCond .ge 9, 3) := by decide +kernel
theorem dX11_next_89 : decode cX11_next 89 = .ok (.aload_n 0, 1) := by decide +kernel
theorem dX11_next_90 : decode cX11_next 90 = .ok (.iconst 0, 1) := by decide +kernel
theorem dX11_next_91 : decode cX11_next 91 = .ok (.putfield 157, 3) := by decide +kernel
theorem dX11_next_94 : decode cX11_next 94 = .ok (.return_, 1) := by decide +kernel
theorem dX11_next_95 : decode cX11_next 95 = .ok (.iload_n 1, 1) := by decide +kernel
theorem dX11_next_96 : decode cX11_next 96 = .ok (.invokestatic 160, 3) := by decide +kernel
theorem dX11_next_99 : decode cX11_next 99 = .ok (.ifCond .ne 65, 3) := by decide +kernel
theorem dX11_next_102 : decode cX11_next 102 = .ok (.iload_n 1, 1) := by decide +kernel
theorem dX11_next_103 : decode cX11_next 103 = .ok (.invokestatic 164, 3) := by decide +kernel
theorem dX11_next_106 : decode cX11_next 106 = .ok (.ifCond .ne 58, 3) := by decide +kernel
theorem dX11_next_109 : decode cX11_next 109 = .ok (.aload_n 0, 1) := by decide +kernel
theorem dX11_next_110 : decode cX11_next 110 = .ok (.iload_n 1, 1) := by decide +kernel
theorem dX11_next_111 : decode cX11_next 111 = .ok (.bipush 59, 2) := by decide +kernel
theorem dX11_next_113 : decode cX11_next 113 = .ok (.if_icmp .eq 27, 3) := by decide +kernel
theorem dX11_next_116 : decode cX11_next 116 = .ok (.iload_n 1, 1) := by decide +kernel
theorem dX11_next_117 : decode cX11_next 117 = .ok (.bipush 40, 2) := by decide +kernel
theorem dX11_next_119 : decode cX11_next 119 = .ok (.if_icmp .eq 21, 3) := by decide +kernel
theorem dX11_next_122 : decode cX11_next 122 = .ok (.iload_n 1, 1) := by decide +kernel
theorem dX11_next_123 : decode cX11_next 123 = .ok (.bipush 41, 2) := by decide +kernel
theorem dX11_next_125 : decode cX11_next 125 = .ok (.if_icmp .eq 15, 3) := by decide +kernel
theorem dX11_next_128 : decode cX11_next 128 = .ok (.iload_n 1, 1) := by decide +kernel
theorem dX11_next_129 : decode cX11_next 129 = .ok (.bipush 60, 2) := by decide +kernel
theorem dX11_next_131 : decode cX11_next 131 = .ok (.if_icmp .lt 13, 3) := by decide +kernel
theorem dX11_next_134 : decode cX11_next 134 = .ok (.iload_n 1, 1) := by decide +kernel
theorem dX11_next_135 : decode cX11_next 135 = .ok (.bipush 62, 2) := by decide +kernel
theorem dX11_next_137 : decode cX11_next 137 = .ok (.if_icmp .gt 7, 3) := by decide +kernel
theorem dX11_next_140 : decode cX11_next 140 = .ok (.iconst 3, 1) := by decide +kernel
theorem dX11_next_141 : decode cX11_next 141 = .ok (.goto 4, 3) := by decide +kernel
theorem dX11_next_144 : decode cX11_next 144 = .ok (.iconst 4, 1) := by decide +kernel
theorem dX11_next_145 : decode cX11_next 145 = .ok (.putfield 157, 3) := by decide +kernel
theorem dX11_next_148 : decode cX11_next 148 = .ok (.aload_n 0, 1) := by decide +kernel
theorem dX11_next_149 : decode cX11_next 149 = .ok (.iload_n 1, 1) := by decide +kernel
theorem dX11_next_150 : decode cX11_next 150 = .ok (.putfield 167, 3) := by decide +kernel
theorem dX11_next_153 : decode cX11_next 153 = .ok (.aload_n 0, 1) := by decide +kernel
theorem dX11_next_154 : decode cX11_next 154 = .ok (.dup, 1) := by decide +kernel
theorem dX11_next_155 : decode cX11_next 155 = .ok (.getfield 21, 3) := by decide +kernel
theorem dX11_next_158 : decode cX11_next 158 = .ok (.iconst 1, 1) := by decide +kernel
theorem dX11_next_159 : decode cX11_next 159 = .ok (.iadd, 1) := by decide +kernel
theorem dX11_next_160 : decode cX11_next 160 = .ok (.putfield 21, 3) := by decide +kernel
theorem dX11_next_163 : decode cX11_next 163 = .ok (.return_, 1) := by decide +kernel
theorem dX11_next_164 : decode cX11_next 164 = .ok (.iload_n 1, 1) := by decide +kernel
theorem dX11_next_165 : decode cX11_next 165 = .ok (.invokestatic 160, 3) := by decide +kernel
theorem dX11_next_168 : decode cX11_next 168 = .ok (.istore_n 2, 1) := by decide +kernel
theorem dX11_next_169 : decode cX11_next 169 = .ok (.iconst 1, 1) := by decide +kernel
theorem dX11_next_170 : decode cX11_next 170 = .ok (.istore_n 3, 1) := by decide +kernel
theorem dX11_next_171 : decode cX11_next 171 = .ok (.aload_n 0, 1) := by decide +kernel
theorem dX11_next_172 : decode cX11_next 172 = .ok (.lconst 0, 1) := by decide +kernel
theorem dX11_next_173 : decode cX11_next 173 = .ok (.putfield 170, 3) := by decide +kernel
theorem dX11_next_176 : decode cX11_next 176 = .ok (.aload_n 0, 1) := by decide +kernel
theorem dX11_next_177 : decode cX11_next 177 = .ok (.iconst 0, 1) := by decide +kernel
theorem dX11_next_178 : decode cX11_next 178 = .ok (.putfield 167, 3) := by decide +kernel
theorem dX11_next_181 : decode cX11_next 181 = .ok (.aload_n 0, 1) := by decide +kernel
theorem dX11_next_182 : decode cX11_next 182 = .ok (.invokevirtual 147, 3) := by decide +kernel
theorem dX11_next_185 : decode cX11_next 185 = .ok (.invokestatic 160, 3) := by decide +kernel
theorem dX11_next_188 : decode cX11_next 188 = .ok (.ifCond .ne 13, 3) := by decide +kernel
theorem dX11_next_191 : decode cX11_next 191 = .ok (.aload_n 0, 1) := by decide +kernel
theorem dX11_next_192 : decode cX11_next 192 = .ok (.invokevirtual 147, 3) := by decide +kernel
theorem dX11_next_195 : decode cX11_next 195 = .ok (.invokestatic 164, 3) := by decide +kernel
theorem dX11_next_198 : decode cX11_next 198 = .ok (.ifCond .eq 100, 3) := by decide +kernel
theorem dX11_next_201 : decode cX11_next 201 = .ok (.iload_n 3, 1) := by decide +kernel
theorem dX11_next_202 : decode cX11_next 202 = .ok (.ifCond .eq 18, 3) := by decide +kernel
theorem dX11_next_205 : decode cX11_next 205 = .ok (.aload_n 0, 1) := by decide +kernel
theorem dX11_next_206 : decode cX11_next 206 = .ok (.invokevirtual 147, 3) := by decide +kernel
theorem dX11_next_209 : decode cX11_next 209 = .ok (.invokestatic 160, 3) := by decide +kernel
theorem dX11_next_212 : decode cX11_next 212 = .ok (.iload_n 2, 1) := by decide +kernel
theorem dX11_next_213 : decode cX11_next 213 = .ok (.if_icmp .ne 7, 3) := by decide +kernel
theorem dX11_next_216 : decode cX11_next 216 = .ok (.iconst 1, 1) := by decide +kernel
theorem dX11_next_217 : decode cX11_next 217 = .ok (.goto 4, 3) := by decide +kernel
theorem dX11_next_220 : decode cX11_next 220 = .ok (.iconst 0, 1) := by decide +kernel
theorem dX11_next_221 : decode cX11_next 221 = .ok (.istore_n 3, 1) := by decide +kernel
theorem dX11_next_222 : decode cX11_next 222 = .ok (.aload_n 0, 1) := by decide +kernel
theorem dX11_next_223 : decode cX11_next 223 = .ok (.getfield 154, 3) := by decide +kernel
theorem dX11_next_226 : decode cX11_next 226 = .ok (.bipush 7, 2) := by decide +kernel
theorem dX11_next_228 : decode cX11_next 228 = .ok (.if_icmp .ge 20, 3) := by decide +kernel
theorem dX11_next_231 : decode cX11_next 231 = .ok (.aload_n 0, 1) := by decide +kernel
theorem dX11_next_232 : decode cX11_next 232 = .ok (.aload_n 0, 1) := by decide +kernel
theorem dX11_next_233 : decode cX11_next 233 = .ok (.getfield 170, 3) := by decide +kernel
theorem dX11_next_236 : decode cX11_next 236 = .ok (.bipush 8, 2) := by decide +kernel
theorem dX11_next_238 : decode cX11_next 238 = .ok (.lshl, 1) := by decide +kernel
theorem dX11_next_239 : decode cX11_next 239 = .ok (.aload_n 0, 1) := by decide +kernel
theorem dX11_next_240 : decode cX11_next 240 = .ok (.invokevirtual 147, 3) := by decide +kernel
theorem dX11_next_243 : decode cX11_next 243 = .ok (.i2l, 1) := by decide +kernel
theorem dX11_next_244 : decode cX11_next 244 = .ok (.lor, 1) := by decide +kernel
theorem dX11_next_245 : decode cX11_next 245 = .ok (.putfield 170, 3) := by decide +kernel
theorem dX11_next_248 : decode cX11_next 248 = .ok (.aload_n 0, 1) := by decide +kernel
theorem dX11_next_249 : decode cX11_next 249 = .ok (.getfield 154, 3) := by decide +kernel
theorem dX11_next_252 : decode cX11_next 252 = .ok (.iconst 3, 1) := by decide +kernel
theorem dX11_next_253 : decode cX11_next 253 = .ok (.if_icmp .ge 22, 3) := by decide +kernel
theorem dX11_next_256 : decode cX11_next 256 = .ok (.aload_n 0, 1) := by decide +kernel
theorem dX11_next_257 : decode cX11_next 257 = .ok (.bipush 10, 2) := by decide +kernel
theorem dX11_next_259 : decode cX11_next 259 = .ok (.aload_n 0, 1) := by decide +kernel
theorem dX11_next_260 : decode cX11_next 260 = .ok (.getfield 167, 3) := by decide +kernel
theorem dX11_next_263 : decode cX11_next 263 = .ok (.imul, 1) := by decide +kernel
theorem dX11_next_264 : decode cX11_next 264 = .ok (.aload_n 0, 1) := by decide +kernel
theorem dX11_next_265 : decode cX11_next 265 = .ok (.invokevirtual 147, 3) := by decide +kernel
theorem dX11_next_268 : decode cX11_next 268 = .ok (.iadd, 1) := by decide +kernel
theorem dX11_next_269 : decode cX11_next 269 = .ok (.bipush 48, 2) := by decide +kernel
theorem dX11_next_271 : decode cX11_next 271 = .ok (.isub, 1) := by decide +kernel
theorem dX11_next_272 : decode cX11_next 272 = .ok (.putfield 167, 3) := by decide +kernel
theorem dX11_next_275 : decode cX11_next 275 = .ok (.aload_n 0, 1) := by decide +kernel
theorem dX11_next_276 : decode cX11_next 276 = .ok (.dup, 1) := by decide +kernel
theorem dX11_next_277 : decode cX11_next 277 = .ok (.getfield 154, 3) := by decide +kernel
theorem dX11_next_280 : decode cX11_next 280 = .ok (.iconst 1, 1) := by decide +kernel
theorem dX11_next_281 : decode cX11_next 281 = .ok (.iadd, 1) := by decide +kernel
theorem dX11_next_282 : decode cX11_next 282 = .ok (.putfield 154, 3) := by decide +kernel
theorem dX11_next_285 : decode cX11_next 285 = .ok (.aload_n 0, 1) := by decide +kernel
theorem dX11_next_286 : decode cX11_next 286 = .ok (.dup, 1) := by decide +kernel
theorem dX11_next_287 : decode cX11_next 287 = .ok (.getfield 21, 3) := by decide +kernel
theorem dX11_next_290 : decode cX11_next 290 = .ok (.iconst 1, 1) := by decide +kernel
theorem dX11_next_291 : decode cX11_next 291 = .ok (.iadd, 1) := by decide +kernel
theorem dX11_next_292 : decode cX11_next 292 = .ok (.putfield 21, 3) := by decide +kernel
theorem dX11_next_295 : decode cX11_next 295 = .ok (.goto (-114), 3) := by decide +kernel
theorem dX11_next_298 : decode cX11_next 298 = .ok (.aload_n 0, 1) := by decide +kernel
theorem dX11_next_299 : decode cX11_next 299 = .ok (.iload_n 3, 1) := by decide +kernel
theorem dX11_next_300 : decode cX11_next 300 = .ok (.ifCond .eq 20, 3) := by decide +kernel
theorem dX11_next_303 : decode cX11_next 303 = .ok (.aload_n 0, 1) := by decide +kernel
theorem dX11_next_304 : decode cX11_next 304 = .ok (.getfield 154, 3) := by decide +kernel
theorem dX11_next_307 : decode cX11_next 307 = .ok (.iload_n 2, 1) := by decide +kernel
theorem dX11_next_308 : decode cX11_next 308 = .ok (.ifCond .eq 8, 3) := by decide +kernel
theorem dX11_next_311 : decode cX11_next 311 = .ok (.bipush 7, 2) := by decide +kernel
theorem dX11_next_313 : decode cX11_next 313 = .ok (.goto 4, 3) := by decide +kernel
theorem dX11_next_316 : decode cX11_next 316 = .ok (.iconst 3, 1) := by decide +kernel
theorem dX11_next_317 : decode cX11_next 317 = .ok (.if_icmp .le 7, 3) := by decide +kernel
theorem dX11_next_320 : decode cX11_next 320 = .ok (.iconst 4, 1) := by decide +kernel
theorem dX11_next_321 : decode cX11_next 321 = .ok (.goto 12, 3) := by decide +kernel
theorem dX11_next_324 : decode cX11_next 324 = .ok (.iload_n 2, 1) := by decide +kernel
theorem dX11_next_325 : decode cX11_next 325 = .ok (.ifCond .eq 7, 3) := by decide +kernel
theorem dX11_next_328 : decode cX11_next 328 = .ok (.iconst 1, 1) := by decide +kernel
theorem dX11_next_329 : decode cX11_next 329 = .ok (.goto 4, 3) := by decide +kernel
theorem dX11_next_332 : decode cX11_next 332 = .ok (.iconst 2, 1) := by decide +kernel
theorem dX11_next_333 : decode cX11_next 333 = .ok (.putfield 157, 3) := by decide +kernel
theorem dX11_next_336 : decode cX11_next 336 = .ok (.return_, 1) := by decide +kernel
theorem dX11_sign_0 : decode cX11_sign 0 = .ok (.aload_n 0, 1) := by decide +kernel
theorem dX11_sign_1 : decode cX11_sign 1 = .ok (.iload_n 1, 1) := by decide +kernel
theorem dX11_sign_2 : decode cX11_sign 2 = .ok (.invokevirtual 180, 3) := by decide +kernel
theorem dX11_sign_5 : decode cX11_sign 5 = .ok (.ifCond .ne 9, 3) := by decide +kernel
theorem dX11_sign_8 : decode cX11_sign 8 = .ok (.aload_n 0, 1) := by decide +kernel
theorem dX11_sign_9 : decode cX11_sign 9 = .ok (.iconst 1, 1) := by decide +kernel
theorem dX11_sign_10 : decode cX11_sign 10 = .ok (.invokevirtual 183, 3) := by decide +kernel
theorem dX11_sign_13 : decode cX11_sign 13 = .ok (.ireturn, 1) := by decide +kernel
theorem dX11_sign_14 : decode cX11_sign 14 = .ok (.aload_n 0, 1) := by decide +kernel
theorem dX11_sign_15 : decode cX11_sign 15 = .ok (.invokevirtual 186, 3) := by decide +kernel
theorem dX11_sign_18 : decode cX11_sign 18 = .ok (.iconst 1, 1) := by decide +kernel
theorem dX11_sign_19 : decode cX11_sign 19 = .ok (.ireturn, 1) := by decide +kernel
theorem dX11_seek_0 : decode cX11_seek 0 = .ok (.iconst 0, 1) := by decide +kernel
theorem dX11_seek_1 : decode cX11_seek 1 = .ok (.istore_n 3, 1) := by decide +kernel
theorem dX11_seek_2 : decode cX11_seek 2 = .ok (.iload_n 3, 1) := by decide +kernel
theorem dX11_seek_3 : decode cX11_seek 3 = .ok (.iload_n 2, 1) := by decide +kernel
theorem dX11_seek_4 : decode cX11_seek 4 = .ok (.if_icmp .ge 27, 3) := by decide +kernel
theorem dX11_seek_7 : decode cX11_seek 7 = .ok (.aload_n 0, 1) := by decide +kernel
theorem dX11_seek_8 : decode cX11_seek 8 = .ok (.getfield 43, 3) := by decide +kernel
theorem dX11_seek_11 : decode cX11_seek 11 = .ok (.iload_n 1, 1) := by decide +kernel
theorem dX11_seek_12 : decode cX11_seek 12 = .ok (.iload_n 3, 1) := by decide +kernel
theorem dX11_seek_13 : decode cX11_seek 13 = .ok (.iadd, 1) := by decide +kernel
theorem dX11_seek_14 : decode cX11_seek 14 = .ok (.laload, 1) := by decide +kernel
theorem dX11_seek_15 : decode cX11_seek 15 = .ok (.aload_n 0, 1) := by decide +kernel
theorem dX11_seek_16 : decode cX11_seek 16 = .ok (.getfield 170, 3) := by decide +kernel
theorem dX11_seek_19 : decode cX11_seek 19 = .ok (.lcmp, 1) := by decide +kernel
theorem dX11_seek_20 : decode cX11_seek 20 = .ok (.ifCond .ne 5, 3) := by decide +kernel
theorem dX11_seek_23 : decode cX11_seek 23 = .ok (.iload_n 3, 1) := by decide +kernel
theorem dX11_seek_24 : decode cX11_seek 24 = .ok (.ireturn, 1) := by decide +kernel
theorem dX11_seek_25 : decode cX11_seek 25 = .ok (.iinc 3 1, 3) := by decide +kernel
theorem dX11_seek_28 : decode cX11_seek 28 = .ok (.goto (-26), 3) := by decide +kernel
theorem dX11_seek_31 : decode cX11_seek 31 = .ok (.iconst (-1), 1) := by decide +kernel
theorem dX11_seek_32 : decode cX11_seek 32 = .ok (.ireturn, 1) := by decide +kernel
theorem dX11_once_0 : decode cX11_once 0 = .ok (.aload_n 0, 1) := by decide +kernel
theorem dX11_once_1 : decode cX11_once 1 = .ok (.getfield 211, 3) := by decide +kernel
theorem dX11_once_4 : decode cX11_once 4 = .ok (.iload_n 1, 1) := by decide +kernel
theorem dX11_once_5 : decode cX11_once 5 = .ok (.invokestatic 214, 3) := by decide +kernel
theorem dX11_once_8 : decode cX11_once 8 = .ok (.ifCond .eq 9, 3) := by decide +kernel
theorem dX11_once_11 : decode cX11_once 11 = .ok (.aload_n 0, 1) := by decide +kernel
theorem dX11_once_12 : decode cX11_once 12 = .ok (.iconst 3, 1) := by decide +kernel
theorem dX11_once_13 : decode cX11_once 13 = .ok (.invokevirtual 183, 3) := by decide +kernel
theorem dX11_once_16 : decode cX11_once 16 = .ok (.ireturn, 1) := by decide +kernel
theorem dX11_once_17 : decode cX11_once 17 = .ok (.aload_n 0, 1) := by decide +kernel
theorem dX11_once_18 : decode cX11_once 18 = .ok (.dup, 1) := by decide +kernel
theorem dX11_once_19 : decode cX11_once 19 = .ok (.getfield 211, 3) := by decide +kernel
theorem dX11_once_22 : decode cX11_once 22 = .ok (.iconst 1, 1) := by decide +kernel
theorem dX11_once_23 : decode cX11_once 23 = .ok (.iload_n 1, 1) := by decide +kernel
theorem dX11_once_24 : decode cX11_once 24 = .ok (.ishl, 1) := by decide +kernel
theorem dX11_once_25 : decode cX11_once 25 = .ok (.ior, 1) := by decide +kernel
theorem dX11_once_26 : decode cX11_once 26 = .ok (.putfield 211, 3) := by decide +kernel
theorem dX11_once_29 : decode cX11_once 29 = .ok (.aload_n 0, 1) := by decide +kernel
theorem dX11_once_30 : decode cX11_once 30 = .ok (.invokevirtual 186, 3) := by decide +kernel
theorem dX11_once_33 : decode cX11_once 33 = .ok (.aload_n 0, 1) := by decide +kernel
theorem dX11_once_34 : decode cX11_once 34 = .ok (.iload_n 2, 1) := by decide +kernel
theorem dX11_once_35 : decode cX11_once 35 = .ok (.iload_n 3, 1) := by decide +kernel
theorem dX11_once_36 : decode cX11_once 36 = .ok (.iload 4, 2) := by decide +kernel
theorem dX11_once_38 : decode cX11_once 38 = .ok (.invokevirtual 217, 3) := by decide +kernel
theorem dX11_once_41 : decode cX11_once 41 = .ok (.ireturn, 1) := by decide +kernel
theorem dX11_readTrade_0 : decode cX11_readTrade 0 = .ok (.aload_n 0, 1) := by decide +kernel
theorem dX11_readTrade_1 : decode cX11_readTrade 1 = .ok (.invokevirtual 186, 3) := by decide +kernel
theorem dX11_readTrade_4 : decode cX11_readTrade 4 = .ok (.aload_n 0, 1) := by decide +kernel
theorem dX11_readTrade_5 : decode cX11_readTrade 5 = .ok (.bipush 12, 2) := by decide +kernel
theorem dX11_readTrade_7 : decode cX11_readTrade 7 = .ok (.aload_n 0, 1) := by decide +kernel
theorem dX11_readTrade_8 : decode cX11_readTrade 8 = .ok (.getfield 37, 3) := by decide +kernel
theorem dX11_readTrade_11 : decode cX11_readTrade 11 = .ok (.iconst 0, 1) := by decide +kernel
theorem dX11_readTrade_12 : decode cX11_readTrade 12 = .ok (.iaload, 1) := by decide +kernel
theorem dX11_readTrade_13 : decode cX11_readTrade 13 = .ok (.invokevirtual 244, 3) := by decide +kernel
theorem dX11_readTrade_16 : decode cX11_readTrade 16 = .ok (.ifCond .ne 5, 3) := by decide +kernel
theorem dX11_readTrade_19 : decode cX11_readTrade 19 = .ok (.iconst 0, 1) := by decide +kernel
theorem dX11_readTrade_20 : decode cX11_readTrade 20 = .ok (.ireturn, 1) := by decide +kernel
theorem dX11_readTrade_21 : decode cX11_readTrade 21 = .ok (.iconst 5, 1) := by decide +kernel
theorem dX11_readTrade_22 : decode cX11_readTrade 22 = .ok (.aload_n 0, 1) := by decide +kernel
theorem dX11_readTrade_23 : decode cX11_readTrade 23 = .ok (.getfield 193, 3) := by decide +kernel
theorem dX11_readTrade_26 : decode cX11_readTrade 26 = .ok (.imul, 1) := by decide +kernel
theorem dX11_readTrade_27 : decode cX11_readTrade 27 = .ok (.istore_n 2, 1) := by decide +kernel
theorem dX11_readTrade_28 : decode cX11_readTrade 28 = .ok (.aload_n 0, 1) := by decide +kernel
theorem dX11_readTrade_29 : decode cX11_readTrade 29 = .ok (.bipush 19, 2) := by decide +kernel
theorem dX11_readTrade_31 : decode cX11_readTrade 31 = .ok (.aload_n 0, 1) := by decide +kernel
theorem dX11_readTrade_32 : decode cX11_readTrade 32 = .ok (.getfield 37, 3) := by decide +kernel
theorem dX11_readTrade_35 : decode cX11_readTrade 35 = .ok (.iconst 1, 1) := by decide +kernel
theorem dX11_readTrade_36 : decode cX11_readTrade 36 = .ok (.iaload, 1) := by decide +kernel
theorem dX11_readTrade_37 : decode cX11_readTrade 37 = .ok (.invokevirtual 208, 3) := by decide +kernel
theorem dX11_readTrade_40 : decode cX11_readTrade 40 = .ok (.ifCond .ne 5, 3) := by decide +kernel
theorem dX11_readTrade_43 : decode cX11_readTrade 43 = .ok (.iconst 0, 1) := by decide +kernel
theorem dX11_readTrade_44 : decode cX11_readTrade 44 = .ok (.ireturn, 1) := by decide +kernel
theorem dX11_readTrade_45 : decode cX11_readTrade 45 = .ok (.iload_n 2, 1) := by decide +kernel
theorem dX11_readTrade_46 : decode cX11_readTrade 46 = .ok (.aload_n 0, 1) := by decide +kernel
theorem dX11_readTrade_47 : decode cX11_readTrade 47 = .ok (.getfield 193, 3) := by decide +kernel
theorem dX11_readTrade_50 : decode cX11_readTrade 50 = .ok (.iadd, 1) := by decide +kernel
theorem dX11_readTrade_51 : decode cX11_readTrade 51 = .ok (.istore_n 2, 1) := by decide +kernel
theorem dX11_readTrade_52 : decode cX11_readTrade 52 = .ok (.aload_n 0, 1) := by decide +kernel
theorem dX11_readTrade_53 : decode cX11_readTrade 53 = .ok (.getfield 37, 3) := by decide +kernel
theorem dX11_readTrade_56 : decode cX11_readTrade 56 = .ok (.bipush 47, 2) := by decide +kernel
theorem dX11_readTrade_58 : decode cX11_readTrade 58 = .ok (.iload_n 2, 1) := by decide +kernel
theorem dX11_readTrade_59 : decode cX11_readTrade 59 = .ok (.iadd, 1) := by decide +kernel
theorem dX11_readTrade_60 : decode cX11_readTrade 60 = .ok (.iaload, 1) := by decide +kernel
theorem dX11_readTrade_61 : decode cX11_readTrade 61 = .ok (.ifCond .gt 15, 3) := by decide +kernel
theorem dX11_readTrade_64 : decode cX11_readTrade 64 = .ok (.aload_n 0, 1) := by decide +kernel
theorem dX11_readTrade_65 : decode cX11_readTrade 65 = .ok (.getfield 37, 3) := by decide +kernel
theorem dX11_readTrade_68 : decode cX11_readTrade 68 = .ok (.bipush 82, 2) := by decide +kernel
theorem dX11_readTrade_70 : decode cX11_readTrade 70 = .ok (.iload_n 2, 1) := by decide +kernel
theorem dX11_readTrade_71 : decode cX11_readTrade 71 = .ok (.iadd, 1) := by decide +kernel
theorem dX11_readTrade_72 : decode cX11_readTrade 72 = .ok (.iaload, 1) := by decide +kernel
theorem dX11_readTrade_73 : decode cX11_readTrade 73 = .ok (.ifCond .le 9, 3) := by decide +kernel
theorem dX11_readTrade_76 : decode cX11_readTrade 76 = .ok (.aload_n 0, 1) := by decide +kernel
theorem dX11_readTrade_77 : decode cX11_readTrade 77 = .ok (.iconst 3, 1) := by decide +kernel
theorem dX11_readTrade_78 : decode cX11_readTrade 78 = .ok (.invokevirtual 183, 3) := by decide +kernel
theorem dX11_readTrade_81 : decode cX11_readTrade 81 = .ok (.ireturn, 1) := by decide +kernel
theorem dX11_readTrade_82 : decode cX11_readTrade 82 = .ok (.aload_n 0, 1) := by decide +kernel
theorem dX11_readTrade_83 : decode cX11_readTrade 83 = .ok (.invokevirtual 186, 3) := by decide +kernel
theorem dX11_readTrade_86 : decode cX11_readTrade 86 = .ok (.iload_n 1, 1) := by decide +kernel
theorem dX11_readTrade_87 : decode cX11_readTrade 87 = .ok (.ifCond .ne 15, 3) := by decide +kernel
theorem dX11_readTrade_90 : decode cX11_readTrade 90 = .ok (.aload_n 0, 1) := by decide +kernel
theorem dX11_readTrade_91 : decode cX11_readTrade 91 = .ok (.bipush 82, 2) := by decide +kernel
theorem dX11_readTrade_93 : decode cX11_readTrade 93 = .ok (.iload_n 2, 1) := by decide +kernel
theorem dX11_readTrade_94 : decode cX11_readTrade 94 = .ok (.iadd, 1) := by decide +kernel
theorem dX11_readTrade_95 : decode cX11_readTrade 95 = .ok (.iconst 1, 1) := by decide +kernel
theorem dX11_readTrade_96 : decode cX11_readTrade 96 = .ok (.bipush 9, 2) := by decide +kernel
theorem dX11_readTrade_98 : decode cX11_readTrade 98 = .ok (.invokevirtual 217, 3) := by decide +kernel
theorem dX11_readTrade_101 : decode cX11_readTrade 101 = .ok (.ireturn, 1) := by decide +kernel
theorem dX11_readTrade_102 : decode cX11_readTrade 102 = .ok (.aload_n 0, 1) := by decide +kernel
theorem dX11_readTrade_103 : decode cX11_readTrade 103 = .ok (.bipush 12, 2) := by decide +kernel
theorem dX11_readTrade_105 : decode cX11_readTrade 105 = .ok (.iload_n 2, 1) := by decide +kernel
theorem dX11_readTrade_106 : decode cX11_readTrade 106 = .ok (.iadd, 1) := by decide +kernel
theorem dX11_readTrade_107 : decode cX11_readTrade 107 = .ok (.iconst 1, 1) := by decide +kernel
theorem dX11_readTrade_108 : decode cX11_readTrade 108 = .ok (.bipush 9, 2) := by decide +kernel
theorem dX11_readTrade_110 : decode cX11_readTrade 110 = .ok (.invokevirtual 217, 3) := by decide +kernel
theorem dX11_readTrade_113 : decode cX11_readTrade 113 = .ok (.ifCond .eq 17, 3) := by decide +kernel
theorem dX11_readTrade_116 : decode cX11_readTrade 116 = .ok (.aload_n 0, 1) := by decide +kernel
theorem dX11_readTrade_117 : decode cX11_readTrade 117 = .ok (.bipush 47, 2) := by decide +kernel
theorem dX11_readTrade_119 : decode cX11_readTrade 119 = .ok (.iload_n 2, 1) := by decide +kernel
theorem dX11_readTrade_120 : decode cX11_readTrade 120 = .ok (.iadd, 1) := by decide +kernel
theorem dX11_readTrade_121 : decode cX11_readTrade 121 = .ok (.iconst 0, 1) := by decide +kernel
theorem dX11_readTrade_122 : decode cX11_readTrade 122 = .ok (.bipush 20, 2) := by decide +kernel
theorem dX11_readTrade_124 : decode cX11_readTrade 124 = .ok (.invokevirtual 217, 3) := by decide +kernel
theorem dX11_readTrade_127 : decode cX11_readTrade 127 = .ok (.ifCond .ne 5, 3) := by decide +kernel
theorem dX11_readTrade_130 : decode cX11_readTrade 130 = .ok (.iconst 0, 1) := by decide +kernel
theorem dX11_readTrade_131 : decode cX11_readTrade 131 = .ok (.ireturn, 1) := by decide +kernel
theorem dX11_readTrade_132 : decode cX11_readTrade 132 = .ok (.aload_n 0, 1) := by decide +kernel
theorem dX11_readTrade_133 : decode cX11_readTrade 133 = .ok (.getfield 37, 3) := by decide +kernel
theorem dX11_readTrade_136 : decode cX11_readTrade 136 = .ok (.bipush 47, 2) := by decide +kernel
theorem dX11_readTrade_138 : decode cX11_readTrade 138 = .ok (.iload_n 2, 1) := by decide +kernel
theorem dX11_readTrade_139 : decode cX11_readTrade 139 = .ok (.iadd, 1) := by decide +kernel
theorem dX11_readTrade_140 : decode cX11_readTrade 140 = .ok (.dup2, 1) := by decide +kernel
theorem dX11_readTrade_141 : decode cX11_readTrade 141 = .ok (.iaload, 1) := by decide +kernel
theorem dX11_readTrade_142 : decode cX11_readTrade 142 = .ok (.iconst 1, 1) := by decide +kernel
theorem dX11_readTrade_143 : decode cX11_readTrade 143 = .ok (.iadd, 1) := by decide +kernel
theorem dX11_readTrade_144 : decode cX11_readTrade 144 = .ok (.iastore, 1) := by decide +kernel
theorem dX11_readTrade_145 : decode cX11_readTrade 145 = .ok (.iconst 1, 1) := by decide +kernel
theorem dX11_readTrade_146 : decode cX11_readTrade 146 = .ok (.ireturn, 1) := by decide +kernel
theorem dX11_isPerson_0 : decode cX11_isPerson 0 = .ok (.iload_n 1, 1) := by decide +kernel
theorem dX11_isPerson_1 : decode cX11_isPerson 1 = .ok (.iconst 0, 1) := by decide +kernel
theorem dX11_isPerson_2 : decode cX11_isPerson 2 = .ok (.aload_n 0, 1) := by decide +kernel
theorem dX11_isPerson_3 : decode cX11_isPerson 3 = .ok (.getfield 33, 3) := by decide +kernel
theorem dX11_isPerson_6 : decode cX11_isPerson 6 = .ok (.iconst 0, 1) := by decide +kernel
theorem dX11_isPerson_7 : decode cX11_isPerson 7 = .ok (.iaload, 1) := by decide +kernel
theorem dX11_isPerson_8 : decode cX11_isPerson 8 = .ok (.iconst 1, 1) := by decide +kernel
theorem dX11_isPerson_9 : decode cX11_isPerson 9 = .ok (.isub, 1) := by decide +kernel
theorem dX11_isPerson_10 : decode cX11_isPerson 10 = .ok (.invokestatic 189, 3) := by decide +kernel
theorem dX11_isPerson_13 : decode cX11_isPerson 13 = .ok (.ireturn, 1) := by decide +kernel
theorem dX11_isHome_0 : decode cX11_isHome 0 = .ok (.aload_n 0, 1) := by decide +kernel
theorem dX11_isHome_1 : decode cX11_isHome 1 = .ok (.getfield 33, 3) := by decide +kernel
theorem dX11_isHome_4 : decode cX11_isHome 4 = .ok (.sipush 133, 3) := by decide +kernel
theorem dX11_isHome_7 : decode cX11_isHome 7 = .ok (.iaload, 1) := by decide +kernel
theorem dX11_isHome_8 : decode cX11_isHome 8 = .ok (.iload_n 1, 1) := by decide +kernel
theorem dX11_isHome_9 : decode cX11_isHome 9 = .ok (.invokestatic 214, 3) := by decide +kernel
theorem dX11_isHome_12 : decode cX11_isHome 12 = .ok (.ireturn, 1) := by decide +kernel
theorem dX11_person_0 : decode cX11_person 0 = .ok (.aload_n 0, 1) := by decide +kernel
theorem dX11_person_1 : decode cX11_person 1 = .ok (.aload_n 0, 1) := by decide +kernel
theorem dX11_person_2 : decode cX11_person 2 = .ok (.iload_n 1, 1) := by decide +kernel
theorem dX11_person_3 : decode cX11_person 3 = .ok (.invokevirtual 272, 3) := by decide +kernel
theorem dX11_person_6 : decode cX11_person 6 = .ok (.ifCond .eq 13, 3) := by decide +kernel
theorem dX11_person_9 : decode cX11_person 9 = .ok (.iload_n 2, 1) := by decide +kernel
theorem dX11_person_10 : decode cX11_person 10 = .ok (.iconst 0, 1) := by decide +kernel
theorem dX11_person_11 : decode cX11_person 11 = .ok (.bipush 7, 2) := by decide +kernel
theorem dX11_person_13 : decode cX11_person 13 = .ok (.invokestatic 189, 3) := by decide +kernel
theorem dX11_person_16 : decode cX11_person 16 = .ok (.ifCond .ne 7, 3) := by decide +kernel
theorem dX11_person_19 : decode cX11_person 19 = .ok (.iconst 1, 1) := by decide +kernel
theorem dX11_person_20 : decode cX11_person 20 = .ok (.goto 4, 3) := by decide +kernel
theorem dX11_person_23 : decode cX11_person 23 = .ok (.iconst 0, 1) := by decide +kernel
theorem dX11_person_24 : decode cX11_person 24 = .ok (.invokevirtual 275, 3) := by decide +kernel
theorem dX11_person_27 : decode cX11_person 27 = .ok (.ifCond .eq 5, 3) := by decide +kernel
theorem dX11_person_30 : decode cX11_person 30 = .ok (.iconst 0, 1) := by decide +kernel
theorem dX11_person_31 : decode cX11_person 31 = .ok (.ireturn, 1) := by decide +kernel
theorem dX11_person_32 : decode cX11_person 32 = .ok (.iload_n 2, 1) := by decide +kernel
theorem dX11_person_33 : decode cX11_person 33 = .ok (.tableswitch 113 0 6 #[43, 54, 60, 70, 76, 89, 102], 43) := by decide +kernel
theorem dX11_person_76 : decode cX11_person 76 = .ok (.aload_n 0, 1) := by decide +kernel
theorem dX11_person_77 : decode cX11_person 77 = .ok (.getfield 33, 3) := by decide +kernel
theorem dX11_person_80 : decode cX11_person 80 = .ok (.sipush 136, 3) := by decide +kernel
theorem dX11_person_83 : decode cX11_person 83 = .ok (.iload_n 1, 1) := by decide +kernel
theorem dX11_person_84 : decode cX11_person 84 = .ok (.iadd, 1) := by decide +kernel
theorem dX11_person_85 : decode cX11_person 85 = .ok (.iaload, 1) := by decide +kernel
theorem dX11_person_86 : decode cX11_person 86 = .ok (.ireturn, 1) := by decide +kernel
theorem dX11_person_87 : decode cX11_person 87 = .ok (.aload_n 0, 1) := by decide +kernel
theorem dX11_person_88 : decode cX11_person 88 = .ok (.iload_n 1, 1) := by decide +kernel
theorem dX11_person_89 : decode cX11_person 89 = .ok (.invokevirtual 265, 3) := by decide +kernel
theorem dX11_person_92 : decode cX11_person 92 = .ok (.ireturn, 1) := by decide +kernel
theorem dX11_person_93 : decode cX11_person 93 = .ok (.aload_n 0, 1) := by decide +kernel
theorem dX11_person_94 : decode cX11_person 94 = .ok (.getfield 33, 3) := by decide +kernel
theorem dX11_person_97 : decode cX11_person 97 = .ok (.bipush 124, 2) := by decide +kernel
theorem dX11_person_99 : decode cX11_person 99 = .ok (.iload_n 1, 1) := by decide +kernel
theorem dX11_person_100 : decode cX11_person 100 = .ok (.iadd, 1) := by decide +kernel
theorem dX11_person_101 : decode cX11_person 101 = .ok (.iaload, 1) := by decide +kernel
theorem dX11_person_102 : decode cX11_person 102 = .ok (.ireturn, 1) := by decide +kernel
theorem dX11_person_103 : decode cX11_person 103 = .ok (.aload_n 0, 1) := by decide +kernel
theorem dX11_person_104 : decode cX11_person 104 = .ok (.iload_n 1, 1) := by decide +kernel
theorem dX11_person_105 : decode cX11_person 105 = .ok (.invokevirtual 278, 3) := by decide +kernel
theorem dX11_person_108 : decode cX11_person 108 = .ok (.ireturn, 1) := by decide +kernel
theorem dX11_person_109 : decode cX11_person 109 = .ok (.aload_n 0, 1) := by decide +kernel
theorem dX11_person_110 : decode cX11_person 110 = .ok (.getfield 33, 3) := by decide +kernel
theorem dX11_person_113 : decode cX11_person 113 = .ok (.sipush 133, 3) := by decide +kernel
theorem dX11_person_116 : decode cX11_person 116 = .ok (.iaload, 1) := by decide +kernel
theorem dX11_person_117 : decode cX11_person 117 = .ok (.iload_n 1, 1) := by decide +kernel
theorem dX11_person_118 : decode cX11_person 118 = .ok (.ishr, 1) := by decide +kernel
theorem dX11_person_119 : decode cX11_person 119 = .ok (.iconst 1, 1) := by decide +kernel
theorem dX11_person_120 : decode cX11_person 120 = .ok (.iand, 1) := by decide +kernel
theorem dX11_person_121 : decode cX11_person 121 = .ok (.ireturn, 1) := by decide +kernel
theorem dX11_person_122 : decode cX11_person 122 = .ok (.aload_n 0, 1) := by decide +kernel
theorem dX11_person_123 : decode cX11_person 123 = .ok (.getfield 33, 3) := by decide +kernel
theorem dX11_person_126 : decode cX11_person 126 = .ok (.sipush 134, 3) := by decide +kernel
theorem dX11_person_129 : decode cX11_person 129 = .ok (.iaload, 1) := by decide +kernel
theorem dX11_person_130 : decode cX11_person 130 = .ok (.iload_n 1, 1) := by decide +kernel
theorem dX11_person_131 : decode cX11_person 131 = .ok (.ishr, 1) := by decide +kernel
theorem dX11_person_132 : decode cX11_person 132 = .ok (.iconst 1, 1) := by decide +kernel
theorem dX11_person_133 : decode cX11_person 133 = .ok (.iand, 1) := by decide +kernel
theorem dX11_person_134 : decode cX11_person 134 = .ok (.ireturn, 1) := by decide +kernel
theorem dX11_person_135 : decode cX11_person 135 = .ok (.aload_n 0, 1) := by decide +kernel
theorem dX11_person_136 : decode cX11_person 136 = .ok (.getfield 33, 3) := by decide +kernel
theorem dX11_person_139 : decode cX11_person 139 = .ok (.sipush 213, 3) := by decide +kernel
theorem dX11_person_142 : decode cX11_person 142 = .ok (.iload_n 1, 1) := by decide +kernel
theorem dX11_person_143 : decode cX11_person 143 = .ok (.iadd, 1) := by decide +kernel
theorem dX11_person_144 : decode cX11_person 144 = .ok (.iaload, 1) := by decide +kernel
theorem dX11_person_145 : decode cX11_person 145 = .ok (.ireturn, 1) := by decide +kernel
theorem dX11_person_146 : decode cX11_person 146 = .ok (.aload_n 0, 1) := by decide +kernel
theorem dX11_person_147 : decode cX11_person 147 = .ok (.iload_n 1, 1) := by decide +kernel
theorem dX11_person_148 : decode cX11_person 148 = .ok (.invokevirtual 269, 3) := by decide +kernel
theorem dX11_person_151 : decode cX11_person 151 = .ok (.ireturn, 1) := by decide +kernel
theorem dX11_meets_0 : decode cX11_meets 0 = .ok (.aload_n 0, 1) := by decide +kernel
theorem dX11_meets_1 : decode cX11_meets 1 = .ok (.getfield 33, 3) := by decide +kernel
theorem dX11_meets_4 : decode cX11_meets 4 = .ok (.sipush 220, 3) := by decide +kernel
theorem dX11_meets_7 : decode cX11_meets 7 = .ok (.iload_n 1, 1) := by decide +kernel
theorem dX11_meets_8 : decode cX11_meets 8 = .ok (.iadd, 1) := by decide +kernel
theorem dX11_meets_9 : decode cX11_meets 9 = .ok (.dup2, 1) := by decide +kernel
theorem dX11_meets_10 : decode cX11_meets 10 = .ok (.iaload, 1) := by decide +kernel
theorem dX11_meets_11 : decode cX11_meets 11 = .ok (.iconst 1, 1) := by decide +kernel
theorem dX11_meets_12 : decode cX11_meets 12 = .ok (.iload_n 2, 1) := by decide +kernel
theorem dX11_meets_13 : decode cX11_meets 13 = .ok (.ishl, 1) := by decide +kernel
theorem dX11_meets_14 : decode cX11_meets 14 = .ok (.ior, 1) := by decide +kernel
theorem dX11_meets_15 : decode cX11_meets 15 = .ok (.iastore, 1) := by decide +kernel
theorem dX11_meets_16 : decode cX11_meets 16 = .ok (.aload_n 0, 1) := by decide +kernel
theorem dX11_meets_17 : decode cX11_meets 17 = .ok (.getfield 33, 3) := by decide +kernel
theorem dX11_meets_20 : decode cX11_meets 20 = .ok (.sipush 220, 3) := by decide +kernel
theorem dX11_meets_23 : decode cX11_meets 23 = .ok (.iload_n 2, 1) := by decide +kernel
theorem dX11_meets_24 : decode cX11_meets 24 = .ok (.iadd, 1) := by decide +kernel
theorem dX11_meets_25 : decode cX11_meets 25 = .ok (.dup2, 1) := by decide +kernel
theorem dX11_meets_26 : decode cX11_meets 26 = .ok (.iaload, 1) := by decide +kernel
theorem dX11_meets_27 : decode cX11_meets 27 = .ok (.iconst 1, 1) := by decide +kernel
theorem dX11_meets_28 : decode cX11_meets 28 = .ok (.iload_n 1, 1) := by decide +kernel
theorem dX11_meets_29 : decode cX11_meets 29 = .ok (.ishl, 1) := by decide +kernel
theorem dX11_meets_30 : decode cX11_meets 30 = .ok (.ior, 1) := by decide +kernel
theorem dX11_meets_31 : decode cX11_meets 31 = .ok (.iastore, 1) := by decide +kernel
theorem dX11_meets_32 : decode cX11_meets 32 = .ok (.return_, 1) := by decide +kernel
theorem dX11_nods_0 : decode cX11_nods 0 = .ok (.aload_n 0, 1) := by decide +kernel
theorem dX11_nods_1 : decode cX11_nods 1 = .ok (.iload_n 1, 1) := by decide +kernel
theorem dX11_nods_2 : decode cX11_nods 2 = .ok (.iload_n 2, 1) := by decide +kernel
theorem dX11_nods_3 : decode cX11_nods 3 = .ok (.invokevirtual 296, 3) := by decide +kernel
theorem dX11_nods_6 : decode cX11_nods 6 = .ok (.aload_n 0, 1) := by decide +kernel
theorem dX11_nods_7 : decode cX11_nods 7 = .ok (.getfield 33, 3) := by decide +kernel
theorem dX11_nods_10 : decode cX11_nods 10 = .ok (.sipush 133, 3) := by decide +kernel
theorem dX11_nods_13 : decode cX11_nods 13 = .ok (.dup2, 1) := by decide +kernel
theorem dX11_nods_14 : decode cX11_nods 14 = .ok (.iaload, 1) := by decide +kernel
theorem dX11_nods_15 : decode cX11_nods 15 = .ok (.iconst 1, 1) := by decide +kernel
theorem dX11_nods_16 : decode cX11_nods 16 = .ok (.iload_n 1, 1) := by decide +kernel
theorem dX11_nods_17 : decode cX11_nods 17 = .ok (.ishl, 1) := by decide +kernel
theorem dX11_nods_18 : decode cX11_nods 18 = .ok (.ior, 1) := by decide +kernel
theorem dX11_nods_19 : decode cX11_nods 19 = .ok (.iastore, 1) := by decide +kernel
theorem dX11_nods_20 : decode cX11_nods 20 = .ok (.return_, 1) := by decide +kernel
theorem dX11_morning_0 : decode cX11_morning 0 = .ok (.iconst 0, 1) := by decide +kernel
theorem dX11_morning_1 : decode cX11_morning 1 = .ok (.istore_n 1, 1) := by decide +kernel
theorem dX11_morning_2 : decode cX11_morning 2 = .ok (.iload_n 1, 1) := by decide +kernel
theorem dX11_morning_3 : decode cX11_morning 3 = .ok (.bipush 35, 2) := by decide +kernel
theorem dX11_morning_5 : decode cX11_morning 5 = .ok (.if_icmp .ge 47, 3) := by decide +kernel
theorem dX11_morning_8 : decode cX11_morning 8 = .ok (.aload_n 0, 1) := by decide +kernel
theorem dX11_morning_9 : decode cX11_morning 9 = .ok (.getfield 33, 3) := by decide +kernel
theorem dX11_morning_12 : decode cX11_morning 12 = .ok (.sipush 143, 3) := by decide +kernel
theorem dX11_morning_15 : decode cX11_morning 15 = .ok (.iload_n 1, 1) := by decide +kernel
theorem dX11_morning_16 : decode cX11_morning 16 = .ok (.iadd, 1) := by decide +kernel
theorem dX11_morning_17 : decode cX11_morning 17 = .ok (.aload_n 0, 1) := by decide +kernel
theorem dX11_morning_18 : decode cX11_morning 18 = .ok (.getfield 33, 3) := by decide +kernel
theorem dX11_morning_21 : decode cX11_morning 21 = .ok (.bipush 12, 2) := by decide +kernel
theorem dX11_morning_23 : decode cX11_morning 23 = .ok (.iload_n 1, 1) := by decide +kernel
theorem dX11_morning_24 : decode cX11_morning 24 = .ok (.iadd, 1) := by decide +kernel
theorem dX11_morning_25 : decode cX11_morning 25 = .ok (.iaload, 1) := by decide +kernel
theorem dX11_morning_26 : decode cX11_morning 26 = .ok (.iastore, 1) := by decide +kernel
theorem dX11_morning_27 : decode cX11_morning 27 = .ok (.aload_n 0, 1) := by decide +kernel
theorem dX11_morning_28 : decode cX11_morning 28 = .ok (.getfield 33, 3) := by decide +kernel
theorem dX11_morning_31 : decode cX11_morning 31 = .ok (.sipush 178, 3) := by decide +kernel
theorem dX11_morning_34 : decode cX11_morning 34 = .ok (.iload_n 1, 1) := by decide +kernel
theorem dX11_morning_35 : decode cX11_morning 35 = .ok (.iadd, 1) := by decide +kernel
theorem dX11_morning_36 : decode cX11_morning 36 = .ok (.aload_n 0, 1) := by decide +kernel
theorem dX11_morning_37 : decode cX11_morning 37 = .ok (.getfield 33, 3) := by decide +kernel
theorem dX11_morning_40 : decode cX11_morning 40 = .ok (.bipush 82, 2) := by decide +kernel
theorem dX11_morning_42 : decode cX11_morning 42 = .ok (.iload_n 1, 1) := by decide +kernel
theorem dX11_morning_43 : decode cX11_morning 43 = .ok (.iadd, 1) := by decide +kernel
theorem dX11_morning_44 : decode cX11_morning 44 = .ok (.iaload, 1) := by decide +kernel
theorem dX11_morning_45 : decode cX11_morning 45 = .ok (.iastore, 1) := by decide +kernel
theorem dX11_morning_46 : decode cX11_morning 46 = .ok (.iinc 1 1, 3) := by decide +kernel
theorem dX11_morning_49 : decode cX11_morning 49 = .ok (.goto (-47), 3) := by decide +kernel
theorem dX11_morning_52 : decode cX11_morning 52 = .ok (.aload_n 0, 1) := by decide +kernel
theorem dX11_morning_53 : decode cX11_morning 53 = .ok (.getfield 33, 3) := by decide +kernel
theorem dX11_morning_56 : decode cX11_morning 56 = .ok (.sipush 133, 3) := by decide +kernel
theorem dX11_morning_59 : decode cX11_morning 59 = .ok (.iconst 0, 1) := by decide +kernel
theorem dX11_morning_60 : decode cX11_morning 60 = .ok (.iastore, 1) := by decide +kernel
theorem dX11_morning_61 : decode cX11_morning 61 = .ok (.aload_n 0, 1) := by decide +kernel
theorem dX11_morning_62 : decode cX11_morning 62 = .ok (.getfield 33, 3) := by decide +kernel
theorem dX11_morning_65 : decode cX11_morning 65 = .ok (.sipush 134, 3) := by decide +kernel
theorem dX11_morning_68 : decode cX11_morning 68 = .ok (.iconst 0, 1) := by decide +kernel
theorem dX11_morning_69 : decode cX11_morning 69 = .ok (.iastore, 1) := by decide +kernel
theorem dX11_morning_70 : decode cX11_morning 70 = .ok (.aload_n 0, 1) := by decide +kernel
theorem dX11_morning_71 : decode cX11_morning 71 = .ok (.getfield 33, 3) := by decide +kernel
theorem dX11_morning_74 : decode cX11_morning 74 = .ok (.sipush 135, 3) := by decide +kernel
theorem dX11_morning_77 : decode cX11_morning 77 = .ok (.aload_n 0, 1) := by decide +kernel
theorem dX11_morning_78 : decode cX11_morning 78 = .ok (.getfield 33, 3) := by decide +kernel
theorem dX11_morning_81 : decode cX11_morning 81 = .ok (.iconst 3, 1) := by decide +kernel
theorem dX11_morning_82 : decode cX11_morning 82 = .ok (.iaload, 1) := by decide +kernel
theorem dX11_morning_83 : decode cX11_morning 83 = .ok (.iastore, 1) := by decide +kernel
theorem dX11_morning_84 : decode cX11_morning 84 = .ok (.return_, 1) := by decide +kernel
theorem dX11_nod_0 : decode cX11_nod 0 = .ok (.aload_n 0, 1) := by decide +kernel
theorem dX11_nod_1 : decode cX11_nod 1 = .ok (.iconst 0, 1) := by decide +kernel
theorem dX11_nod_2 : decode cX11_nod 2 = .ok (.putfield 1, 3) := by decide +kernel
theorem dX11_nod_5 : decode cX11_nod 5 = .ok (.aload_n 0, 1) := by decide +kernel
theorem dX11_nod_6 : decode cX11_nod 6 = .ok (.iload_n 1, 1) := by decide +kernel
theorem dX11_nod_7 : decode cX11_nod 7 = .ok (.invokevirtual 272, 3) := by decide +kernel
theorem dX11_nod_10 : decode cX11_nod 10 = .ok (.ifCond .eq 11, 3) := by decide +kernel
theorem dX11_nod_13 : decode cX11_nod 13 = .ok (.aload_n 0, 1) := by decide +kernel
theorem dX11_nod_14 : decode cX11_nod 14 = .ok (.iload_n 2, 1) := by decide +kernel
theorem dX11_nod_15 : decode cX11_nod 15 = .ok (.invokevirtual 272, 3) := by decide +kernel
theorem dX11_nod_18 : decode cX11_nod 18 = .ok (.ifCond .ne 5, 3) := by decide +kernel
theorem dX11_nod_21 : decode cX11_nod 21 = .ok (.iconst (-1), 1) := by decide +kernel
theorem dX11_nod_22 : decode cX11_nod 22 = .ok (.ireturn, 1) := by decide +kernel
theorem dX11_nod_23 : decode cX11_nod 23 = .ok (.aload_n 0, 1) := by decide +kernel
theorem dX11_nod_24 : decode cX11_nod 24 = .ok (.iload_n 1, 1) := by decide +kernel
theorem dX11_nod_25 : decode cX11_nod 25 = .ok (.iload_n 2, 1) := by decide +kernel
theorem dX11_nod_26 : decode cX11_nod 26 = .ok (.invokevirtual 317, 3) := by decide +kernel
theorem dX11_nod_29 : decode cX11_nod 29 = .ok (.istore_n 3, 1) := by decide +kernel
theorem dX11_nod_30 : decode cX11_nod 30 = .ok (.iload_n 3, 1) := by decide +kernel
theorem dX11_nod_31 : decode cX11_nod 31 = .ok (.ifCond .le 5, 3) := by decide +kernel
theorem dX11_nod_34 : decode cX11_nod 34 = .ok (.iload_n 3, 1) := by decide +kernel
theorem dX11_nod_35 : decode cX11_nod 35 = .ok (.ireturn, 1) := by decide +kernel
theorem dX11_nod_36 : decode cX11_nod 36 = .ok (.aload_n 0, 1) := by decide +kernel
theorem dX11_nod_37 : decode cX11_nod 37 = .ok (.invokevirtual 310, 3) := by decide +kernel
theorem dX11_nod_40 : decode cX11_nod 40 = .ok (.aload_n 0, 1) := by decide +kernel
theorem dX11_nod_41 : decode cX11_nod 41 = .ok (.iload_n 1, 1) := by decide +kernel
theorem dX11_nod_42 : decode cX11_nod 42 = .ok (.iload_n 2, 1) := by decide +kernel
theorem dX11_nod_43 : decode cX11_nod 43 = .ok (.invokevirtual 320, 3) := by decide +kernel
theorem dX11_nod_46 : decode cX11_nod 46 = .ok (.iconst 0, 1) := by decide +kernel
theorem dX11_nod_47 : decode cX11_nod 47 = .ok (.ireturn, 1) := by decide +kernel
theorem dX11_keep_0 : decode cX11_keep 0 = .ok (.aload_n 0, 1) := by decide +kernel
theorem dX11_keep_1 : decode cX11_keep 1 = .ok (.getfield 262, 3) := by decide +kernel
theorem dX11_keep_4 : decode cX11_keep 4 = .ok (.bipush 8, 2) := by decide +kernel
theorem dX11_keep_6 : decode cX11_keep 6 = .ok (.if_icmp .ne 40, 3) := by decide +kernel
theorem dX11_keep_9 : decode cX11_keep 9 = .ok (.iconst 0, 1) := by decide +kernel
theorem dX11_keep_10 : decode cX11_keep 10 = .ok (.istore_n 1, 1) := by decide +kernel
theorem dX11_keep_11 : decode cX11_keep 11 = .ok (.iload_n 1, 1) := by decide +kernel
theorem dX11_keep_12 : decode cX11_keep 12 = .ok (.sipush 1015, 3) := by decide +kernel
theorem dX11_keep_15 : decode cX11_keep 15 = .ok (.if_icmp .ge 25, 3) := by decide +kernel
theorem dX11_keep_18 : decode cX11_keep 18 = .ok (.aload_n 0, 1) := by decide +kernel
theorem dX11_keep_19 : decode cX11_keep 19 = .ok (.getfield 50, 3) := by decide +kernel
theorem dX11_keep_22 : decode cX11_keep 22 = .ok (.iload_n 1, 1) := by decide +kernel
theorem dX11_keep_23 : decode cX11_keep 23 = .ok (.aload_n 0, 1) := by decide +kernel
theorem dX11_keep_24 : decode cX11_keep 24 = .ok (.getfield 50, 3) := by decide +kernel
theorem dX11_keep_27 : decode cX11_keep 27 = .ok (.iload_n 1, 1) := by decide +kernel
theorem dX11_keep_28 : decode cX11_keep 28 = .ok (.sipush 145, 3) := by decide +kernel
theorem dX11_keep_31 : decode cX11_keep 31 = .ok (.iadd, 1) := by decide +kernel
theorem dX11_keep_32 : decode cX11_keep 32 = .ok (.iaload, 1) := by decide +kernel
theorem dX11_keep_33 : decode cX11_keep 33 = .ok (.iastore, 1) := by decide +kernel
theorem dX11_keep_34 : decode cX11_keep 34 = .ok (.iinc 1 1, 3) := by decide +kernel
theorem dX11_keep_37 : decode cX11_keep 37 = .ok (.goto (-26), 3) := by decide +kernel
theorem dX11_keep_40 : decode cX11_keep 40 = .ok (.aload_n 0, 1) := by decide +kernel
theorem dX11_keep_41 : decode cX11_keep 41 = .ok (.bipush 7, 2) := by decide +kernel
theorem dX11_keep_43 : decode cX11_keep 43 = .ok (.putfield 262, 3) := by decide +kernel
theorem dX11_keep_46 : decode cX11_keep 46 = .ok (.iconst 0, 1) := by decide +kernel
theorem dX11_keep_47 : decode cX11_keep 47 = .ok (.istore_n 1, 1) := by decide +kernel
theorem dX11_keep_48 : decode cX11_keep 48 = .ok (.iload_n 1, 1) := by decide +kernel
theorem dX11_keep_49 : decode cX11_keep 49 = .ok (.sipush 145, 3) := by decide +kernel
theorem dX11_keep_52 : decode cX11_keep 52 = .ok (.if_icmp .ge 34, 3) := by decide +kernel
theorem dX11_keep_55 : decode cX11_keep 55 = .ok (.aload_n 0, 1) := by decide +kernel
theorem dX11_keep_56 : decode cX11_keep 56 = .ok (.getfield 50, 3) := by decide +kernel
theorem dX11_keep_59 : decode cX11_keep 59 = .ok (.sipush 145, 3) := by decide +kernel
theorem dX11_keep_62 : decode cX11_keep 62 = .ok (.aload_n 0, 1) := by decide +kernel
theorem dX11_keep_63 : decode cX11_keep 63 = .ok (.getfield 262, 3) := by decide +kernel
theorem dX11_keep_66 : decode cX11_keep 66 = .ok (.imul, 1) := by decide +kernel
theorem dX11_keep_67 : decode cX11_keep 67 = .ok (.iload_n 1, 1) := by decide +kernel
theorem dX11_keep_68 : decode cX11_keep 68 = .ok (.iadd, 1) := by decide +kernel
theorem dX11_keep_69 : decode cX11_keep 69 = .ok (.aload_n 0, 1) := by decide +kernel
theorem dX11_keep_70 : decode cX11_keep 70 = .ok (.getfield 33, 3) := by decide +kernel
theorem dX11_keep_73 : decode cX11_keep 73 = .ok (.sipush 131, 3) := by decide +kernel
theorem dX11_keep_76 : decode cX11_keep 76 = .ok (.iload_n 1, 1) := by decide +kernel
theorem dX11_keep_77 : decode cX11_keep 77 = .ok (.iadd, 1) := by decide +kernel
theorem dX11_keep_78 : decode cX11_keep 78 = .ok (.iaload, 1) := by decide +kernel
theorem dX11_keep_79 : decode cX11_keep 79 = .ok (.iastore, 1) := by decide +kernel
theorem dX11_keep_80 : decode cX11_keep 80 = .ok (.iinc 1 1, 3) := by decide +kernel
theorem dX11_keep_83 : decode cX11_keep 83 = .ok (.goto (-35), 3) := by decide +kernel
theorem dX11_keep_86 : decode cX11_keep 86 = .ok (.aload_n 0, 1) := by decide +kernel
theorem dX11_keep_87 : decode cX11_keep 87 = .ok (.dup, 1) := by decide +kernel
theorem dX11_keep_88 : decode cX11_keep 88 = .ok (.getfield 262, 3) := by decide +kernel
theorem dX11_keep_91 : decode cX11_keep 91 = .ok (.iconst 1, 1) := by decide +kernel
theorem dX11_keep_92 : decode cX11_keep 92 = .ok (.iadd, 1) := by decide +kernel
theorem dX11_keep_93 : decode cX11_keep 93 = .ok (.putfield 262, 3) := by decide +kernel
theorem dX11_keep_96 : decode cX11_keep 96 = .ok (.return_, 1) := by decide +kernel
theorem dX11_finds_0 : decode cX11_finds 0 = .ok (.iconst 0, 1) := by decide +kernel
theorem dX11_finds_1 : decode cX11_finds 1 = .ok (.istore_n 1, 1) := by decide +kernel
theorem dX11_finds_2 : decode cX11_finds 2 = .ok (.iload_n 1, 1) := by decide +kernel
theorem dX11_finds_3 : decode cX11_finds 3 = .ok (.bipush 16, 2) := by decide +kernel
theorem dX11_finds_5 : decode cX11_finds 5 = .ok (.if_icmp .ge 16, 3) := by decide +kernel
theorem dX11_finds_8 : decode cX11_finds 8 = .ok (.aload_n 0, 1) := by decide +kernel
theorem dX11_finds_9 : decode cX11_finds 9 = .ok (.getfield 59, 3) := by decide +kernel
theorem dX11_finds_12 : decode cX11_finds 12 = .ok (.iload_n 1, 1) := by decide +kernel
theorem dX11_finds_13 : decode cX11_finds 13 = .ok (.iconst (-1), 1) := by decide +kernel
theorem dX11_finds_14 : decode cX11_finds 14 = .ok (.iastore, 1) := by decide +kernel
theorem dX11_finds_15 : decode cX11_finds 15 = .ok (.iinc 1 1, 3) := by decide +kernel
theorem dX11_finds_18 : decode cX11_finds 18 = .ok (.goto (-16), 3) := by decide +kernel
theorem dX11_finds_21 : decode cX11_finds 21 = .ok (.aload_n 0, 1) := by decide +kernel
theorem dX11_finds_22 : decode cX11_finds 22 = .ok (.getfield 59, 3) := by decide +kernel
theorem dX11_finds_25 : decode cX11_finds 25 = .ok (.bipush 14, 2) := by decide +kernel
theorem dX11_finds_27 : decode cX11_finds 27 = .ok (.bipush 14, 2) := by decide +kernel
theorem dX11_finds_29 : decode cX11_finds 29 = .ok (.iastore, 1) := by decide +kernel
theorem dX11_finds_30 : decode cX11_finds 30 = .ok (.aload_n 0, 1) := by decide +kernel
theorem dX11_finds_31 : decode cX11_finds 31 = .ok (.getfield 62, 3) := by decide +kernel
theorem dX11_finds_34 : decode cX11_finds 34 = .ok (.iconst 0, 1) := by decide +kernel
theorem dX11_finds_35 : decode cX11_finds 35 = .ok (.bipush 14, 2) := by decide +kernel
theorem dX11_finds_37 : decode cX11_finds 37 = .ok (.iastore, 1) := by decide +kernel
theorem dX11_finds_38 : decode cX11_finds 38 = .ok (.iconst 1, 1) := by decide +kernel
theorem dX11_finds_39 : decode cX11_finds 39 = .ok (.istore_n 1, 1) := by decide +kernel
theorem dX11_finds_40 : decode cX11_finds 40 = .ok (.iconst 0, 1) := by decide +kernel
theorem dX11_finds_41 : decode cX11_finds 41 = .ok (.istore_n 2, 1) := by decide +kernel
theorem dX11_finds_42 : decode cX11_finds 42 = .ok (.iload_n 2, 1) := by decide +kernel
theorem dX11_finds_43 : decode cX11_finds 43 = .ok (.iload_n 1, 1) := by decide +kernel
theorem dX11_finds_44 : decode cX11_finds 44 = .ok (.if_icmp .ge 76, 3) := by decide +kernel
theorem dX11_finds_47 : decode cX11_finds 47 = .ok (.iconst 0, 1) := by decide +kernel
theorem dX11_finds_48 : decode cX11_finds 48 = .ok (.istore_n 3, 1) := by decide +kernel
theorem dX11_finds_49 : decode cX11_finds 49 = .ok (.iload_n 3, 1) := by decide +kernel
theorem dX11_finds_50 : decode cX11_finds 50 = .ok (.bipush 16, 2) := by decide +kernel
theorem dX11_finds_52 : decode cX11_finds 52 = .ok (.if_icmp .ge 62, 3) := by decide +kernel
theorem dX11_finds_55 : decode cX11_finds 55 = .ok (.aload_n 0, 1) := by decide +kernel
theorem dX11_finds_56 : decode cX11_finds 56 = .ok (.getfield 59, 3) := by decide +kernel
theorem dX11_finds_59 : decode cX11_finds 59 = .ok (.iload_n 3, 1) := by decide +kernel
theorem dX11_finds_60 : decode cX11_finds 60 = .ok (.iaload, 1) := by decide +kernel
theorem dX11_finds_61 : decode cX11_finds 61 = .ok (.ifCond .ge 47, 3) := by decide +kernel
theorem dX11_finds_64 : decode cX11_finds 64 = .ok (.aload_n 0, 1) := by decide +kernel
theorem dX11_finds_65 : decode cX11_finds 65 = .ok (.getfield 56, 3) := by decide +kernel
theorem dX11_finds_68 : decode cX11_finds 68 = .ok (.bipush 16, 2) := by decide +kernel
theorem dX11_finds_70 : decode cX11_finds 70 = .ok (.aload_n 0, 1) := by decide +kernel
theorem dX11_finds_71 : decode cX11_finds 71 = .ok (.getfield 62, 3) := by decide +kernel
theorem dX11_finds_74 : decode cX11_finds 74 = .ok (.iload_n 2, 1) := by decide +kernel
theorem dX11_finds_75 : decode cX11_finds 75 = .ok (.iaload, 1) := by decide +kernel
theorem dX11_finds_76 : decode cX11_finds 76 = .ok (.imul, 1) := by decide +kernel
theorem dX11_finds_77 : decode cX11_finds 77 = .ok (.iload_n 3, 1) := by decide +kernel
theorem dX11_finds_78 : decode cX11_finds 78 = .ok (.iadd, 1) := by decide +kernel
theorem dX11_finds_79 : decode cX11_finds 79 = .ok (.iaload, 1) := by decide +kernel
theorem dX11_finds_80 : decode cX11_finds 80 = .ok (.ifCond .ne 6, 3) := by decide +kernel
theorem dX11_finds_83 : decode cX11_finds 83 = .ok (.goto 25, 3) := by decide +kernel
theorem dX11_finds_86 : decode cX11_finds 86 = .ok (.aload_n 0, 1) := by decide +kernel
theorem dX11_finds_87 : decode cX11_finds 87 = .ok (.getfield 59, 3) := by decide +kernel
theorem dX11_finds_90 : decode cX11_finds 90 = .ok (.iload_n 3, 1) := by decide +kernel
theorem dX11_finds_91 : decode cX11_finds 91 = .ok (.aload_n 0, 1) := by decide +kernel
theorem dX11_finds_92 : decode cX11_finds 92 = .ok (.getfield 62, 3) := by decide +kernel
theorem dX11_finds_95 : decode cX11_finds 95 = .ok (.iload_n 2, 1) := by decide +kernel
theorem dX11_finds_96 : decode cX11_finds 96 = .ok (.iaload, 1) := by decide +kernel
theorem dX11_finds_97 : decode cX11_finds 97 = .ok (.iastore, 1) := by decide +kernel
theorem dX11_finds_98 : decode cX11_finds 98 = .ok (.aload_n 0, 1) := by decide +kernel
theorem dX11_finds_99 : decode cX11_finds 99 = .ok (.getfield 62, 3) := by decide +kernel
theorem dX11_finds_102 : decode cX11_finds 102 = .ok (.iload_n 1, 1) := by decide +kernel
theorem dX11_finds_103 : decode cX11_finds 103 = .ok (.iload_n 3, 1) := by decide +kernel
theorem dX11_finds_104 : decode cX11_finds 104 = .ok (.iastore, 1) := by decide +kernel
theorem dX11_finds_105 : decode cX11_finds 105 = .ok (.iinc 1 1, 3) := by decide +kernel
theorem dX11_finds_108 : decode cX11_finds 108 = .ok (.iinc 3 1, 3) := by decide +kernel
theorem dX11_finds_111 : decode cX11_finds 111 = .ok (.goto (-62), 3) := by decide +kernel
theorem dX11_finds_114 : decode cX11_finds 114 = .ok (.iinc 2 1, 3) := by decide +kernel
theorem dX11_finds_117 : decode cX11_finds 117 = .ok (.goto (-75), 3) := by decide +kernel
theorem dX11_finds_120 : decode cX11_finds 120 = .ok (.aload_n 0, 1) := by decide +kernel
theorem dX11_finds_121 : decode cX11_finds 121 = .ok (.getfield 59, 3) := by decide +kernel
theorem dX11_finds_124 : decode cX11_finds 124 = .ok (.bipush 15, 2) := by decide +kernel
theorem dX11_finds_126 : decode cX11_finds 126 = .ok (.iaload, 1) := by decide +kernel
theorem dX11_finds_127 : decode cX11_finds 127 = .ok (.ifCond .lt 7, 3) := by decide +kernel
theorem dX11_finds_130 : decode cX11_finds 130 = .ok (.iconst 1, 1) := by decide +kernel
theorem dX11_finds_131 : decode cX11_finds 131 = .ok (.goto 4, 3) := by decide +kernel
theorem dX11_finds_134 : decode cX11_finds 134 = .ok (.iconst 0, 1) := by decide +kernel
theorem dX11_finds_135 : decode cX11_finds 135 = .ok (.ireturn, 1) := by decide +kernel
theorem dX11_who_0 : decode cX11_who 0 = .ok (.aload_n 0, 1) := by decide +kernel
theorem dX11_who_1 : decode cX11_who 1 = .ok (.iconst 0, 1) := by decide +kernel
theorem dX11_who_2 : decode cX11_who 2 = .ok (.putfield 1, 3) := by decide +kernel
theorem dX11_who_5 : decode cX11_who 5 = .ok (.aload_n 0, 1) := by decide +kernel
theorem dX11_who_6 : decode cX11_who 6 = .ok (.sipush 940, 3) := by decide +kernel
theorem dX11_who_9 : decode cX11_who 9 = .ok (.invokevirtual 247, 3) := by decide +kernel
theorem dX11_who_12 : decode cX11_who 12 = .ok (.aload_n 0, 1) := by decide +kernel
theorem dX11_who_13 : decode cX11_who 13 = .ok (.getfield 18, 3) := by decide +kernel
theorem dX11_who_16 : decode cX11_who 16 = .ok (.iconst 2, 1) := by decide +kernel
theorem dX11_who_17 : decode cX11_who 17 = .ok (.bipush 16, 2) := by decide +kernel
theorem dX11_who_19 : decode cX11_who 19 = .ok (.invokestatic 189, 3) := by decide +kernel
theorem dX11_who_22 : decode cX11_who 22 = .ok (.ifCond .eq 13, 3) := by decide +kernel
theorem dX11_who_25 : decode cX11_who 25 = .ok (.aload_n 0, 1) := by decide +kernel
theorem dX11_who_26 : decode cX11_who 26 = .ok (.getfield 18, 3) := by decide +kernel
theorem dX11_who_29 : decode cX11_who 29 = .ok (.iconst 2, 1) := by decide +kernel
theorem dX11_who_30 : decode cX11_who 30 = .ok (.irem, 1) := by decide +kernel
theorem dX11_who_31 : decode cX11_who 31 = .ok (.iconst 1, 1) := by decide +kernel
theorem dX11_who_32 : decode cX11_who 32 = .ok (.if_icmp .ne 5, 3) := by decide +kernel
theorem dX11_who_35 : decode cX11_who 35 = .ok (.iconst (-1), 1) := by decide +kernel
theorem dX11_who_36 : decode cX11_who 36 = .ok (.ireturn, 1) := by decide +kernel
theorem dX11_who_37 : decode cX11_who 37 = .ok (.iconst 0, 1) := by decide +kernel
theorem dX11_who_38 : decode cX11_who 38 = .ok (.istore_n 1, 1) := by decide +kernel
theorem dX11_who_39 : decode cX11_who 39 = .ok (.iload_n 1, 1) := by decide +kernel
theorem dX11_who_40 : decode cX11_who 40 = .ok (.aload_n 0, 1) := by decide +kernel
theorem dX11_who_41 : decode cX11_who 41 = .ok (.getfield 18, 3) := by decide +kernel
theorem dX11_who_44 : decode cX11_who 44 = .ok (.if_icmp .ge 34, 3) := by decide +kernel
theorem dX11_who_47 : decode cX11_who 47 = .ok (.aload_n 0, 1) := by decide +kernel
theorem dX11_who_48 : decode cX11_who 48 = .ok (.aload_n 0, 1) := by decide +kernel
theorem dX11_who_49 : decode cX11_who 49 = .ok (.iload_n 1, 1) := by decide +kernel
theorem dX11_who_50 : decode cX11_who 50 = .ok (.invokevirtual 345, 3) := by decide +kernel
theorem dX11_who_53 : decode cX11_who 53 = .ok (.invokevirtual 272, 3) := by decide +kernel
theorem dX11_who_56 : decode cX11_who 56 = .ok (.ifCond .eq 14, 3) := by decide +kernel
theorem dX11_who_59 : decode cX11_who 59 = .ok (.aload_n 0, 1) := by decide +kernel
theorem dX11_who_60 : decode cX11_who 60 = .ok (.iload_n 1, 1) := by decide +kernel
theorem dX11_who_61 : decode cX11_who 61 = .ok (.iconst 1, 1) := by decide +kernel
theorem dX11_who_62 : decode cX11_who 62 = .ok (.iadd, 1) := by decide +kernel
theorem dX11_who_63 : decode cX11_who 63 = .ok (.invokevirtual 345, 3) := by decide +kernel
theorem dX11_who_66 : decode cX11_who 66 = .ok (.iconst 1, 1) := by decide +kernel
theorem dX11_who_67 : decode cX11_who 67 = .ok (.if_icmp .le 5, 3) := by decide +kernel
theorem dX11_who_70 : decode cX11_who 70 = .ok (.iconst (-1), 1) := by decide +kernel
theorem dX11_who_71 : decode cX11_who 71 = .ok (.ireturn, 1) := by decide +kernel
theorem dX11_who_72 : decode cX11_who 72 = .ok (.iinc 1 2, 3) := by decide +kernel
theorem dX11_who_75 : decode cX11_who 75 = .ok (.goto (-36), 3) := by decide +kernel
theorem dX11_who_78 : decode cX11_who 78 = .ok (.iconst 0, 1) := by decide +kernel
theorem dX11_who_79 : decode cX11_who 79 = .ok (.istore_n 1, 1) := by decide +kernel
theorem dX11_who_80 : decode cX11_who 80 = .ok (.iconst 0, 1) := by decide +kernel
theorem dX11_who_81 : decode cX11_who 81 = .ok (.istore_n 2, 1) := by decide +kernel
theorem dX11_who_82 : decode cX11_who 82 = .ok (.iload_n 2, 1) := by decide +kernel
theorem dX11_who_83 : decode cX11_who 83 = .ok (.aload_n 0, 1) := by decide +kernel
theorem dX11_who_84 : decode cX11_who 84 = .ok (.getfield 33, 3) := by decide +kernel
theorem dX11_who_87 : decode cX11_who 87 = .ok (.iconst 0, 1) := by decide +kernel
theorem dX11_who_88 : decode cX11_who 88 = .ok (.iaload, 1) := by decide +kernel
theorem dX11_who_89 : decode cX11_who 89 = .ok (.if_icmp .ge 27, 3) := by decide +kernel
theorem dX11_who_92 : decode cX11_who 92 = .ok (.iload_n 1, 1) := by decide +kernel
theorem dX11_who_93 : decode cX11_who 93 = .ok (.aload_n 0, 1) := by decide +kernel
theorem dX11_who_94 : decode cX11_who 94 = .ok (.iload_n 2, 1) := by decide +kernel
theorem dX11_who_95 : decode cX11_who 95 = .ok (.invokevirtual 348, 3) := by decide +kernel
theorem dX11_who_98 : decode cX11_who 98 = .ok (.ifCond .eq 9, 3) := by decide +kernel
theorem dX11_who_101 : decode cX11_who 101 = .ok (.iconst 1, 1) := by decide +kernel
theorem dX11_who_102 : decode cX11_who 102 = .ok (.iload_n 2, 1) := by decide +kernel
theorem dX11_who_103 : decode cX11_who 103 = .ok (.ishl, 1) := by decide +kernel
theorem dX11_who_104 : decode cX11_who 104 = .ok (.goto 4, 3) := by decide +kernel
theorem dX11_who_107 : decode cX11_who 107 = .ok (.iconst 0, 1) := by decide +kernel
theorem dX11_who_108 : decode cX11_who 108 = .ok (.ior, 1) := by decide +kernel
theorem dX11_who_109 : decode cX11_who 109 = .ok (.istore_n 1, 1) := by decide +kernel
theorem dX11_who_110 : decode cX11_who 110 = .ok (.iinc 2 1, 3) := by decide +kernel
theorem dX11_who_113 : decode cX11_who 113 = .ok (.goto (-31), 3) := by decide +kernel
theorem dX11_who_116 : decode cX11_who 116 = .ok (.iload_n 1, 1) := by decide +kernel
theorem dX11_who_117 : decode cX11_who 117 = .ok (.ifCond .ne 5, 3) := by decide +kernel
theorem dX11_who_120 : decode cX11_who 120 = .ok (.iconst 0, 1) := by decide +kernel
theorem dX11_who_121 : decode cX11_who 121 = .ok (.ireturn, 1) := by decide +kernel
theorem dX11_who_122 : decode cX11_who 122 = .ok (.aload_n 0, 1) := by decide +kernel
theorem dX11_who_123 : decode cX11_who 123 = .ok (.iconst 1, 1) := by decide +kernel
theorem dX11_who_124 : decode cX11_who 124 = .ok (.putfield 351, 3) := by decide +kernel
theorem dX11_who_127 : decode cX11_who 127 = .ok (.ldc_w 335, 3) := by decide +kernel
theorem dX11_who_130 : decode cX11_who 130 = .ok (.istore_n 2, 1) := by decide +kernel
theorem dX11_who_131 : decode cX11_who 131 = .ok (.iconst 0, 1) := by decide +kernel
theorem dX11_who_132 : decode cX11_who 132 = .ok (.istore_n 3, 1) := by decide +kernel
theorem dX11_who_133 : decode cX11_who 133 = .ok (.iload_n 3, 1) := by decide +kernel
theorem dX11_who_134 : decode cX11_who 134 = .ok (.aload_n 0, 1) := by decide +kernel
theorem dX11_who_135 : decode cX11_who 135 = .ok (.getfield 33, 3) := by decide +kernel
theorem dX11_who_138 : decode cX11_who 138 = .ok (.iconst 0, 1) := by decide +kernel
theorem dX11_who_139 : decode cX11_who 139 = .ok (.iaload, 1) := by decide +kernel
theorem dX11_who_140 : decode cX11_who 140 = .ok (.if_icmp .ge 52, 3) := by decide +kernel
theorem dX11_who_143 : decode cX11_who 143 = .ok (.iload_n 1, 1) := by decide +kernel
theorem dX11_who_144 : decode cX11_who 144 = .ok (.aload_n 0, 1) := by decide +kernel
theorem dX11_who_145 : decode cX11_who 145 = .ok (.iload_n 3, 1) := by decide +kernel
theorem dX11_who_146 : decode cX11_who 146 = .ok (.invokevirtual 278, 3) := by decide +kernel
theorem dX11_who_149 : decode cX11_who 149 = .ok (.iand, 1) := by decide +kernel
theorem dX11_who_150 : decode cX11_who 150 = .ok (.invokestatic 284, 3) := by decide +kernel
theorem dX11_who_153 : decode cX11_who 153 = .ok (.istore 4, 2) := by decide +kernel
theorem dX11_who_155 : decode cX11_who 155 = .ok (.iload 4, 2) := by decide +kernel
theorem dX11_who_157 : decode cX11_who 157 = .ok (.iload_n 1, 1) := by decide +kernel
theorem dX11_who_158 : decode cX11_who 158 = .ok (.invokestatic 284, 3) := by decide +kernel
theorem dX11_who_161 : decode cX11_who 161 = .ok (.iload 4, 2) := by decide +kernel
theorem dX11_who_163 : decode cX11_who 163 = .ok (.isub, 1) := by decide +kernel
theorem dX11_who_164 : decode cX11_who 164 = .ok (.invokestatic 336, 3) := by decide +kernel
theorem dX11_who_167 : decode cX11_who 167 = .ok (.istore 5, 2) := by decide +kernel
theorem dX11_who_169 : decode cX11_who 169 = .ok (.iload 5, 2) := by decide +kernel
theorem dX11_who_171 : decode cX11_who 171 = .ok (.iload_n 2, 1) := by decide +kernel
theorem dX11_who_172 : decode cX11_who 172 = .ok (.if_icmp .lt 6, 3) := by decide +kernel
theorem dX11_who_175 : decode cX11_who 175 = .ok (.goto 11, 3) := by decide +kernel
theorem dX11_who_178 : decode cX11_who 178 = .ok (.iload 5, 2) := by decide +kernel
theorem dX11_who_180 : decode cX11_who 180 = .ok (.istore_n 2, 1) := by decide +kernel
theorem dX11_who_181 : decode cX11_who 181 = .ok (.aload_n 0, 1) := by decide +kernel
theorem dX11_who_182 : decode cX11_who 182 = .ok (.iload_n 3, 1) := by decide +kernel
theorem dX11_who_183 : decode cX11_who 183 = .ok (.putfield 355, 3) := by decide +kernel
theorem dX11_who_186 : decode cX11_who 186 = .ok (.iinc 3 1, 3) := by decide +kernel
theorem dX11_who_189 : decode cX11_who 189 = .ok (.goto (-56), 3) := by decide +kernel
theorem dX11_who_192 : decode cX11_who 192 = .ok (.iload_n 1, 1) := by decide +kernel
theorem dX11_who_193 : decode cX11_who 193 = .ok (.ireturn, 1) := by decide +kernel
theorem dX11_serving_0 : decode cX11_serving 0 = .ok (.aload_n 0, 1) := by decide +kernel
theorem dX11_serving_1 : decode cX11_serving 1 = .ok (.iconst 0, 1) := by decide +kernel
theorem dX11_serving_2 : decode cX11_serving 2 = .ok (.putfield 1, 3) := by decide +kernel
theorem dX11_serving_5 : decode cX11_serving 5 = .ok (.aload_n 0, 1) := by decide +kernel
theorem dX11_serving_6 : decode cX11_serving 6 = .ok (.getfield 361, 3) := by decide +kernel
theorem dX11_serving_9 : decode cX11_serving 9 = .ok (.ifCond .eq 10, 3) := by decide +kernel
theorem dX11_serving_12 : decode cX11_serving 12 = .ok (.aload_n 0, 1) := by decide +kernel
theorem dX11_serving_13 : decode cX11_serving 13 = .ok (.getfield 364, 3) := by decide +kernel
theorem dX11_serving_16 : decode cX11_serving 16 = .ok (.goto 4, 3) := by decide +kernel
theorem dX11_serving_19 : decode cX11_serving 19 = .ok (.iconst (-1), 1) := by decide +kernel
theorem dX11_serving_20 : decode cX11_serving 20 = .ok (.ireturn, 1) := by decide +kernel
theorem dX11_tolds_0 : decode cX11_tolds 0 = .ok (.iload_n 1, 1) := by decide +kernel
theorem dX11_tolds_1 : decode cX11_tolds 1 = .ok (.istore_n 3, 1) := by decide +kernel
theorem dX11_tolds_2 : decode cX11_tolds 2 = .ok (.iconst 0, 1) := by decide +kernel
theorem dX11_tolds_3 : decode cX11_tolds 3 = .ok (.istore 4, 2) := by decide +kernel
theorem dX11_tolds_5 : decode cX11_tolds 5 = .ok (.iload 4, 2) := by decide +kernel
theorem dX11_tolds_7 : decode cX11_tolds 7 = .ok (.aload_n 0, 1) := by decide +kernel
theorem dX11_tolds_8 : decode cX11_tolds 8 = .ok (.getfield 33, 3) := by decide +kernel
theorem dX11_tolds_11 : decode cX11_tolds 11 = .ok (.iconst 0, 1) := by decide +kernel
theorem dX11_tolds_12 : decode cX11_tolds 12 = .ok (.iaload, 1) := by decide +kernel
theorem dX11_tolds_13 : decode cX11_tolds 13 = .ok (.if_icmp .ge 31, 3) := by decide +kernel
theorem dX11_tolds_16 : decode cX11_tolds 16 = .ok (.iload_n 3, 1) := by decide +kernel
theorem dX11_tolds_17 : decode cX11_tolds 17 = .ok (.iload_n 1, 1) := by decide +kernel
theorem dX11_tolds_18 : decode cX11_tolds 18 = .ok (.iload 4, 2) := by decide +kernel
theorem dX11_tolds_20 : decode cX11_tolds 20 = .ok (.invokestatic 214, 3) := by decide +kernel
theorem dX11_tolds_23 : decode cX11_tolds 23 = .ok (.ifCond .eq 12, 3) := by decide +kernel
theorem dX11_tolds_26 : decode cX11_tolds 26 = .ok (.aload_n 0, 1) := by decide +kernel
theorem dX11_tolds_27 : decode cX11_tolds 27 = .ok (.iload 4, 2) := by decide +kernel
theorem dX11_tolds_29 : decode cX11_tolds 29 = .ok (.invokevirtual 265, 3) := by decide +kernel
theorem dX11_tolds_32 : decode cX11_tolds 32 = .ok (.goto 4, 3) := by decide +kernel
theorem dX11_tolds_35 : decode cX11_tolds 35 = .ok (.iconst 0, 1) := by decide +kernel
theorem dX11_tolds_36 : decode cX11_tolds 36 = .ok (.ior, 1) := by decide +kernel
theorem dX11_tolds_37 : decode cX11_tolds 37 = .ok (.istore_n 3, 1) := by decide +kernel
theorem dX11_tolds_38 : decode cX11_tolds 38 = .ok (.iinc 4 1, 3) := by decide +kernel
theorem dX11_tolds_41 : decode cX11_tolds 41 = .ok (.goto (-36), 3) := by decide +kernel
theorem dX11_tolds_44 : decode cX11_tolds 44 = .ok (.iload_n 3, 1) := by decide +kernel
theorem dX11_tolds_45 : decode cX11_tolds 45 = .ok (.iload_n 2, 1) := by decide +kernel
theorem dX11_tolds_46 : decode cX11_tolds 46 = .ok (.iconst (-1), 1) := by decide +kernel
theorem dX11_tolds_47 : decode cX11_tolds 47 = .ok (.ixor, 1) := by decide +kernel
theorem dX11_tolds_48 : decode cX11_tolds 48 = .ok (.iand, 1) := by decide +kernel
theorem dX11_tolds_49 : decode cX11_tolds 49 = .ok (.ireturn, 1) := by decide +kernel
theorem dX11_parting_0 : decode cX11_parting 0 = .ok (.aload_n 0, 1) := by decide +kernel
theorem dX11_parting_1 : decode cX11_parting 1 = .ok (.iconst 0, 1) := by decide +kernel
theorem dX11_parting_2 : decode cX11_parting 2 = .ok (.putfield 1, 3) := by decide +kernel
theorem dX11_parting_5 : decode cX11_parting 5 = .ok (.aload_n 0, 1) := by decide +kernel
theorem dX11_parting_6 : decode cX11_parting 6 = .ok (.getfield 376, 3) := by decide +kernel
theorem dX11_parting_9 : decode cX11_parting 9 = .ok (.ifCond .eq 10, 3) := by decide +kernel
theorem dX11_parting_12 : decode cX11_parting 12 = .ok (.aload_n 0, 1) := by decide +kernel
theorem dX11_parting_13 : decode cX11_parting 13 = .ok (.getfield 379, 3) := by decide +kernel
theorem dX11_parting_16 : decode cX11_parting 16 = .ok (.goto 4, 3) := by decide +kernel
theorem dX11_parting_19 : decode cX11_parting 19 = .ok (.iconst (-1), 1) := by decide +kernel
theorem dX11_parting_20 : decode cX11_parting 20 = .ok (.ireturn, 1) := by decide +kernel
theorem dX11_says_0 : decode cX11_says 0 = .ok (.aload_n 0, 1) := by decide +kernel
theorem dX11_says_1 : decode cX11_says 1 = .ok (.bipush 32, 2) := by decide +kernel
theorem dX11_says_3 : decode cX11_says 3 = .ok (.invokevirtual 387, 3) := by decide +kernel
theorem dX11_says_6 : decode cX11_says 6 = .ok (.aload_n 0, 1) := by decide +kernel
theorem dX11_says_7 : decode cX11_says 7 = .ok (.lload_n 1, 1) := by decide +kernel
theorem dX11_says_8 : decode cX11_says 8 = .ok (.invokevirtual 390, 3) := by decide +kernel
theorem dX11_says_11 : decode cX11_says 11 = .ok (.return_, 1) := by decide +kernel
theorem dX11_drawPerson_0 : decode cX11_drawPerson 0 = .ok (.aload_n 0, 1) := by decide +kernel
theorem dX11_drawPerson_1 : decode cX11_drawPerson 1 = .ok (.bipush 6, 2) := by decide +kernel
theorem dX11_drawPerson_3 : decode cX11_drawPerson 3 = .ok (.invokevirtual 403, 3) := by decide +kernel
theorem dX11_drawPerson_6 : decode cX11_drawPerson 6 = .ok (.istore_n 2, 1) := by decide +kernel
theorem dX11_drawPerson_7 : decode cX11_drawPerson 7 = .ok (.iload_n 2, 1) := by decide +kernel
theorem dX11_drawPerson_8 : decode cX11_drawPerson 8 = .ok (.iconst 3, 1) := by decide +kernel
theorem dX11_drawPerson_9 : decode cX11_drawPerson 9 = .ok (.if_icmp .ge 54, 3) := by decide +kernel
theorem dX11_drawPerson_12 : decode cX11_drawPerson 12 = .ok (.aload_n 0, 1) := by decide +kernel
theorem dX11_drawPerson_13 : decode cX11_drawPerson 13 = .ok (.getfield 33, 3) := by decide +kernel
theorem dX11_drawPerson_16 : decode cX11_drawPerson 16 = .ok (.iconst 1, 1) := by decide +kernel
theorem dX11_drawPerson_17 : decode cX11_drawPerson 17 = .ok (.iaload, 1) := by decide +kernel
theorem dX11_drawPerson_18 : decode cX11_drawPerson 18 = .ok (.ifCond .le 45, 3) := by decide +kernel
theorem dX11_drawPerson_21 : decode cX11_drawPerson 21 = .ok (.aload_n 0, 1) := by decide +kernel
theorem dX11_drawPerson_22 : decode cX11_drawPerson 22 = .ok (.aload_n 0, 1) := by decide +kernel
theorem dX11_drawPerson_23 : decode cX11_drawPerson 23 = .ok (.getfield 33, 3) := by decide +kernel
theorem dX11_drawPerson_26 : decode cX11_drawPerson 26 = .ok (.iconst 1, 1) := by decide +kernel
theorem dX11_drawPerson_27 : decode cX11_drawPerson 27 = .ok (.iaload, 1) := by decide +kernel
theorem dX11_drawPerson_28 : decode cX11_drawPerson 28 = .ok (.invokevirtual 403, 3) := by decide +kernel
theorem dX11_drawPerson_31 : decode cX11_drawPerson 31 = .ok (.istore_n 3, 1) := by decide +kernel
theorem dX11_drawPerson_32 : decode cX11_drawPerson 32 = .ok (.aload_n 0, 1) := by decide +kernel
theorem dX11_drawPerson_33 : decode cX11_drawPerson 33 = .ok (.aload_n 0, 1) := by decide +kernel
theorem dX11_drawPerson_34 : decode cX11_drawPerson 34 = .ok (.getfield 33, 3) := by decide +kernel
theorem dX11_drawPerson_37 : decode cX11_drawPerson 37 = .ok (.iconst 0, 1) := by decide +kernel
theorem dX11_drawPerson_38 : decode cX11_drawPerson 38 = .ok (.iaload, 1) := by decide +kernel
theorem dX11_drawPerson_39 : decode cX11_drawPerson 39 = .ok (.invokevirtual 403, 3) := by decide +kernel
theorem dX11_drawPerson_42 : decode cX11_drawPerson 42 = .ok (.istore 4, 2) := by decide +kernel
theorem dX11_drawPerson_44 : decode cX11_drawPerson 44 = .ok (.aload_n 0, 1) := by decide +kernel
theorem dX11_drawPerson_45 : decode cX11_drawPerson 45 = .ok (.iload_n 1, 1) := by decide +kernel
theorem dX11_drawPerson_46 : decode cX11_drawPerson 46 = .ok (.iload_n 3, 1) := by decide +kernel
theorem dX11_drawPerson_47 : decode cX11_drawPerson 47 = .ok (.iload 4, 2) := by decide +kernel
theorem dX11_drawPerson_49 : decode cX11_drawPerson 49 = .ok (.invokevirtual 306, 3) := by decide +kernel
theorem dX11_drawPerson_52 : decode cX11_drawPerson 52 = .ok (.ifCond .ne 11, 3) := by decide +kernel
theorem dX11_drawPerson_55 : decode cX11_drawPerson 55 = .ok (.aload_n 0, 1) := by decide +kernel
theorem dX11_drawPerson_56 : decode cX11_drawPerson 56 = .ok (.iload_n 1, 1) := by decide +kernel
theorem dX11_drawPerson_57 : decode cX11_drawPerson 57 = .ok (.iload_n 3, 1) := by decide +kernel
theorem dX11_drawPerson_58 : decode cX11_drawPerson 58 = .ok (.iload 4, 2) := by decide +kernel
theorem dX11_drawPerson_60 : decode cX11_drawPerson 60 = .ok (.invokevirtual 313, 3) := by decide +kernel
theorem dX11_drawPerson_63 : decode cX11_drawPerson 63 = .ok (.iload_n 2, 1) := by decide +kernel
theorem dX11_drawPerson_64 : decode cX11_drawPerson 64 = .ok (.iconst 3, 1) := by decide +kernel
theorem dX11_drawPerson_65 : decode cX11_drawPerson 65 = .ok (.if_icmp .ne 29, 3) := by decide +kernel
theorem dX11_drawPerson_68 : decode cX11_drawPerson 68 = .ok (.aload_n 0, 1) := by decide +kernel
theorem dX11_drawPerson_69 : decode cX11_drawPerson 69 = .ok (.aload_n 0, 1) := by decide +kernel
theorem dX11_drawPerson_70 : decode cX11_drawPerson 70 = .ok (.getfield 33, 3) := by decide +kernel
theorem dX11_drawPerson_73 : decode cX11_drawPerson 73 = .ok (.iconst 0, 1) := by decide +kernel
theorem dX11_drawPerson_74 : decode cX11_drawPerson 74 = .ok (.iaload, 1) := by decide +kernel
theorem dX11_drawPerson_75 : decode cX11_drawPerson 75 = .ok (.invokevirtual 403, 3) := by decide +kernel
theorem dX11_drawPerson_78 : decode cX11_drawPerson 78 = .ok (.istore_n 3, 1) := by decide +kernel
theorem dX11_drawPerson_79 : decode cX11_drawPerson 79 = .ok (.aload_n 0, 1) := by decide +kernel
theorem dX11_drawPerson_80 : decode cX11_drawPerson 80 = .ok (.iload_n 1, 1) := by decide +kernel
theorem dX11_drawPerson_81 : decode cX11_drawPerson 81 = .ok (.iload_n 3, 1) := by decide +kernel
theorem dX11_drawPerson_82 : decode cX11_drawPerson 82 = .ok (.invokevirtual 317, 3) := by decide +kernel
theorem dX11_drawPerson_85 : decode cX11_drawPerson 85 = .ok (.ifCond .ne 9, 3) := by decide +kernel
theorem dX11_drawPerson_88 : decode cX11_drawPerson 88 = .ok (.aload_n 0, 1) := by decide +kernel
theorem dX11_drawPerson_89 : decode cX11_drawPerson 89 = .ok (.iload_n 1, 1) := by decide +kernel
theorem dX11_drawPerson_90 : decode cX11_drawPerson 90 = .ok (.iload_n 3, 1) := by decide +kernel
theorem dX11_drawPerson_91 : decode cX11_drawPerson 91 = .ok (.invokevirtual 320, 3) := by decide +kernel
theorem dX11_drawPerson_94 : decode cX11_drawPerson 94 = .ok (.iload_n 2, 1) := by decide +kernel
theorem dX11_drawPerson_95 : decode cX11_drawPerson 95 = .ok (.iconst 4, 1) := by decide +kernel
theorem dX11_drawPerson_96 : decode cX11_drawPerson 96 = .ok (.if_icmp .ne 16, 3) := by decide +kernel
theorem dX11_drawPerson_99 : decode cX11_drawPerson 99 = .ok (.aload_n 0, 1) := by decide +kernel
theorem dX11_drawPerson_100 : decode cX11_drawPerson 100 = .ok (.iload_n 1, 1) := by decide +kernel
theorem dX11_drawPerson_101 : decode cX11_drawPerson 101 = .ok (.invokevirtual 323, 3) := by decide +kernel
theorem dX11_drawPerson_104 : decode cX11_drawPerson 104 = .ok (.ifCond .ne 8, 3) := by decide +kernel
theorem dX11_drawPerson_107 : decode cX11_drawPerson 107 = .ok (.aload_n 0, 1) := by decide +kernel
theorem dX11_drawPerson_108 : decode cX11_drawPerson 108 = .ok (.iload_n 1, 1) := by decide +kernel
theorem dX11_drawPerson_109 : decode cX11_drawPerson 109 = .ok (.invokevirtual 326, 3) := by decide +kernel
theorem dX11_drawPerson_112 : decode cX11_drawPerson 112 = .ok (.return_, 1) := by decide +kernel
theorem dX11_bookLine_0 : decode cX11_bookLine 0 = .ok (.iconst 4, 1) := by decide +kernel
theorem dX11_bookLine_1 : decode cX11_bookLine 1 = .ok (.aload_n 0, 1) := by decide +kernel
theorem dX11_bookLine_2 : decode cX11_bookLine 2 = .ok (.getfield 418, 3) := by decide +kernel
theorem dX11_bookLine_5 : decode cX11_bookLine 5 = .ok (.imul, 1) := by decide +kernel
theorem dX11_bookLine_6 : decode cX11_bookLine 6 = .ok (.istore_n 1, 1) := by decide +kernel
theorem dX11_bookLine_7 : decode cX11_bookLine 7 = .ok (.aload_n 0, 1) := by decide +kernel
theorem dX11_bookLine_8 : decode cX11_bookLine 8 = .ok (.ldc2_w 120, 3) := by decide +kernel
theorem dX11_bookLine_11 : decode cX11_bookLine 11 = .ok (.invokevirtual 220, 3) := by decide +kernel
theorem dX11_bookLine_14 : decode cX11_bookLine 14 = .ok (.istore_n 2, 1) := by decide +kernel
theorem dX11_bookLine_15 : decode cX11_bookLine 15 = .ok (.iload_n 2, 1) := by decide +kernel
theorem dX11_bookLine_16 : decode cX11_bookLine 16 = .ok (.ifCond .ne 19, 3) := by decide +kernel
theorem dX11_bookLine_19 : decode cX11_bookLine 19 = .ok (.aload_n 0, 1) := by decide +kernel
theorem dX11_bookLine_20 : decode cX11_bookLine 20 = .ok (.iconst 0, 1) := by decide +kernel
theorem dX11_bookLine_21 : decode cX11_bookLine 21 = .ok (.aload_n 0, 1) := by decide +kernel
theorem dX11_bookLine_22 : decode cX11_bookLine 22 = .ok (.getfield 33, 3) := by decide +kernel
theorem dX11_bookLine_25 : decode cX11_bookLine 25 = .ok (.iconst 0, 1) := by decide +kernel
theorem dX11_bookLine_26 : decode cX11_bookLine 26 = .ok (.iaload, 1) := by decide +kernel
theorem dX11_bookLine_27 : decode cX11_bookLine 27 = .ok (.invokevirtual 208, 3) := by decide +kernel
theorem dX11_bookLine_30 : decode cX11_bookLine 30 = .ok (.ifCond .ne 5, 3) := by decide +kernel
theorem dX11_bookLine_33 : decode cX11_bookLine 33 = .ok (.iconst 0, 1) := by decide +kernel
theorem dX11_bookLine_34 : decode cX11_bookLine 34 = .ok (.ireturn, 1) := by decide +kernel
theorem dX11_bookLine_35 : decode cX11_bookLine 35 = .ok (.aload_n 0, 1) := by decide +kernel
theorem dX11_bookLine_36 : decode cX11_bookLine 36 = .ok (.getfield 418, 3) := by decide +kernel
theorem dX11_bookLine_39 : decode cX11_bookLine 39 = .ok (.bipush 40, 2) := by decide +kernel
theorem dX11_bookLine_41 : decode cX11_bookLine 41 = .ok (.if_icmp .ne 9, 3) := by decide +kernel
theorem dX11_bookLine_44 : decode cX11_bookLine 44 = .ok (.aload_n 0, 1) := by decide +kernel
theorem dX11_bookLine_45 : decode cX11_bookLine 45 = .ok (.iconst 4, 1) := by decide +kernel
theorem dX11_bookLine_46 : decode cX11_bookLine 46 = .ok (.invokevirtual 183, 3) := by decide +kernel
theorem dX11_bookLine_49 : decode cX11_bookLine 49 = .ok (.ireturn, 1) := by decide +kernel
theorem dX11_bookLine_50 : decode cX11_bookLine 50 = .ok (.aload_n 0, 1) := by decide +kernel
theorem dX11_bookLine_51 : decode cX11_bookLine 51 = .ok (.getfield 193, 3) := by decide +kernel
theorem dX11_bookLine_54 : decode cX11_bookLine 54 = .ok (.istore_n 3, 1) := by decide +kernel
theorem dX11_bookLine_55 : decode cX11_bookLine 55 = .ok (.aload_n 0, 1) := by decide +kernel
theorem dX11_bookLine_56 : decode cX11_bookLine 56 = .ok (.invokevirtual 186, 3) := by decide +kernel
theorem dX11_bookLine_59 : decode cX11_bookLine 59 = .ok (.aload_n 0, 1) := by decide +kernel
theorem dX11_bookLine_60 : decode cX11_bookLine 60 = .ok (.getfield 40, 3) := by decide +kernel
theorem dX11_bookLine_63 : decode cX11_bookLine 63 = .ok (.iload_n 1, 1) := by decide +kernel
theorem dX11_bookLine_64 : decode cX11_bookLine 64 = .ok (.iconst 4, 1) := by decide +kernel
theorem dX11_bookLine_65 : decode cX11_bookLine 65 = .ok (.iastore, 1) := by decide +kernel
theorem dX11_bookLine_66 : decode cX11_bookLine 66 = .ok (.iload_n 2, 1) := by decide +kernel
theorem dX11_bookLine_67 : decode cX11_bookLine 67 = .ok (.ifCond .eq 29, 3) := by decide +kernel
theorem dX11_bookLine_70 : decode cX11_bookLine 70 = .ok (.aload_n 0, 1) := by decide +kernel
theorem dX11_bookLine_71 : decode cX11_bookLine 71 = .ok (.iconst 1, 1) := by decide +kernel
theorem dX11_bookLine_72 : decode cX11_bookLine 72 = .ok (.bipush 60, 2) := by decide +kernel
theorem dX11_bookLine_74 : decode cX11_bookLine 74 = .ok (.invokevirtual 196, 3) := by decide +kernel
theorem dX11_bookLine_77 : decode cX11_bookLine 77 = .ok (.ifCond .ne 5, 3) := by decide +kernel
theorem dX11_bookLine_80 : decode cX11_bookLine 80 = .ok (.iconst 0, 1) := by decide +kernel
theorem dX11_bookLine_81 : decode cX11_bookLine 81 = .ok (.ireturn, 1) := by decide +kernel
theorem dX11_bookLine_82 : decode cX11_bookLine 82 = .ok (.aload_n 0, 1) := by decide +kernel
theorem dX11_bookLine_83 : decode cX11_bookLine 83 = .ok (.getfield 40, 3) := by decide +kernel
theorem dX11_bookLine_86 : decode cX11_bookLine 86 = .ok (.iload_n 1, 1) := by decide +kernel
theorem dX11_bookLine_87 : decode cX11_bookLine 87 = .ok (.iconst 1, 1) := by decide +kernel
theorem dX11_bookLine_88 : decode cX11_bookLine 88 = .ok (.iadd, 1) := by decide +kernel
theorem dX11_bookLine_89 : decode cX11_bookLine 89 = .ok (.aload_n 0, 1) := by decide +kernel
theorem dX11_bookLine_90 : decode cX11_bookLine 90 = .ok (.getfield 193, 3) := by decide +kernel
theorem dX11_bookLine_93 : decode cX11_bookLine 93 = .ok (.iastore, 1) := by decide +kernel
theorem dX11_bookLine_94 : decode cX11_bookLine 94 = .ok (.iconst 1, 1) := by decide +kernel
theorem dX11_bookLine_95 : decode cX11_bookLine 95 = .ok (.ireturn, 1) := by decide +kernel
theorem dX11_bookLine_96 : decode cX11_bookLine 96 = .ok (.aload_n 0, 1) := by decide +kernel
theorem dX11_bookLine_97 : decode cX11_bookLine 97 = .ok (.ldc2_w 114, 3) := by decide +kernel
theorem dX11_bookLine_100 : decode cX11_bookLine 100 = .ok (.invokevirtual 220, 3) := by decide +kernel
theorem dX11_bookLine_103 : decode cX11_bookLine 103 = .ok (.ifCond .eq 7, 3) := by decide +kernel
theorem dX11_bookLine_106 : decode cX11_bookLine 106 = .ok (.iconst 0, 1) := by decide +kernel
theorem dX11_bookLine_107 : decode cX11_bookLine 107 = .ok (.goto 46, 3) := by decide +kernel
theorem dX11_bookLine_110 : decode cX11_bookLine 110 = .ok (.aload_n 0, 1) := by decide +kernel
theorem dX11_bookLine_111 : decode cX11_bookLine 111 = .ok (.ldc2_w 116, 3) := by decide +kernel
theorem dX11_bookLine_114 : decode cX11_bookLine 114 = .ok (.invokevirtual 220, 3) := by decide +kernel
theorem dX11_bookLine_117 : decode cX11_bookLine 117 = .ok (.ifCond .eq 7, 3) := by decide +kernel
theorem dX11_bookLine_120 : decode cX11_bookLine 120 = .ok (.iconst 1, 1) := by decide +kernel
theorem dX11_bookLine_121 : decode cX11_bookLine 121 = .ok (.goto 32, 3) := by decide +kernel
theorem dX11_bookLine_124 : decode cX11_bookLine 124 = .ok (.aload_n 0, 1) := by decide +kernel
theorem dX11_bookLine_125 : decode cX11_bookLine 125 = .ok (.ldc2_w 110, 3) := by decide +kernel
theorem dX11_bookLine_128 : decode cX11_bookLine 128 = .ok (.invokevirtual 220, 3) := by decide +kernel
theorem dX11_bookLine_131 : decode cX11_bookLine 131 = .ok (.ifCond .eq 7, 3) := by decide +kernel
theorem dX11_bookLine_134 : decode cX11_bookLine 134 = .ok (.iconst 2, 1) := by decide +kernel
theorem dX11_bookLine_135 : decode cX11_bookLine 135 = .ok (.goto 18, 3) := by decide +kernel
theorem dX11_bookLine_138 : decode cX11_bookLine 138 = .ok (.aload_n 0, 1) := by decide +kernel
theorem dX11_bookLine_139 : decode cX11_bookLine 139 = .ok (.ldc2_w 118, 3) := by decide +kernel
theorem dX11_bookLine_142 : decode cX11_bookLine 142 = .ok (.invokevirtual 220, 3) := by decide +kernel
theorem dX11_bookLine_145 : decode cX11_bookLine 145 = .ok (.ifCond .eq 7, 3) := by decide +kernel
theorem dX11_bookLine_148 : decode cX11_bookLine 148 = .ok (.iconst 3, 1) := by decide +kernel
theorem dX11_bookLine_149 : decode cX11_bookLine 149 = .ok (.goto 4, 3) := by decide +kernel
theorem dX11_bookLine_152 : decode cX11_bookLine 152 = .ok (.iconst (-1), 1) := by decide +kernel
theorem dX11_bookLine_153 : decode cX11_bookLine 153 = .ok (.istore 4, 2) := by decide +kernel
theorem dX11_bookLine_155 : decode cX11_bookLine 155 = .ok (.iload 4, 2) := by decide +kernel
theorem dX11_bookLine_157 : decode cX11_bookLine 157 = .ok (.ifCond .ge 9, 3) := by decide +kernel
theorem dX11_bookLine_160 : decode cX11_bookLine 160 = .ok (.aload_n 0, 1) := by decide +kernel
theorem dX11_bookLine_161 : decode cX11_bookLine 161 = .ok (.iconst 1, 1) := by decide +kernel
theorem dX11_bookLine_162 : decode cX11_bookLine 162 = .ok (.invokevirtual 183, 3) := by decide +kernel
theorem dX11_bookLine_165 : decode cX11_bookLine 165 = .ok (.ireturn, 1) := by decide +kernel
theorem dX11_bookLine_166 : decode cX11_bookLine 166 = .ok (.aload_n 0, 1) := by decide +kernel
theorem dX11_bookLine_167 : decode cX11_bookLine 167 = .ok (.invokevirtual 186, 3) := by decide +kernel
theorem dX11_bookLine_170 : decode cX11_bookLine 170 = .ok (.aload_n 0, 1) := by decide +kernel
theorem dX11_bookLine_171 : decode cX11_bookLine 171 = .ok (.getfield 40, 3) := by decide +kernel
theorem dX11_bookLine_174 : decode cX11_bookLine 174 = .ok (.iload_n 1, 1) := by decide +kernel
theorem dX11_bookLine_175 : decode cX11_bookLine 175 = .ok (.iload 4, 2) := by decide +kernel
theorem dX11_bookLine_177 : decode cX11_bookLine 177 = .ok (.iastore, 1) := by decide +kernel
theorem dX11_bookLine_178 : decode cX11_bookLine 178 = .ok (.aload_n 0, 1) := by decide +kernel
theorem dX11_bookLine_179 : decode cX11_bookLine 179 = .ok (.getfield 40, 3) := by decide +kernel
theorem dX11_bookLine_182 : decode cX11_bookLine 182 = .ok (.iload_n 1, 1) := by decide +kernel
theorem dX11_bookLine_183 : decode cX11_bookLine 183 = .ok (.iconst 1, 1) := by decide +kernel
theorem dX11_bookLine_184 : decode cX11_bookLine 184 = .ok (.iadd, 1) := by decide +kernel
theorem dX11_bookLine_185 : decode cX11_bookLine 185 = .ok (.iload_n 3, 1) := by decide +kernel
theorem dX11_bookLine_186 : decode cX11_bookLine 186 = .ok (.iastore, 1) := by decide +kernel
theorem dX11_bookLine_187 : decode cX11_bookLine 187 = .ok (.iload 4, 2) := by decide +kernel
theorem dX11_bookLine_189 : decode cX11_bookLine 189 = .ok (.iconst 2, 1) := by decide +kernel
theorem dX11_bookLine_190 : decode cX11_bookLine 190 = .ok (.if_icmp .ne 5, 3) := by decide +kernel
theorem dX11_bookLine_193 : decode cX11_bookLine 193 = .ok (.iconst 1, 1) := by decide +kernel
theorem dX11_bookLine_194 : decode cX11_bookLine 194 = .ok (.ireturn, 1) := by decide +kernel
theorem dX11_bookLine_195 : decode cX11_bookLine 195 = .ok (.iload 4, 2) := by decide +kernel
theorem dX11_bookLine_197 : decode cX11_bookLine 197 = .ok (.ifCond .ne 18, 3) := by decide +kernel
theorem dX11_bookLine_200 : decode cX11_bookLine 200 = .ok (.aload_n 0, 1) := by decide +kernel
theorem dX11_bookLine_201 : decode cX11_bookLine 201 = .ok (.bipush 7, 2) := by decide +kernel
theorem dX11_bookLine_203 : decode cX11_bookLine 203 = .ok (.aload_n 0, 1) := by decide +kernel
theorem dX11_bookLine_204 : decode cX11_bookLine 204 = .ok (.getfield 33, 3) := by decide +kernel
theorem dX11_bookLine_207 : decode cX11_bookLine 207 = .ok (.iconst 1, 1) := by decide +kernel
theorem dX11_bookLine_208 : decode cX11_bookLine 208 = .ok (.iaload, 1) := by decide +kernel
theorem dX11_bookLine_209 : decode cX11_bookLine 209 = .ok (.invokevirtual 244, 3) := by decide +kernel
theorem dX11_bookLine_212 : decode cX11_bookLine 212 = .ok (.goto 14, 3) := by decide +kernel
theorem dX11_bookLine_215 : decode cX11_bookLine 215 = .ok (.aload_n 0, 1) := by decide +kernel
theorem dX11_bookLine_216 : decode cX11_bookLine 216 = .ok (.iconst 0, 1) := by decide +kernel
theorem dX11_bookLine_217 : decode cX11_bookLine 217 = .ok (.aload_n 0, 1) := by decide +kernel
theorem dX11_bookLine_218 : decode cX11_bookLine 218 = .ok (.getfield 33, 3) := by decide +kernel
theorem dX11_bookLine_221 : decode cX11_bookLine 221 = .ok (.iconst 0, 1) := by decide +kernel
theorem dX11_bookLine_222 : decode cX11_bookLine 222 = .ok (.iaload, 1) := by decide +kernel
theorem dX11_bookLine_223 : decode cX11_bookLine 223 = .ok (.invokevirtual 244, 3) := by decide +kernel
theorem dX11_bookLine_226 : decode cX11_bookLine 226 = .ok (.istore 5, 2) := by decide +kernel
theorem dX11_bookLine_228 : decode cX11_bookLine 228 = .ok (.aload_n 0, 1) := by decide +kernel
theorem dX11_bookLine_229 : decode cX11_bookLine 229 = .ok (.getfield 40, 3) := by decide +kernel
theorem dX11_bookLine_232 : decode cX11_bookLine 232 = .ok (.iload_n 1, 1) := by decide +kernel
theorem dX11_bookLine_233 : decode cX11_bookLine 233 = .ok (.iconst 2, 1) := by decide +kernel
theorem dX11_bookLine_234 : decode cX11_bookLine 234 = .ok (.iadd, 1) := by decide +kernel
theorem dX11_bookLine_235 : decode cX11_bookLine 235 = .ok (.aload_n 0, 1) := by decide +kernel
theorem dX11_bookLine_236 : decode cX11_bookLine 236 = .ok (.getfield 193, 3) := by decide +kernel
theorem dX11_bookLine_239 : decode cX11_bookLine 239 = .ok (.iastore, 1) := by decide +kernel
theorem dX11_bookLine_240 : decode cX11_bookLine 240 = .ok (.iload 5, 2) := by decide +kernel
theorem dX11_bookLine_242 : decode cX11_bookLine 242 = .ok (.ifCond .eq 9, 3) := by decide +kernel
theorem dX11_bookLine_245 : decode cX11_bookLine 245 = .ok (.iload 4, 2) := by decide +kernel
theorem dX11_bookLine_247 : decode cX11_bookLine 247 = .ok (.iconst 1, 1) := by decide +kernel
theorem dX11_bookLine_248 : decode cX11_bookLine 248 = .ok (.if_icmp .ne 6, 3) := by decide +kernel
theorem dX11_bookLine_251 : decode cX11_bookLine 251 = .ok (.iload 5, 2) := by decide +kernel
theorem dX11_bookLine_253 : decode cX11_bookLine 253 = .ok (.ireturn, 1) := by decide +kernel
theorem dX11_bookLine_254 : decode cX11_bookLine 254 = .ok (.aload_n 0, 1) := by decide +kernel
theorem dX11_bookLine_255 : decode cX11_bookLine 255 = .ok (.iconst 0, 1) := by decide +kernel
theorem dX11_bookLine_256 : decode cX11_bookLine 256 = .ok (.aload_n 0, 1) := by decide +kernel
theorem dX11_bookLine_257 : decode cX11_bookLine 257 = .ok (.getfield 33, 3) := by decide +kernel
theorem dX11_bookLine_260 : decode cX11_bookLine 260 = .ok (.iconst 0, 1) := by decide +kernel
theorem dX11_bookLine_261 : decode cX11_bookLine 261 = .ok (.iaload, 1) := by decide +kernel
theorem dX11_bookLine_262 : decode cX11_bookLine 262 = .ok (.invokevirtual 244, 3) := by decide +kernel
theorem dX11_bookLine_265 : decode cX11_bookLine 265 = .ok (.istore 5, 2) := by decide +kernel
theorem dX11_bookLine_267 : decode cX11_bookLine 267 = .ok (.aload_n 0, 1) := by decide +kernel
theorem dX11_bookLine_268 : decode cX11_bookLine 268 = .ok (.getfield 40, 3) := by decide +kernel
theorem dX11_bookLine_271 : decode cX11_bookLine 271 = .ok (.iload_n 1, 1) := by decide +kernel
theorem dX11_bookLine_272 : decode cX11_bookLine 272 = .ok (.iconst 3, 1) := by decide +kernel
theorem dX11_bookLine_273 : decode cX11_bookLine 273 = .ok (.iadd, 1) := by decide +kernel
theorem dX11_bookLine_274 : decode cX11_bookLine 274 = .ok (.aload_n 0, 1) := by decide +kernel
theorem dX11_bookLine_275 : decode cX11_bookLine 275 = .ok (.getfield 193, 3) := by decide +kernel
theorem dX11_bookLine_278 : decode cX11_bookLine 278 = .ok (.iastore, 1) := by decide +kernel
theorem dX11_bookLine_279 : decode cX11_bookLine 279 = .ok (.iload 5, 2) := by decide +kernel
theorem dX11_bookLine_281 : decode cX11_bookLine 281 = .ok (.ireturn, 1) := by decide +kernel
theorem dX11_code_0 : decode cX11_code 0 = .ok (.aload_n 0, 1) := by decide +kernel
theorem dX11_code_1 : decode cX11_code 1 = .ok (.getfield 40, 3) := by decide +kernel
theorem dX11_code_4 : decode cX11_code 4 = .ok (.iconst 3, 1) := by decide +kernel
theorem dX11_code_5 : decode cX11_code 5 = .ok (.aload_n 0, 1) := by decide +kernel
theorem dX11_code_6 : decode cX11_code 6 = .ok (.getfield 431, 3) := by decide +kernel
theorem dX11_code_9 : decode cX11_code 9 = .ok (.imul, 1) := by decide +kernel
theorem dX11_code_10 : decode cX11_code 10 = .ok (.iload_n 1, 1) := by decide +kernel
theorem dX11_code_11 : decode cX11_code 11 = .ok (.iastore, 1) := by decide +kernel
theorem dX11_code_12 : decode cX11_code 12 = .ok (.aload_n 0, 1) := by decide +kernel
theorem dX11_code_13 : decode cX11_code 13 = .ok (.getfield 40, 3) := by decide +kernel
theorem dX11_code_16 : decode cX11_code 16 = .ok (.iconst 3, 1) := by decide +kernel
theorem dX11_code_17 : decode cX11_code 17 = .ok (.aload_n 0, 1) := by decide +kernel
theorem dX11_code_18 : decode cX11_code 18 = .ok (.getfield 431, 3) := by decide +kernel
theorem dX11_code_21 : decode cX11_code 21 = .ok (.imul, 1) := by decide +kernel
theorem dX11_code_22 : decode cX11_code 22 = .ok (.iconst 1, 1) := by decide +kernel
theorem dX11_code_23 : decode cX11_code 23 = .ok (.iadd, 1) := by decide +kernel
theorem dX11_code_24 : decode cX11_code 24 = .ok (.iload_n 2, 1) := by decide +kernel
theorem dX11_code_25 : decode cX11_code 25 = .ok (.iastore, 1) := by decide +kernel
theorem dX11_code_26 : decode cX11_code 26 = .ok (.aload_n 0, 1) := by decide +kernel
theorem dX11_code_27 : decode cX11_code 27 = .ok (.getfield 40, 3) := by decide +kernel
theorem dX11_code_30 : decode cX11_code 30 = .ok (.iconst 3, 1) := by decide +kernel
theorem dX11_code_31 : decode cX11_code 31 = .ok (.aload_n 0, 1) := by decide +kernel
theorem dX11_code_32 : decode cX11_code 32 = .ok (.getfield 431, 3) := by decide +kernel
theorem dX11_code_35 : decode cX11_code 35 = .ok (.imul, 1) := by decide +kernel
theorem dX11_code_36 : decode cX11_code 36 = .ok (.iconst 2, 1) := by decide +kernel
theorem dX11_code_37 : decode cX11_code 37 = .ok (.iadd, 1) := by decide +kernel
theorem dX11_code_38 : decode cX11_code 38 = .ok (.iload_n 3, 1) := by decide +kernel
theorem dX11_code_39 : decode cX11_code 39 = .ok (.iastore, 1) := by decide +kernel
theorem dX11_code_40 : decode cX11_code 40 = .ok (.aload_n 0, 1) := by decide +kernel
theorem dX11_code_41 : decode cX11_code 41 = .ok (.dup, 1) := by decide +kernel
theorem dX11_code_42 : decode cX11_code 42 = .ok (.getfield 431, 3) := by decide +kernel
theorem dX11_code_45 : decode cX11_code 45 = .ok (.iconst 1, 1) := by decide +kernel
theorem dX11_code_46 : decode cX11_code 46 = .ok (.iadd, 1) := by decide +kernel
theorem dX11_code_47 : decode cX11_code 47 = .ok (.putfield 431, 3) := by decide +kernel
theorem dX11_code_50 : decode cX11_code 50 = .ok (.return_, 1) := by decide +kernel
theorem dX11_operand_0 : decode cX11_operand 0 = .ok (.aload_n 0, 1) := by decide +kernel
theorem dX11_operand_1 : decode cX11_operand 1 = .ok (.ldc2_w 126, 3) := by decide +kernel
theorem dX11_operand_4 : decode cX11_operand 4 = .ok (.invokevirtual 220, 3) := by decide +kernel
theorem dX11_operand_7 : decode cX11_operand 7 = .ok (.istore_n 1, 1) := by decide +kernel
theorem dX11_operand_8 : decode cX11_operand 8 = .ok (.aload_n 0, 1) := by decide +kernel
theorem dX11_operand_9 : decode cX11_operand 9 = .ok (.bipush 40, 2) := by decide +kernel
theorem dX11_operand_11 : decode cX11_operand 11 = .ok (.invokevirtual 180, 3) := by decide +kernel
theorem dX11_operand_14 : decode cX11_operand 14 = .ok (.istore_n 2, 1) := by decide +kernel
theorem dX11_operand_15 : decode cX11_operand 15 = .ok (.aload_n 0, 1) := by decide +kernel
theorem dX11_operand_16 : decode cX11_operand 16 = .ok (.invokevirtual 443, 3) := by decide +kernel
theorem dX11_operand_19 : decode cX11_operand 19 = .ok (.istore_n 3, 1) := by decide +kernel
theorem dX11_operand_20 : decode cX11_operand 20 = .ok (.iload_n 1, 1) := by decide +kernel
theorem dX11_operand_21 : decode cX11_operand 21 = .ok (.ifCond .ne 17, 3) := by decide +kernel
theorem dX11_operand_24 : decode cX11_operand 24 = .ok (.iload_n 2, 1) := by decide +kernel
theorem dX11_operand_25 : decode cX11_operand 25 = .ok (.ifCond .ne 13, 3) := by decide +kernel
theorem dX11_operand_28 : decode cX11_operand 28 = .ok (.iload_n 3, 1) := by decide +kernel
theorem dX11_operand_29 : decode cX11_operand 29 = .ok (.ifCond .ge 9, 3) := by decide +kernel
theorem dX11_operand_32 : decode cX11_operand 32 = .ok (.aload_n 0, 1) := by decide +kernel
theorem dX11_operand_33 : decode cX11_operand 33 = .ok (.iconst 1, 1) := by decide +kernel
theorem dX11_operand_34 : decode cX11_operand 34 = .ok (.invokevirtual 183, 3) := by decide +kernel
theorem dX11_operand_37 : decode cX11_operand 37 = .ok (.ireturn, 1) := by decide +kernel
theorem dX11_operand_38 : decode cX11_operand 38 = .ok (.aload_n 0, 1) := by decide +kernel
theorem dX11_operand_39 : decode cX11_operand 39 = .ok (.getfield 446, 3) := by decide +kernel
theorem dX11_operand_42 : decode cX11_operand 42 = .ok (.bipush 20, 2) := by decide +kernel
theorem dX11_operand_44 : decode cX11_operand 44 = .ok (.if_icmp .eq 12, 3) := by decide +kernel
theorem dX11_operand_47 : decode cX11_operand 47 = .ok (.aload_n 0, 1) := by decide +kernel
theorem dX11_operand_48 : decode cX11_operand 48 = .ok (.getfield 440, 3) := by decide +kernel
theorem dX11_operand_51 : decode cX11_operand 51 = .ok (.bipush 8, 2) := by decide +kernel
theorem dX11_operand_53 : decode cX11_operand 53 = .ok (.if_icmp .le 9, 3) := by decide +kernel
theorem dX11_operand_56 : decode cX11_operand 56 = .ok (.aload_n 0, 1) := by decide +kernel
theorem dX11_operand_57 : decode cX11_operand 57 = .ok (.iconst 4, 1) := by decide +kernel
theorem dX11_operand_58 : decode cX11_operand 58 = .ok (.invokevirtual 183, 3) := by decide +kernel
theorem dX11_operand_61 : decode cX11_operand 61 = .ok (.ireturn, 1) := by decide +kernel
theorem dX11_operand_62 : decode cX11_operand 62 = .ok (.aload_n 0, 1) := by decide +kernel
theorem dX11_operand_63 : decode cX11_operand 63 = .ok (.dup, 1) := by decide +kernel
theorem dX11_operand_64 : decode cX11_operand 64 = .ok (.getfield 446, 3) := by decide +kernel
theorem dX11_operand_67 : decode cX11_operand 67 = .ok (.iconst 1, 1) := by decide +kernel
theorem dX11_operand_68 : decode cX11_operand 68 = .ok (.iadd, 1) := by decide +kernel
theorem dX11_operand_69 : decode cX11_operand 69 = .ok (.putfield 446, 3) := by decide +kernel
theorem dX11_operand_72 : decode cX11_operand 72 = .ok (.aload_n 0, 1) := by decide +kernel
theorem dX11_operand_73 : decode cX11_operand 73 = .ok (.invokevirtual 186, 3) := by decide +kernel
theorem dX11_operand_76 : decode cX11_operand 76 = .ok (.iload_n 1, 1) := by decide +kernel
theorem dX11_operand_77 : decode cX11_operand 77 = .ok (.ifCond .ne 7, 3) := by decide +kernel
theorem dX11_operand_80 : decode cX11_operand 80 = .ok (.iload_n 2, 1) := by decide +kernel
theorem dX11_operand_81 : decode cX11_operand 81 = .ok (.ifCond .eq 45, 3) := by decide +kernel
theorem dX11_operand_84 : decode cX11_operand 84 = .ok (.aload_n 0, 1) := by decide +kernel
theorem dX11_operand_85 : decode cX11_operand 85 = .ok (.getfield 80, 3) := by decide +kernel
theorem dX11_operand_88 : decode cX11_operand 88 = .ok (.aload_n 0, 1) := by decide +kernel
theorem dX11_operand_89 : decode cX11_operand 89 = .ok (.getfield 434, 3) := by decide +kernel
theorem dX11_operand_92 : decode cX11_operand 92 = .ok (.iload_n 1, 1) := by decide +kernel
theorem dX11_operand_93 : decode cX11_operand 93 = .ok (.ifCond .eq 8, 3) := by decide +kernel
theorem dX11_operand_96 : decode cX11_operand 96 = .ok (.bipush 20, 2) := by decide +kernel
theorem dX11_operand_98 : decode cX11_operand 98 = .ok (.goto 5, 3) := by decide +kernel
theorem dX11_operand_101 : decode cX11_operand 101 = .ok (.bipush 23, 2) := by decide +kernel
theorem dX11_operand_103 : decode cX11_operand 103 = .ok (.iastore, 1) := by decide +kernel
theorem dX11_operand_104 : decode cX11_operand 104 = .ok (.aload_n 0, 1) := by decide +kernel
theorem dX11_operand_105 : decode cX11_operand 105 = .ok (.dup, 1) := by decide +kernel
theorem dX11_operand_106 : decode cX11_operand 106 = .ok (.getfield 434, 3) := by decide +kernel
theorem dX11_operand_109 : decode cX11_operand 109 = .ok (.iconst 1, 1) := by decide +kernel
theorem dX11_operand_110 : decode cX11_operand 110 = .ok (.iadd, 1) := by decide +kernel
theorem dX11_operand_111 : decode cX11_operand 111 = .ok (.putfield 434, 3) := by decide +kernel
theorem dX11_operand_114 : decode cX11_operand 114 = .ok (.aload_n 0, 1) := by decide +kernel
theorem dX11_operand_115 : decode cX11_operand 115 = .ok (.dup, 1) := by decide +kernel
theorem dX11_operand_116 : decode cX11_operand 116 = .ok (.getfield 440, 3) := by decide +kernel
theorem dX11_operand_119 : decode cX11_operand 119 = .ok (.iconst 1, 1) := by decide +kernel
theorem dX11_operand_120 : decode cX11_operand 120 = .ok (.iadd, 1) := by decide +kernel
theorem dX11_operand_121 : decode cX11_operand 121 = .ok (.putfield 440, 3) := by decide +kernel
theorem dX11_operand_124 : decode cX11_operand 124 = .ok (.iconst 1, 1) := by decide +kernel
theorem dX11_operand_125 : decode cX11_operand 125 = .ok (.ireturn, 1) := by decide +kernel
theorem dX11_operand_126 : decode cX11_operand 126 = .ok (.aload_n 0, 1) := by decide +kernel
theorem dX11_operand_127 : decode cX11_operand 127 = .ok (.iconst 1, 1) := by decide +kernel
theorem dX11_operand_128 : decode cX11_operand 128 = .ok (.putfield 449, 3) := by decide +kernel
theorem dX11_operand_131 : decode cX11_operand 131 = .ok (.iload_n 3, 1) := by decide +kernel
theorem dX11_operand_132 : decode cX11_operand 132 = .ok (.iconst 4, 1) := by decide +kernel
theorem dX11_operand_133 : decode cX11_operand 133 = .ok (.if_icmp .ge 12, 3) := by decide +kernel
theorem dX11_operand_136 : decode cX11_operand 136 = .ok (.aload_n 0, 1) := by decide +kernel
theorem dX11_operand_137 : decode cX11_operand 137 = .ok (.iload_n 3, 1) := by decide +kernel
theorem dX11_operand_138 : decode cX11_operand 138 = .ok (.iconst 0, 1) := by decide +kernel
theorem dX11_operand_139 : decode cX11_operand 139 = .ok (.iconst 0, 1) := by decide +kernel
theorem dX11_operand_140 : decode cX11_operand 140 = .ok (.invokevirtual 437, 3) := by decide +kernel
theorem dX11_operand_143 : decode cX11_operand 143 = .ok (.iconst 1, 1) := by decide +kernel
theorem dX11_operand_144 : decode cX11_operand 144 = .ok (.ireturn, 1) := by decide +kernel
theorem dX11_operand_145 : decode cX11_operand 145 = .ok (.iload_n 3, 1) := by decide +kernel
theorem dX11_operand_146 : decode cX11_operand 146 = .ok (.bipush 6, 2) := by decide +kernel
theorem dX11_operand_148 : decode cX11_operand 148 = .ok (.if_icmp .ge 59, 3) := by decide +kernel
theorem dX11_operand_151 : decode cX11_operand 151 = .ok (.iload_n 3, 1) := by decide +kernel
theorem dX11_operand_152 : decode cX11_operand 152 = .ok (.iconst 4, 1) := by decide +kernel
theorem dX11_operand_153 : decode cX11_operand 153 = .ok (.if_icmp .ne 17, 3) := by decide +kernel
theorem dX11_operand_156 : decode cX11_operand 156 = .ok (.aload_n 0, 1) := by decide +kernel
theorem dX11_operand_157 : decode cX11_operand 157 = .ok (.iconst 0, 1) := by decide +kernel
theorem dX11_operand_158 : decode cX11_operand 158 = .ok (.aload_n 0, 1) := by decide +kernel
theorem dX11_operand_159 : decode cX11_operand 159 = .ok (.getfield 33, 3) := by decide +kernel
theorem dX11_operand_162 : decode cX11_operand 162 = .ok (.iconst 0, 1) := by decide +kernel
theorem dX11_operand_163 : decode cX11_operand 163 = .ok (.iaload, 1) := by decide +kernel
theorem dX11_operand_164 : decode cX11_operand 164 = .ok (.invokevirtual 208, 3) := by decide +kernel
theorem dX11_operand_167 : decode cX11_operand 167 = .ok (.goto 15, 3) := by decide +kernel
theorem dX11_operand_170 : decode cX11_operand 170 = .ok (.aload_n 0, 1) := by decide +kernel
theorem dX11_operand_171 : decode cX11_operand 171 = .ok (.bipush 7, 2) := by decide +kernel
theorem dX11_operand_173 : decode cX11_operand 173 = .ok (.aload_n 0, 1) := by decide +kernel
theorem dX11_operand_174 : decode cX11_operand 174 = .ok (.getfield 33, 3) := by decide +kernel
theorem dX11_operand_177 : decode cX11_operand 177 = .ok (.iconst 1, 1) := by decide +kernel
theorem dX11_operand_178 : decode cX11_operand 178 = .ok (.iaload, 1) := by decide +kernel
theorem dX11_operand_179 : decode cX11_operand 179 = .ok (.invokevirtual 208, 3) := by decide +kernel
theorem dX11_operand_182 : decode cX11_operand 182 = .ok (.istore 4, 2) := by decide +kernel
theorem dX11_operand_184 : decode cX11_operand 184 = .ok (.iload 4, 2) := by decide +kernel
theorem dX11_operand_186 : decode cX11_operand 186 = .ok (.ifCond .ne 5, 3) := by decide +kernel
theorem dX11_operand_189 : decode cX11_operand 189 = .ok (.iconst 0, 1) := by decide +kernel
theorem dX11_operand_190 : decode cX11_operand 190 = .ok (.ireturn, 1) := by decide +kernel
theorem dX11_operand_191 : decode cX11_operand 191 = .ok (.aload_n 0, 1) := by decide +kernel
theorem dX11_operand_192 : decode cX11_operand 192 = .ok (.iload_n 3, 1) := by decide +kernel
theorem dX11_operand_193 : decode cX11_operand 193 = .ok (.iconst 0, 1) := by decide +kernel
theorem dX11_operand_194 : decode cX11_operand 194 = .ok (.aload_n 0, 1) := by decide +kernel
theorem dX11_operand_195 : decode cX11_operand 195 = .ok (.getfield 193, 3) := by decide +kernel
theorem dX11_operand_198 : decode cX11_operand 198 = .ok (.invokevirtual 437, 3) := by decide +kernel
theorem dX11_operand_201 : decode cX11_operand 201 = .ok (.aload_n 0, 1) := by decide +kernel
theorem dX11_operand_202 : decode cX11_operand 202 = .ok (.invokevirtual 186, 3) := by decide +kernel
theorem dX11_operand_205 : decode cX11_operand 205 = .ok (.iconst 1, 1) := by decide +kernel
theorem dX11_operand_206 : decode cX11_operand 206 = .ok (.ireturn, 1) := by decide +kernel
theorem dX11_operand_207 : decode cX11_operand 207 = .ok (.aload_n 0, 1) := by decide +kernel
theorem dX11_operand_208 : decode cX11_operand 208 = .ok (.getfield 157, 3) := by decide +kernel
theorem dX11_operand_211 : decode cX11_operand 211 = .ok (.iconst 3, 1) := by decide +kernel
theorem dX11_operand_212 : decode cX11_operand 212 = .ok (.if_icmp .ne 21, 3) := by decide +kernel
theorem dX11_operand_215 : decode cX11_operand 215 = .ok (.aload_n 0, 1) := by decide +kernel
theorem dX11_operand_216 : decode cX11_operand 216 = .ok (.getfield 167, 3) := by decide +kernel
theorem dX11_operand_219 : decode cX11_operand 219 = .ok (.bipush 60, 2) := by decide +kernel
theorem dX11_operand_221 : decode cX11_operand 221 = .ok (.if_icmp .lt 12, 3) := by decide +kernel
theorem dX11_operand_224 : decode cX11_operand 224 = .ok (.aload_n 0, 1) := by decide +kernel
theorem dX11_operand_225 : decode cX11_operand 225 = .ok (.getfield 167, 3) := by decide +kernel
theorem dX11_operand_228 : decode cX11_operand 228 = .ok (.bipush 62, 2) := by decide +kernel
theorem dX11_operand_230 : decode cX11_operand 230 = .ok (.if_icmp .le 9, 3) := by decide +kernel
theorem dX11_operand_233 : decode cX11_operand 233 = .ok (.aload_n 0, 1) := by decide +kernel
theorem dX11_operand_234 : decode cX11_operand 234 = .ok (.iconst 1, 1) := by decide +kernel
theorem dX11_operand_235 : decode cX11_operand 235 = .ok (.invokevirtual 183, 3) := by decide +kernel
theorem dX11_operand_238 : decode cX11_operand 238 = .ok (.ireturn, 1) := by decide +kernel
theorem dX11_operand_239 : decode cX11_operand 239 = .ok (.aload_n 0, 1) := by decide +kernel
theorem dX11_operand_240 : decode cX11_operand 240 = .ok (.getfield 167, 3) := by decide +kernel
theorem dX11_operand_243 : decode cX11_operand 243 = .ok (.istore 4, 2) := by decide +kernel
theorem dX11_operand_245 : decode cX11_operand 245 = .ok (.aload_n 0, 1) := by decide +kernel
theorem dX11_operand_246 : decode cX11_operand 246 = .ok (.invokevirtual 186, 3) := by decide +kernel
theorem dX11_operand_249 : decode cX11_operand 249 = .ok (.aload_n 0, 1) := by decide +kernel
theorem dX11_operand_250 : decode cX11_operand 250 = .ok (.getfield 157, 3) := by decide +kernel
theorem dX11_operand_253 : decode cX11_operand 253 = .ok (.iconst 2, 1) := by decide +kernel
theorem dX11_operand_254 : decode cX11_operand 254 = .ok (.if_icmp .eq 9, 3) := by decide +kernel
theorem dX11_operand_257 : decode cX11_operand 257 = .ok (.aload_n 0, 1) := by decide +kernel
theorem dX11_operand_258 : decode cX11_operand 258 = .ok (.iconst 1, 1) := by decide +kernel
theorem dX11_operand_259 : decode cX11_operand 259 = .ok (.invokevirtual 183, 3) := by decide +kernel
theorem dX11_operand_262 : decode cX11_operand 262 = .ok (.ireturn, 1) := by decide +kernel
theorem dX11_operand_263 : decode cX11_operand 263 = .ok (.aload_n 0, 1) := by decide +kernel
theorem dX11_operand_264 : decode cX11_operand 264 = .ok (.iload_n 3, 1) := by decide +kernel
theorem dX11_operand_265 : decode cX11_operand 265 = .ok (.iload 4, 2) := by decide +kernel
theorem dX11_operand_267 : decode cX11_operand 267 = .ok (.aload_n 0, 1) := by decide +kernel
theorem dX11_operand_268 : decode cX11_operand 268 = .ok (.getfield 167, 3) := by decide +kernel
theorem dX11_operand_271 : decode cX11_operand 271 = .ok (.invokevirtual 437, 3) := by decide +kernel
theorem dX11_operand_274 : decode cX11_operand 274 = .ok (.aload_n 0, 1) := by decide +kernel
theorem dX11_operand_275 : decode cX11_operand 275 = .ok (.invokevirtual 186, 3) := by decide +kernel
theorem dX11_operand_278 : decode cX11_operand 278 = .ok (.iconst 1, 1) := by decide +kernel
theorem dX11_operand_279 : decode cX11_operand 279 = .ok (.ireturn, 1) := by decide +kernel
theorem dX11_isLeaf_0 : decode cX11_isLeaf 0 = .ok (.iload_n 2, 1) := by decide +kernel
theorem dX11_isLeaf_1 : decode cX11_isLeaf 1 = .ok (.tableswitch 106 0 5 #[39, 45, 51, 65, 71, 82], 39) := by decide +kernel
theorem dX11_isLeaf_40 : decode cX11_isLeaf 40 = .ok (.aload_n 0, 1) := by decide +kernel
theorem dX11_isLeaf_41 : decode cX11_isLeaf 41 = .ok (.iload_n 1, 1) := by decide +kernel
theorem dX11_isLeaf_42 : decode cX11_isLeaf 42 = .ok (.invokevirtual 290, 3) := by decide +kernel
theorem dX11_isLeaf_45 : decode cX11_isLeaf 45 = .ok (.ireturn, 1) := by decide +kernel
theorem dX11_isLeaf_46 : decode cX11_isLeaf 46 = .ok (.aload_n 0, 1) := by decide +kernel
theorem dX11_isLeaf_47 : decode cX11_isLeaf 47 = .ok (.iload_n 1, 1) := by decide +kernel
theorem dX11_isLeaf_48 : decode cX11_isLeaf 48 = .ok (.invokevirtual 293, 3) := by decide +kernel
theorem dX11_isLeaf_51 : decode cX11_isLeaf 51 = .ok (.ireturn, 1) := by decide +kernel
theorem dX11_isLeaf_52 : decode cX11_isLeaf 52 = .ok (.aload_n 0, 1) := by decide +kernel
theorem dX11_isLeaf_53 : decode cX11_isLeaf 53 = .ok (.iload_n 1, 1) := by decide +kernel
theorem dX11_isLeaf_54 : decode cX11_isLeaf 54 = .ok (.invokevirtual 269, 3) := by decide +kernel
theorem dX11_isLeaf_57 : decode cX11_isLeaf 57 = .ok (.ifCond .ne 7, 3) := by decide +kernel
theorem dX11_isLeaf_60 : decode cX11_isLeaf 60 = .ok (.iconst 1, 1) := by decide +kernel
theorem dX11_isLeaf_61 : decode cX11_isLeaf 61 = .ok (.goto 4, 3) := by decide +kernel
theorem dX11_isLeaf_64 : decode cX11_isLeaf 64 = .ok (.iconst 0, 1) := by decide +kernel
theorem dX11_isLeaf_65 : decode cX11_isLeaf 65 = .ok (.ireturn, 1) := by decide +kernel
theorem dX11_isLeaf_66 : decode cX11_isLeaf 66 = .ok (.aload_n 0, 1) := by decide +kernel
theorem dX11_isLeaf_67 : decode cX11_isLeaf 67 = .ok (.iload_n 1, 1) := by decide +kernel
theorem dX11_isLeaf_68 : decode cX11_isLeaf 68 = .ok (.invokevirtual 464, 3) := by decide +kernel
theorem dX11_isLeaf_71 : decode cX11_isLeaf 71 = .ok (.ireturn, 1) := by decide +kernel
theorem dX11_isLeaf_72 : decode cX11_isLeaf 72 = .ok (.aload_n 0, 1) := by decide +kernel
theorem dX11_isLeaf_73 : decode cX11_isLeaf 73 = .ok (.iload_n 1, 1) := by decide +kernel
theorem dX11_isLeaf_74 : decode cX11_isLeaf 74 = .ok (.invokevirtual 265, 3) := by decide +kernel
theorem dX11_isLeaf_77 : decode cX11_isLeaf 77 = .ok (.iload 4, 2) := by decide +kernel
theorem dX11_isLeaf_79 : decode cX11_isLeaf 79 = .ok (.invokestatic 214, 3) := by decide +kernel
theorem dX11_isLeaf_82 : decode cX11_isLeaf 82 = .ok (.ireturn, 1) := by decide +kernel
theorem dX11_isLeaf_83 : decode cX11_isLeaf 83 = .ok (.aload_n 0, 1) := by decide +kernel
theorem dX11_isLeaf_84 : decode cX11_isLeaf 84 = .ok (.getfield 33, 3) := by decide +kernel
theorem dX11_isLeaf_87 : decode cX11_isLeaf 87 = .ok (.sipush 178, 3) := by decide +kernel
theorem dX11_isLeaf_90 : decode cX11_isLeaf 90 = .ok (.iconst 5, 1) := by decide +kernel
theorem dX11_isLeaf_91 : decode cX11_isLeaf 91 = .ok (.iload_n 1, 1) := by decide +kernel
theorem dX11_isLeaf_92 : decode cX11_isLeaf 92 = .ok (.imul, 1) := by decide +kernel
theorem dX11_isLeaf_93 : decode cX11_isLeaf 93 = .ok (.iadd, 1) := by decide +kernel
theorem dX11_isLeaf_94 : decode cX11_isLeaf 94 = .ok (.iload 4, 2) := by decide +kernel
theorem dX11_isLeaf_96 : decode cX11_isLeaf 96 = .ok (.iadd, 1) := by decide +kernel
theorem dX11_isLeaf_97 : decode cX11_isLeaf 97 = .ok (.iaload, 1) := by decide +kernel
theorem dX11_isLeaf_98 : decode cX11_isLeaf 98 = .ok (.ifCond .le 7, 3) := by decide +kernel
theorem dX11_isLeaf_101 : decode cX11_isLeaf 101 = .ok (.iconst 1, 1) := by decide +kernel
theorem dX11_isLeaf_102 : decode cX11_isLeaf 102 = .ok (.goto 4, 3) := by decide +kernel
theorem dX11_isLeaf_105 : decode cX11_isLeaf 105 = .ok (.iconst 0, 1) := by decide +kernel
theorem dX11_isLeaf_106 : decode cX11_isLeaf 106 = .ok (.ireturn, 1) := by decide +kernel
theorem dX11_isLeaf_107 : decode cX11_isLeaf 107 = .ok (.iload_n 2, 1) := by decide +kernel
theorem dX11_isLeaf_108 : decode cX11_isLeaf 108 = .ok (.bipush 6, 2) := by decide +kernel
theorem dX11_isLeaf_110 : decode cX11_isLeaf 110 = .ok (.if_icmp .ne 16, 3) := by decide +kernel
theorem dX11_isLeaf_113 : decode cX11_isLeaf 113 = .ok (.aload_n 0, 1) := by decide +kernel
theorem dX11_isLeaf_114 : decode cX11_isLeaf 114 = .ok (.getfield 33, 3) := by decide +kernel
theorem dX11_isLeaf_117 : decode cX11_isLeaf 117 = .ok (.sipush 136, 3) := by decide +kernel
theorem dX11_isLeaf_120 : decode cX11_isLeaf 120 = .ok (.iload_n 1, 1) := by decide +kernel
theorem dX11_isLeaf_121 : decode cX11_isLeaf 121 = .ok (.iadd, 1) := by decide +kernel
theorem dX11_isLeaf_122 : decode cX11_isLeaf 122 = .ok (.iaload, 1) := by decide +kernel
theorem dX11_isLeaf_123 : decode cX11_isLeaf 123 = .ok (.goto 40, 3) := by decide +kernel
theorem dX11_isLeaf_126 : decode cX11_isLeaf 126 = .ok (.iload_n 2, 1) := by decide +kernel
theorem dX11_isLeaf_127 : decode cX11_isLeaf 127 = .ok (.bipush 7, 2) := by decide +kernel
theorem dX11_isLeaf_129 : decode cX11_isLeaf 129 = .ok (.if_icmp .ne 14, 3) := by decide +kernel
theorem dX11_isLeaf_132 : decode cX11_isLeaf 132 = .ok (.aload_n 0, 1) := by decide +kernel
theorem dX11_isLeaf_133 : decode cX11_isLeaf 133 = .ok (.iload_n 1, 1) := by decide +kernel
theorem dX11_isLeaf_134 : decode cX11_isLeaf 134 = .ok (.invokevirtual 265, 3) := by decide +kernel
theorem dX11_isLeaf_137 : decode cX11_isLeaf 137 = .ok (.invokestatic 284, 3) := by decide +kernel
theorem dX11_isLeaf_140 : decode cX11_isLeaf 140 = .ok (.goto 23, 3) := by decide +kernel
theorem dX11_isLeaf_143 : decode cX11_isLeaf 143 = .ok (.iload_n 2, 1) := by decide +kernel
theorem dX11_isLeaf_144 : decode cX11_isLeaf 144 = .ok (.bipush 8, 2) := by decide +kernel
theorem dX11_isLeaf_146 : decode cX11_isLeaf 146 = .ok (.if_icmp .ne 16, 3) := by decide +kernel
theorem dX11_isLeaf_149 : decode cX11_isLeaf 149 = .ok (.aload_n 0, 1) := by decide +kernel
theorem dX11_isLeaf_150 : decode cX11_isLeaf 150 = .ok (.getfield 33, 3) := by decide +kernel
theorem dX11_isLeaf_153 : decode cX11_isLeaf 153 = .ok (.sipush 213, 3) := by decide +kernel
theorem dX11_isLeaf_156 : decode cX11_isLeaf 156 = .ok (.iload_n 1, 1) := by decide +kernel
theorem dX11_isLeaf_157 : decode cX11_isLeaf 157 = .ok (.iadd, 1) := by decide +kernel
theorem dX11_isLeaf_158 : decode cX11_isLeaf 158 = .ok (.iaload, 1) := by decide +kernel
theorem dX11_isLeaf_159 : decode cX11_isLeaf 159 = .ok (.goto 4, 3) := by decide +kernel
theorem dX11_isLeaf_162 : decode cX11_isLeaf 162 = .ok (.iload_n 1, 1) := by decide +kernel
theorem dX11_isLeaf_163 : decode cX11_isLeaf 163 = .ok (.istore 5, 2) := by decide +kernel
theorem dX11_isLeaf_165 : decode cX11_isLeaf 165 = .ok (.iload_n 3, 1) := by decide +kernel
theorem dX11_isLeaf_166 : decode cX11_isLeaf 166 = .ok (.bipush 60, 2) := by decide +kernel
theorem dX11_isLeaf_168 : decode cX11_isLeaf 168 = .ok (.if_icmp .ne 18, 3) := by decide +kernel
theorem dX11_isLeaf_171 : decode cX11_isLeaf 171 = .ok (.iload 5, 2) := by decide +kernel
theorem dX11_isLeaf_173 : decode cX11_isLeaf 173 = .ok (.iload 4, 2) := by decide +kernel
theorem dX11_isLeaf_175 : decode cX11_isLeaf 175 = .ok (.if_icmp .ge 7, 3) := by decide +kernel
theorem dX11_isLeaf_178 : decode cX11_isLeaf 178 = .ok (.iconst 1, 1) := by decide +kernel
theorem dX11_isLeaf_179 : decode cX11_isLeaf 179 = .ok (.goto 40, 3) := by decide +kernel
theorem dX11_isLeaf_182 : decode cX11_isLeaf 182 = .ok (.iconst 0, 1) := by decide +kernel
theorem dX11_isLeaf_183 : decode cX11_isLeaf 183 = .ok (.goto 36, 3) := by decide +kernel
theorem dX11_isLeaf_186 : decode cX11_isLeaf 186 = .ok (.iload_n 3, 1) := by decide +kernel
theorem dX11_isLeaf_187 : decode cX11_isLeaf 187 = .ok (.bipush 61, 2) := by decide +kernel
theorem dX11_isLeaf_189 : decode cX11_isLeaf 189 = .ok (.if_icmp .ne 18, 3) := by decide +kernel
theorem dX11_isLeaf_192 : decode cX11_isLeaf 192 = .ok (.iload 5, 2) := by decide +kernel
theorem dX11_isLeaf_194 : decode cX11_isLeaf 194 = .ok (.iload 4, 2) := by decide +kernel
theorem dX11_isLeaf_196 : decode cX11_isLeaf 196 = .ok (.if_icmp .ne 7, 3) := by decide +kernel
theorem dX11_isLeaf_199 : decode cX11_isLeaf 199 = .ok (.iconst 1, 1) := by decide +kernel
theorem dX11_isLeaf_200 : decode cX11_isLeaf 200 = .ok (.goto 19, 3) := by decide +kernel
theorem dX11_isLeaf_203 : decode cX11_isLeaf 203 = .ok (.iconst 0, 1) := by decide +kernel
theorem dX11_isLeaf_204 : decode cX11_isLeaf 204 = .ok (.goto 15, 3) := by decide +kernel
theorem dX11_isLeaf_207 : decode cX11_isLeaf 207 = .ok (.iload 5, 2) := by decide +kernel
theorem dX11_isLeaf_209 : decode cX11_isLeaf 209 = .ok (.iload 4, 2) := by decide +kernel
theorem dX11_isLeaf_211 : decode cX11_isLeaf 211 = .ok (.if_icmp .le 7, 3) := by decide +kernel
theorem dX11_isLeaf_214 : decode cX11_isLeaf 214 = .ok (.iconst 1, 1) := by decide +kernel
theorem dX11_isLeaf_215 : decode cX11_isLeaf 215 = .ok (.goto 4, 3) := by decide +kernel
theorem dX11_isLeaf_218 : decode cX11_isLeaf 218 = .ok (.iconst 0, 1) := by decide +kernel
theorem dX11_isLeaf_219 : decode cX11_isLeaf 219 = .ok (.ireturn, 1) := by decide +kernel
theorem dX11_restore_0 : decode cX11_restore 0 = .ok (.aload_n 0, 1) := by decide +kernel
theorem dX11_restore_1 : decode cX11_restore 1 = .ok (.iconst 0, 1) := by decide +kernel
theorem dX11_restore_2 : decode cX11_restore 2 = .ok (.putfield 1, 3) := by decide +kernel
theorem dX11_restore_5 : decode cX11_restore 5 = .ok (.iload_n 1, 1) := by decide +kernel
theorem dX11_restore_6 : decode cX11_restore 6 = .ok (.iconst 0, 1) := by decide +kernel
theorem dX11_restore_7 : decode cX11_restore 7 = .ok (.iconst 1, 1) := by decide +kernel
theorem dX11_restore_8 : decode cX11_restore 8 = .ok (.invokestatic 189, 3) := by decide +kernel
theorem dX11_restore_11 : decode cX11_restore 11 = .ok (.ifCond .eq 12, 3) := by decide +kernel
theorem dX11_restore_14 : decode cX11_restore 14 = .ok (.aload_n 0, 1) := by decide +kernel
theorem dX11_restore_15 : decode cX11_restore 15 = .ok (.getfield 93, 3) := by decide +kernel
theorem dX11_restore_18 : decode cX11_restore 18 = .ok (.iload_n 1, 1) := by decide +kernel
theorem dX11_restore_19 : decode cX11_restore 19 = .ok (.baload, 1) := by decide +kernel
theorem dX11_restore_20 : decode cX11_restore 20 = .ok (.ifCond .ne 5, 3) := by decide +kernel
theorem dX11_restore_23 : decode cX11_restore 23 = .ok (.iconst 0, 1) := by decide +kernel
theorem dX11_restore_24 : decode cX11_restore 24 = .ok (.ireturn, 1) := by decide +kernel
theorem dX11_restore_25 : decode cX11_restore 25 = .ok (.iconst 0, 1) := by decide +kernel
theorem dX11_restore_26 : decode cX11_restore 26 = .ok (.istore_n 2, 1) := by decide +kernel
theorem dX11_restore_27 : decode cX11_restore 27 = .ok (.iload_n 2, 1) := by decide +kernel
theorem dX11_restore_28 : decode cX11_restore 28 = .ok (.sipush 457, 3) := by decide +kernel
theorem dX11_restore_31 : decode cX11_restore 31 = .ok (.if_icmp .ge 27, 3) := by decide +kernel
theorem dX11_restore_34 : decode cX11_restore 34 = .ok (.aload_n 0, 1) := by decide +kernel
theorem dX11_restore_35 : decode cX11_restore 35 = .ok (.getfield 33, 3) := by decide +kernel
theorem dX11_restore_38 : decode cX11_restore 38 = .ok (.iload_n 2, 1) := by decide +kernel
theorem dX11_restore_39 : decode cX11_restore 39 = .ok (.aload_n 0, 1) := by decide +kernel
theorem dX11_restore_40 : decode cX11_restore 40 = .ok (.getfield 87, 3) := by decide +kernel
theorem dX11_restore_43 : decode cX11_restore 43 = .ok (.sipush 457, 3) := by decide +kernel
theorem dX11_restore_46 : decode cX11_restore 46 = .ok (.iload_n 1, 1) := by decide +kernel
theorem dX11_restore_47 : decode cX11_restore 47 = .ok (.imul, 1) := by decide +kernel
theorem dX11_restore_48 : decode cX11_restore 48 = .ok (.iload_n 2, 1) := by decide +kernel
theorem dX11_restore_49 : decode cX11_restore 49 = .ok (.iadd, 1) := by decide +kernel
theorem dX11_restore_50 : decode cX11_restore 50 = .ok (.iaload, 1) := by decide +kernel
theorem dX11_restore_51 : decode cX11_restore 51 = .ok (.iastore, 1) := by decide +kernel
theorem dX11_restore_52 : decode cX11_restore 52 = .ok (.iinc 2 1, 3) := by decide +kernel
theorem dX11_restore_55 : decode cX11_restore 55 = .ok (.goto (-28), 3) := by decide +kernel
theorem dX11_restore_58 : decode cX11_restore 58 = .ok (.iconst 0, 1) := by decide +kernel
theorem dX11_restore_59 : decode cX11_restore 59 = .ok (.istore_n 2, 1) := by decide +kernel
theorem dX11_restore_60 : decode cX11_restore 60 = .ok (.iload_n 2, 1) := by decide +kernel
theorem dX11_restore_61 : decode cX11_restore 61 = .ok (.bipush 12, 2) := by decide +kernel
theorem dX11_restore_63 : decode cX11_restore 63 = .ok (.if_icmp .ge 26, 3) := by decide +kernel
theorem dX11_restore_66 : decode cX11_restore 66 = .ok (.aload_n 0, 1) := by decide +kernel
theorem dX11_restore_67 : decode cX11_restore 67 = .ok (.getfield 43, 3) := by decide +kernel
theorem dX11_restore_70 : decode cX11_restore 70 = .ok (.iload_n 2, 1) := by decide +kernel
theorem dX11_restore_71 : decode cX11_restore 71 = .ok (.aload_n 0, 1) := by decide +kernel
theorem dX11_restore_72 : decode cX11_restore 72 = .ok (.getfield 90, 3) := by decide +kernel
theorem dX11_restore_75 : decode cX11_restore 75 = .ok (.bipush 12, 2) := by decide +kernel
theorem dX11_restore_77 : decode cX11_restore 77 = .ok (.iload_n 1, 1) := by decide +kernel
theorem dX11_restore_78 : decode cX11_restore 78 = .ok (.imul, 1) := by decide +kernel
theorem dX11_restore_79 : decode cX11_restore 79 = .ok (.iload_n 2, 1) := by decide +kernel
theorem dX11_restore_80 : decode cX11_restore 80 = .ok (.iadd, 1) := by decide +kernel
theorem dX11_restore_81 : decode cX11_restore 81 = .ok (.laload, 1) := by decide +kernel
theorem dX11_restore_82 : decode cX11_restore 82 = .ok (.lastore, 1) := by decide +kernel
theorem dX11_restore_83 : decode cX11_restore 83 = .ok (.iinc 2 1, 3) := by decide +kernel
theorem dX11_restore_86 : decode cX11_restore 86 = .ok (.goto (-26), 3) := by decide +kernel
theorem dX11_restore_89 : decode cX11_restore 89 = .ok (.aload_n 0, 1) := by decide +kernel
theorem dX11_restore_90 : decode cX11_restore 90 = .ok (.iconst 0, 1) := by decide +kernel
theorem dX11_restore_91 : decode cX11_restore 91 = .ok (.putfield 262, 3) := by decide +kernel
theorem dX11_restore_94 : decode cX11_restore 94 = .ok (.iconst 1, 1) := by decide +kernel
theorem dX11_restore_95 : decode cX11_restore 95 = .ok (.ireturn, 1) := by decide +kernel
