theorem dX10_thrown_0 : decode cX10_thrown 0 = .ok (.aload_n 0, 1) := by decide +kernel
theorem dX10_thrown_1 : decode cX10_thrown 1 = .ok (.getfield 1, 3) := by decide +kernel
theorem dX10_thrown_4 : decode cX10_thrown 4 = .ok (.ireturn, 1) := by decide +kernel
theorem dX10_may_0 : decode cX10_may 0 = .ok (.iload_n 1, 1) := by decide +kernel
theorem dX10_may_1 : decode cX10_may 1 = .ok (.ifCond .ne 15, 3) := by decide +kernel
theorem dX10_may_4 : decode cX10_may 4 = .ok (.aload_n 0, 1) := by decide +kernel
theorem dX10_may_5 : decode cX10_may 5 = .ok (.getfield 1, 3) := by decide +kernel
theorem dX10_may_8 : decode cX10_may 8 = .ok (.ifCond .ne 8, 3) := by decide +kernel
theorem dX10_may_11 : decode cX10_may 11 = .ok (.aload_n 0, 1) := by decide +kernel
theorem dX10_may_12 : decode cX10_may 12 = .ok (.iload_n 2, 1) := by decide +kernel
theorem dX10_may_13 : decode cX10_may 13 = .ok (.putfield 1, 3) := by decide +kernel
theorem dX10_may_16 : decode cX10_may 16 = .ok (.aload_n 0, 1) := by decide +kernel
theorem dX10_may_17 : decode cX10_may 17 = .ok (.getfield 1, 3) := by decide +kernel
theorem dX10_may_20 : decode cX10_may 20 = .ok (.ifCond .ne 7, 3) := by decide +kernel
theorem dX10_may_23 : decode cX10_may 23 = .ok (.iconst 1, 1) := by decide +kernel
theorem dX10_may_24 : decode cX10_may 24 = .ok (.goto 4, 3) := by decide +kernel
theorem dX10_may_27 : decode cX10_may 27 = .ok (.iconst 0, 1) := by decide +kernel
theorem dX10_may_28 : decode cX10_may 28 = .ok (.ireturn, 1) := by decide +kernel
theorem dX10_init_0 : decode cX10_init 0 = .ok (.aload_n 0, 1) := by decide +kernel
theorem dX10_init_1 : decode cX10_init 1 = .ok (.invokespecial 7, 3) := by decide +kernel
theorem dX10_init_4 : decode cX10_init 4 = .ok (.aload_n 0, 1) := by decide +kernel
theorem dX10_init_5 : decode cX10_init 5 = .ok (.bipush 8, 2) := by decide +kernel
theorem dX10_init_7 : decode cX10_init 7 = .ok (.newarray .int, 2) := by decide +kernel
theorem dX10_init_9 : decode cX10_init 9 = .ok (.putfield 13, 3) := by decide +kernel
theorem dX10_init_12 : decode cX10_init 12 = .ok (.aload_n 0, 1) := by decide +kernel
theorem dX10_init_13 : decode cX10_init 13 = .ok (.sipush 160, 3) := by decide +kernel
theorem dX10_init_16 : decode cX10_init 16 = .ok (.newarray .int, 2) := by decide +kernel
theorem dX10_init_18 : decode cX10_init 18 = .ok (.putfield 17, 3) := by decide +kernel
theorem dX10_init_21 : decode cX10_init 21 = .ok (.aload_n 0, 1) := by decide +kernel
theorem dX10_init_22 : decode cX10_init 22 = .ok (.sipush 4800, 3) := by decide +kernel
theorem dX10_init_25 : decode cX10_init 25 = .ok (.newarray .long, 2) := by decide +kernel
theorem dX10_init_27 : decode cX10_init 27 = .ok (.putfield 20, 3) := by decide +kernel
theorem dX10_init_30 : decode cX10_init 30 = .ok (.aload_n 0, 1) := by decide +kernel
theorem dX10_init_31 : decode cX10_init 31 = .ok (.bipush 30, 2) := by decide +kernel
theorem dX10_init_33 : decode cX10_init 33 = .ok (.newarray .long, 2) := by decide +kernel
theorem dX10_init_35 : decode cX10_init 35 = .ok (.putfield 24, 3) := by decide +kernel
theorem dX10_init_38 : decode cX10_init 38 = .ok (.aload_n 0, 1) := by decide +kernel
theorem dX10_init_39 : decode cX10_init 39 = .ok (.bipush 101, 2) := by decide +kernel
theorem dX10_init_41 : decode cX10_init 41 = .ok (.newarray .int, 2) := by decide +kernel
theorem dX10_init_43 : decode cX10_init 43 = .ok (.putfield 27, 3) := by decide +kernel
theorem dX10_init_46 : decode cX10_init 46 = .ok (.aload_n 0, 1) := by decide +kernel
theorem dX10_init_47 : decode cX10_init 47 = .ok (.bipush 101, 2) := by decide +kernel
theorem dX10_init_49 : decode cX10_init 49 = .ok (.newarray .int, 2) := by decide +kernel
theorem dX10_init_51 : decode cX10_init 51 = .ok (.putfield 30, 3) := by decide +kernel
theorem dX10_init_54 : decode cX10_init 54 = .ok (.aload_n 0, 1) := by decide +kernel
theorem dX10_init_55 : decode cX10_init 55 = .ok (.bipush 101, 2) := by decide +kernel
theorem dX10_init_57 : decode cX10_init 57 = .ok (.newarray .int, 2) := by decide +kernel
theorem dX10_init_59 : decode cX10_init 59 = .ok (.putfield 33, 3) := by decide +kernel
theorem dX10_init_62 : decode cX10_init 62 = .ok (.aload_n 0, 1) := by decide +kernel
theorem dX10_init_63 : decode cX10_init 63 = .ok (.sipush 909, 3) := by decide +kernel
theorem dX10_init_66 : decode cX10_init 66 = .ok (.newarray .int, 2) := by decide +kernel
theorem dX10_init_68 : decode cX10_init 68 = .ok (.putfield 36, 3) := by decide +kernel
theorem dX10_init_71 : decode cX10_init 71 = .ok (.aload_n 0, 1) := by decide +kernel
theorem dX10_init_72 : decode cX10_init 72 = .ok (.bipush 101, 2) := by decide +kernel
theorem dX10_init_74 : decode cX10_init 74 = .ok (.newarray .boolean, 2) := by decide +kernel
theorem dX10_init_76 : decode cX10_init 76 = .ok (.putfield 39, 3) := by decide +kernel
theorem dX10_init_79 : decode cX10_init 79 = .ok (.aload_n 0, 1) := by decide +kernel
theorem dX10_init_80 : decode cX10_init 80 = .ok (.iconst 1, 1) := by decide +kernel
theorem dX10_init_81 : decode cX10_init 81 = .ok (.putfield 43, 3) := by decide +kernel
theorem dX10_init_84 : decode cX10_init 84 = .ok (.aload_n 0, 1) := by decide +kernel
theorem dX10_init_85 : decode cX10_init 85 = .ok (.iconst 3, 1) := by decide +kernel
theorem dX10_init_86 : decode cX10_init 86 = .ok (.newarray .long, 2) := by decide +kernel
theorem dX10_init_88 : decode cX10_init 88 = .ok (.putfield 46, 3) := by decide +kernel
theorem dX10_init_91 : decode cX10_init 91 = .ok (.aload_n 0, 1) := by decide +kernel
theorem dX10_init_92 : decode cX10_init 92 = .ok (.iconst 3, 1) := by decide +kernel
theorem dX10_init_93 : decode cX10_init 93 = .ok (.newarray .long, 2) := by decide +kernel
theorem dX10_init_95 : decode cX10_init 95 = .ok (.putfield 49, 3) := by decide +kernel
theorem dX10_init_98 : decode cX10_init 98 = .ok (.aload_n 0, 1) := by decide +kernel
theorem dX10_init_99 : decode cX10_init 99 = .ok (.iconst 3, 1) := by decide +kernel
theorem dX10_init_100 : decode cX10_init 100 = .ok (.newarray .long, 2) := by decide +kernel
theorem dX10_init_102 : decode cX10_init 102 = .ok (.putfield 52, 3) := by decide +kernel
theorem dX10_init_105 : decode cX10_init 105 = .ok (.aload_n 0, 1) := by decide +kernel
theorem dX10_init_106 : decode cX10_init 106 = .ok (.iconst 3, 1) := by decide +kernel
theorem dX10_init_107 : decode cX10_init 107 = .ok (.newarray .long, 2) := by decide +kernel
theorem dX10_init_109 : decode cX10_init 109 = .ok (.putfield 55, 3) := by decide +kernel
theorem dX10_init_112 : decode cX10_init 112 = .ok (.aload_n 0, 1) := by decide +kernel
theorem dX10_init_113 : decode cX10_init 113 = .ok (.bipush 8, 2) := by decide +kernel
theorem dX10_init_115 : decode cX10_init 115 = .ok (.newarray .int, 2) := by decide +kernel
theorem dX10_init_117 : decode cX10_init 117 = .ok (.putfield 58, 3) := by decide +kernel
theorem dX10_init_120 : decode cX10_init 120 = .ok (.aload_n 0, 1) := by decide +kernel
theorem dX10_init_121 : decode cX10_init 121 = .ok (.bipush 8, 2) := by decide +kernel
theorem dX10_init_123 : decode cX10_init 123 = .ok (.newarray .int, 2) := by decide +kernel
theorem dX10_init_125 : decode cX10_init 125 = .ok (.putfield 61, 3) := by decide +kernel
theorem dX10_init_128 : decode cX10_init 128 = .ok (.aload_n 0, 1) := by decide +kernel
theorem dX10_init_129 : decode cX10_init 129 = .ok (.bipush 72, 2) := by decide +kernel
theorem dX10_init_131 : decode cX10_init 131 = .ok (.newarray .int, 2) := by decide +kernel
theorem dX10_init_133 : decode cX10_init 133 = .ok (.putfield 64, 3) := by decide +kernel
theorem dX10_init_136 : decode cX10_init 136 = .ok (.aload_n 0, 1) := by decide +kernel
theorem dX10_init_137 : decode cX10_init 137 = .ok (.bipush 9, 2) := by decide +kernel
theorem dX10_init_139 : decode cX10_init 139 = .ok (.newarray .int, 2) := by decide +kernel
theorem dX10_init_141 : decode cX10_init 141 = .ok (.putfield 67, 3) := by decide +kernel
theorem dX10_init_144 : decode cX10_init 144 = .ok (.aload_n 0, 1) := by decide +kernel
theorem dX10_init_145 : decode cX10_init 145 = .ok (.iconst 3, 1) := by decide +kernel
theorem dX10_init_146 : decode cX10_init 146 = .ok (.newarray .long, 2) := by decide +kernel
theorem dX10_init_148 : decode cX10_init 148 = .ok (.putfield 70, 3) := by decide +kernel
theorem dX10_init_151 : decode cX10_init 151 = .ok (.aload_n 0, 1) := by decide +kernel
theorem dX10_init_152 : decode cX10_init 152 = .ok (.iconst 3, 1) := by decide +kernel
theorem dX10_init_153 : decode cX10_init 153 = .ok (.newarray .long, 2) := by decide +kernel
theorem dX10_init_155 : decode cX10_init 155 = .ok (.putfield 73, 3) := by decide +kernel
theorem dX10_init_158 : decode cX10_init 158 = .ok (.aload_n 0, 1) := by decide +kernel
theorem dX10_init_159 : decode cX10_init 159 = .ok (.iconst 3, 1) := by decide +kernel
theorem dX10_init_160 : decode cX10_init 160 = .ok (.newarray .long, 2) := by decide +kernel
theorem dX10_init_162 : decode cX10_init 162 = .ok (.putfield 76, 3) := by decide +kernel
theorem dX10_init_165 : decode cX10_init 165 = .ok (.aload_n 0, 1) := by decide +kernel
theorem dX10_init_166 : decode cX10_init 166 = .ok (.sipush 200, 3) := by decide +kernel
theorem dX10_init_169 : decode cX10_init 169 = .ok (.newarray .int, 2) := by decide +kernel
theorem dX10_init_171 : decode cX10_init 171 = .ok (.putfield 79, 3) := by decide +kernel
theorem dX10_init_174 : decode cX10_init 174 = .ok (.aload_n 0, 1) := by decide +kernel
theorem dX10_init_175 : decode cX10_init 175 = .ok (.sipush 200, 3) := by decide +kernel
theorem dX10_init_178 : decode cX10_init 178 = .ok (.newarray .int, 2) := by decide +kernel
theorem dX10_init_180 : decode cX10_init 180 = .ok (.putfield 82, 3) := by decide +kernel
theorem dX10_init_183 : decode cX10_init 183 = .ok (.aload_n 0, 1) := by decide +kernel
theorem dX10_init_184 : decode cX10_init 184 = .ok (.sipush 200, 3) := by decide +kernel
theorem dX10_init_187 : decode cX10_init 187 = .ok (.newarray .int, 2) := by decide +kernel
theorem dX10_init_189 : decode cX10_init 189 = .ok (.putfield 85, 3) := by decide +kernel
theorem dX10_init_192 : decode cX10_init 192 = .ok (.aload_n 0, 1) := by decide +kernel
theorem dX10_init_193 : decode cX10_init 193 = .ok (.sipush 200, 3) := by decide +kernel
theorem dX10_init_196 : decode cX10_init 196 = .ok (.newarray .long, 2) := by decide +kernel
theorem dX10_init_198 : decode cX10_init 198 = .ok (.putfield 88, 3) := by decide +kernel
theorem dX10_init_201 : decode cX10_init 201 = .ok (.aload_n 0, 1) := by decide +kernel
theorem dX10_init_202 : decode cX10_init 202 = .ok (.sipush 200, 3) := by decide +kernel
theorem dX10_init_205 : decode cX10_init 205 = .ok (.newarray .long, 2) := by decide +kernel
theorem dX10_init_207 : decode cX10_init 207 = .ok (.putfield 91, 3) := by decide +kernel
theorem dX10_init_210 : decode cX10_init 210 = .ok (.aload_n 0, 1) := by decide +kernel
theorem dX10_init_211 : decode cX10_init 211 = .ok (.sipush 200, 3) := by decide +kernel
theorem dX10_init_214 : decode cX10_init 214 = .ok (.newarray .long, 2) := by decide +kernel
theorem dX10_init_216 : decode cX10_init 216 = .ok (.putfield 94, 3) := by decide +kernel
theorem dX10_init_219 : decode cX10_init 219 = .ok (.aload_n 0, 1) := by decide +kernel
theorem dX10_init_220 : decode cX10_init 220 = .ok (.sipush 200, 3) := by decide +kernel
theorem dX10_init_223 : decode cX10_init 223 = .ok (.newarray .long, 2) := by decide +kernel
theorem dX10_init_225 : decode cX10_init 225 = .ok (.putfield 97, 3) := by decide +kernel
theorem dX10_init_228 : decode cX10_init 228 = .ok (.aload_n 0, 1) := by decide +kernel
theorem dX10_init_229 : decode cX10_init 229 = .ok (.bipush 100, 2) := by decide +kernel
theorem dX10_init_231 : decode cX10_init 231 = .ok (.newarray .int, 2) := by decide +kernel
theorem dX10_init_233 : decode cX10_init 233 = .ok (.putfield 100, 3) := by decide +kernel
theorem dX10_init_236 : decode cX10_init 236 = .ok (.aload_n 0, 1) := by decide +kernel
theorem dX10_init_237 : decode cX10_init 237 = .ok (.sipush 10000, 3) := by decide +kernel
theorem dX10_init_240 : decode cX10_init 240 = .ok (.newarray .boolean, 2) := by decide +kernel
theorem dX10_init_242 : decode cX10_init 242 = .ok (.putfield 103, 3) := by decide +kernel
theorem dX10_init_245 : decode cX10_init 245 = .ok (.aload_n 0, 1) := by decide +kernel
theorem dX10_init_246 : decode cX10_init 246 = .ok (.sipush 10000, 3) := by decide +kernel
theorem dX10_init_249 : decode cX10_init 249 = .ok (.newarray .boolean, 2) := by decide +kernel
theorem dX10_init_251 : decode cX10_init 251 = .ok (.putfield 106, 3) := by decide +kernel
theorem dX10_init_254 : decode cX10_init 254 = .ok (.aload_n 0, 1) := by decide +kernel
theorem dX10_init_255 : decode cX10_init 255 = .ok (.bipush 101, 2) := by decide +kernel
theorem dX10_init_257 : decode cX10_init 257 = .ok (.newarray .boolean, 2) := by decide +kernel
theorem dX10_init_259 : decode cX10_init 259 = .ok (.putfield 109, 3) := by decide +kernel
theorem dX10_init_262 : decode cX10_init 262 = .ok (.aload_n 0, 1) := by decide +kernel
theorem dX10_init_263 : decode cX10_init 263 = .ok (.bipush 40, 2) := by decide +kernel
theorem dX10_init_265 : decode cX10_init 265 = .ok (.newarray .int, 2) := by decide +kernel
theorem dX10_init_267 : decode cX10_init 267 = .ok (.putfield 112, 3) := by decide +kernel
theorem dX10_init_270 : decode cX10_init 270 = .ok (.aload_n 0, 1) := by decide +kernel
theorem dX10_init_271 : decode cX10_init 271 = .ok (.bipush 101, 2) := by decide +kernel
theorem dX10_init_273 : decode cX10_init 273 = .ok (.newarray .int, 2) := by decide +kernel
theorem dX10_init_275 : decode cX10_init 275 = .ok (.putfield 115, 3) := by decide +kernel
theorem dX10_init_278 : decode cX10_init 278 = .ok (.aload_n 0, 1) := by decide +kernel
theorem dX10_init_279 : decode cX10_init 279 = .ok (.bipush 101, 2) := by decide +kernel
theorem dX10_init_281 : decode cX10_init 281 = .ok (.newarray .int, 2) := by decide +kernel
theorem dX10_init_283 : decode cX10_init 283 = .ok (.putfield 118, 3) := by decide +kernel
theorem dX10_init_286 : decode cX10_init 286 = .ok (.aload_n 0, 1) := by decide +kernel
theorem dX10_init_287 : decode cX10_init 287 = .ok (.bipush 41, 2) := by decide +kernel
theorem dX10_init_289 : decode cX10_init 289 = .ok (.newarray .int, 2) := by decide +kernel
theorem dX10_init_291 : decode cX10_init 291 = .ok (.putfield 121, 3) := by decide +kernel
theorem dX10_init_294 : decode cX10_init 294 = .ok (.aload_n 0, 1) := by decide +kernel
theorem dX10_init_295 : decode cX10_init 295 = .ok (.bipush 101, 2) := by decide +kernel
theorem dX10_init_297 : decode cX10_init 297 = .ok (.newarray .int, 2) := by decide +kernel
theorem dX10_init_299 : decode cX10_init 299 = .ok (.putfield 124, 3) := by decide +kernel
theorem dX10_init_302 : decode cX10_init 302 = .ok (.aload_n 0, 1) := by decide +kernel
theorem dX10_init_303 : decode cX10_init 303 = .ok (.bipush 40, 2) := by decide +kernel
theorem dX10_init_305 : decode cX10_init 305 = .ok (.newarray .int, 2) := by decide +kernel
theorem dX10_init_307 : decode cX10_init 307 = .ok (.putfield 127, 3) := by decide +kernel
theorem dX10_init_310 : decode cX10_init 310 = .ok (.aload_n 0, 1) := by decide +kernel
theorem dX10_init_311 : decode cX10_init 311 = .ok (.bipush 40, 2) := by decide +kernel
theorem dX10_init_313 : decode cX10_init 313 = .ok (.newarray .int, 2) := by decide +kernel
theorem dX10_init_315 : decode cX10_init 315 = .ok (.putfield 130, 3) := by decide +kernel
theorem dX10_init_318 : decode cX10_init 318 = .ok (.aload_n 0, 1) := by decide +kernel
theorem dX10_init_319 : decode cX10_init 319 = .ok (.bipush 40, 2) := by decide +kernel
theorem dX10_init_321 : decode cX10_init 321 = .ok (.newarray .int, 2) := by decide +kernel
theorem dX10_init_323 : decode cX10_init 323 = .ok (.putfield 133, 3) := by decide +kernel
theorem dX10_init_326 : decode cX10_init 326 = .ok (.iconst 0, 1) := by decide +kernel
theorem dX10_init_327 : decode cX10_init 327 = .ok (.istore_n 1, 1) := by decide +kernel
theorem dX10_init_328 : decode cX10_init 328 = .ok (.iload_n 1, 1) := by decide +kernel
theorem dX10_init_329 : decode cX10_init 329 = .ok (.sipush 160, 3) := by decide +kernel
theorem dX10_init_332 : decode cX10_init 332 = .ok (.if_icmp .ge 16, 3) := by decide +kernel
theorem dX10_init_335 : decode cX10_init 335 = .ok (.aload_n 0, 1) := by decide +kernel
theorem dX10_init_336 : decode cX10_init 336 = .ok (.getfield 17, 3) := by decide +kernel
theorem dX10_init_339 : decode cX10_init 339 = .ok (.iload_n 1, 1) := by decide +kernel
theorem dX10_init_340 : decode cX10_init 340 = .ok (.iconst (-1), 1) := by decide +kernel
theorem dX10_init_341 : decode cX10_init 341 = .ok (.iastore, 1) := by decide +kernel
theorem dX10_init_342 : decode cX10_init 342 = .ok (.iinc 1 1, 3) := by decide +kernel
theorem dX10_init_345 : decode cX10_init 345 = .ok (.goto (-17), 3) := by decide +kernel
theorem dX10_init_348 : decode cX10_init 348 = .ok (.return_, 1) := by decide +kernel
theorem dX10_box_0 : decode cX10_box 0 = .ok (.aload_n 0, 1) := by decide +kernel
theorem dX10_box_1 : decode cX10_box 1 = .ok (.iconst 0, 1) := by decide +kernel
theorem dX10_box_2 : decode cX10_box 2 = .ok (.putfield 1, 3) := by decide +kernel
theorem dX10_box_5 : decode cX10_box 5 = .ok (.aload_n 0, 1) := by decide +kernel
theorem dX10_box_6 : decode cX10_box 6 = .ok (.iload_n 1, 1) := by decide +kernel
theorem dX10_box_7 : decode cX10_box 7 = .ok (.ifCond .lt 12, 3) := by decide +kernel
theorem dX10_box_10 : decode cX10_box 10 = .ok (.iload_n 1, 1) := by decide +kernel
theorem dX10_box_11 : decode cX10_box 11 = .ok (.iconst 2, 1) := by decide +kernel
theorem dX10_box_12 : decode cX10_box 12 = .ok (.if_icmp .gt 7, 3) := by decide +kernel
theorem dX10_box_15 : decode cX10_box 15 = .ok (.iconst 1, 1) := by decide +kernel
theorem dX10_box_16 : decode cX10_box 16 = .ok (.goto 4, 3) := by decide +kernel
theorem dX10_box_19 : decode cX10_box 19 = .ok (.iconst 0, 1) := by decide +kernel
theorem dX10_box_20 : decode cX10_box 20 = .ok (.iconst 1, 1) := by decide +kernel
theorem dX10_box_21 : decode cX10_box 21 = .ok (.invokevirtual 136, 3) := by decide +kernel
theorem dX10_box_24 : decode cX10_box 24 = .ok (.ifCond .eq 25, 3) := by decide +kernel
theorem dX10_box_27 : decode cX10_box 27 = .ok (.aload_n 0, 1) := by decide +kernel
theorem dX10_box_28 : decode cX10_box 28 = .ok (.aload_n 0, 1) := by decide +kernel
theorem dX10_box_29 : decode cX10_box 29 = .ok (.getfield 140, 3) := by decide +kernel
theorem dX10_box_32 : decode cX10_box 32 = .ok (.bipush 8, 2) := by decide +kernel
theorem dX10_box_34 : decode cX10_box 34 = .ok (.if_icmp .ge 7, 3) := by decide +kernel
theorem dX10_box_37 : decode cX10_box 37 = .ok (.iconst 1, 1) := by decide +kernel
theorem dX10_box_38 : decode cX10_box 38 = .ok (.goto 4, 3) := by decide +kernel
theorem dX10_box_41 : decode cX10_box 41 = .ok (.iconst 0, 1) := by decide +kernel
theorem dX10_box_42 : decode cX10_box 42 = .ok (.iconst 2, 1) := by decide +kernel
theorem dX10_box_43 : decode cX10_box 43 = .ok (.invokevirtual 136, 3) := by decide +kernel
theorem dX10_box_46 : decode cX10_box 46 = .ok (.ifCond .ne 5, 3) := by decide +kernel
theorem dX10_box_49 : decode cX10_box 49 = .ok (.iconst 0, 1) := by decide +kernel
theorem dX10_box_50 : decode cX10_box 50 = .ok (.ireturn, 1) := by decide +kernel
theorem dX10_box_51 : decode cX10_box 51 = .ok (.aload_n 0, 1) := by decide +kernel
theorem dX10_box_52 : decode cX10_box 52 = .ok (.getfield 13, 3) := by decide +kernel
theorem dX10_box_55 : decode cX10_box 55 = .ok (.aload_n 0, 1) := by decide +kernel
theorem dX10_box_56 : decode cX10_box 56 = .ok (.getfield 140, 3) := by decide +kernel
theorem dX10_box_59 : decode cX10_box 59 = .ok (.iload_n 1, 1) := by decide +kernel
theorem dX10_box_60 : decode cX10_box 60 = .ok (.iastore, 1) := by decide +kernel
theorem dX10_box_61 : decode cX10_box 61 = .ok (.aload_n 0, 1) := by decide +kernel
theorem dX10_box_62 : decode cX10_box 62 = .ok (.dup, 1) := by decide +kernel
theorem dX10_box_63 : decode cX10_box 63 = .ok (.getfield 140, 3) := by decide +kernel
theorem dX10_box_66 : decode cX10_box 66 = .ok (.iconst 1, 1) := by decide +kernel
theorem dX10_box_67 : decode cX10_box 67 = .ok (.iadd, 1) := by decide +kernel
theorem dX10_box_68 : decode cX10_box 68 = .ok (.putfield 140, 3) := by decide +kernel
theorem dX10_box_71 : decode cX10_box 71 = .ok (.aload_n 0, 1) := by decide +kernel
theorem dX10_box_72 : decode cX10_box 72 = .ok (.getfield 140, 3) := by decide +kernel
theorem dX10_box_75 : decode cX10_box 75 = .ok (.iconst 1, 1) := by decide +kernel
theorem dX10_box_76 : decode cX10_box 76 = .ok (.isub, 1) := by decide +kernel
theorem dX10_box_77 : decode cX10_box 77 = .ok (.ireturn, 1) := by decide +kernel
theorem dX10_isRow_0 : decode cX10_isRow 0 = .ok (.aload_n 0, 1) := by decide +kernel
theorem dX10_isRow_1 : decode cX10_isRow 1 = .ok (.iload_n 1, 1) := by decide +kernel
theorem dX10_isRow_2 : decode cX10_isRow 2 = .ok (.ifCond .lt 25, 3) := by decide +kernel
theorem dX10_isRow_5 : decode cX10_isRow 5 = .ok (.iload_n 1, 1) := by decide +kernel
theorem dX10_isRow_6 : decode cX10_isRow 6 = .ok (.aload_n 0, 1) := by decide +kernel
theorem dX10_isRow_7 : decode cX10_isRow 7 = .ok (.getfield 140, 3) := by decide +kernel
theorem dX10_isRow_10 : decode cX10_isRow 10 = .ok (.if_icmp .ge 17, 3) := by decide +kernel
theorem dX10_isRow_13 : decode cX10_isRow 13 = .ok (.iload_n 2, 1) := by decide +kernel
theorem dX10_isRow_14 : decode cX10_isRow 14 = .ok (.ifCond .lt 13, 3) := by decide +kernel
theorem dX10_isRow_17 : decode cX10_isRow 17 = .ok (.iload_n 2, 1) := by decide +kernel
theorem dX10_isRow_18 : decode cX10_isRow 18 = .ok (.bipush 20, 2) := by decide +kernel
theorem dX10_isRow_20 : decode cX10_isRow 20 = .ok (.if_icmp .ge 7, 3) := by decide +kernel
theorem dX10_isRow_23 : decode cX10_isRow 23 = .ok (.iconst 1, 1) := by decide +kernel
theorem dX10_isRow_24 : decode cX10_isRow 24 = .ok (.goto 4, 3) := by decide +kernel
theorem dX10_isRow_27 : decode cX10_isRow 27 = .ok (.iconst 0, 1) := by decide +kernel
theorem dX10_isRow_28 : decode cX10_isRow 28 = .ok (.iconst 1, 1) := by decide +kernel
theorem dX10_isRow_29 : decode cX10_isRow 29 = .ok (.invokevirtual 136, 3) := by decide +kernel
theorem dX10_isRow_32 : decode cX10_isRow 32 = .ok (.ireturn, 1) := by decide +kernel
theorem dX10_row_0 : decode cX10_row 0 = .ok (.aload_n 0, 1) := by decide +kernel
theorem dX10_row_1 : decode cX10_row 1 = .ok (.iconst 0, 1) := by decide +kernel
theorem dX10_row_2 : decode cX10_row 2 = .ok (.putfield 1, 3) := by decide +kernel
theorem dX10_row_5 : decode cX10_row 5 = .ok (.aload_n 0, 1) := by decide +kernel
theorem dX10_row_6 : decode cX10_row 6 = .ok (.iload_n 1, 1) := by decide +kernel
theorem dX10_row_7 : decode cX10_row 7 = .ok (.iload_n 2, 1) := by decide +kernel
theorem dX10_row_8 : decode cX10_row 8 = .ok (.invokevirtual 143, 3) := by decide +kernel
theorem dX10_row_11 : decode cX10_row 11 = .ok (.ifCond .ne 5, 3) := by decide +kernel
theorem dX10_row_14 : decode cX10_row 14 = .ok (.iconst 0, 1) := by decide +kernel
theorem dX10_row_15 : decode cX10_row 15 = .ok (.ireturn, 1) := by decide +kernel
theorem dX10_row_16 : decode cX10_row 16 = .ok (.iload_n 3, 1) := by decide +kernel
theorem dX10_row_17 : decode cX10_row 17 = .ok (.ifCond .lt 9, 3) := by decide +kernel
theorem dX10_row_20 : decode cX10_row 20 = .ok (.iload_n 3, 1) := by decide +kernel
theorem dX10_row_21 : decode cX10_row 21 = .ok (.bipush 30, 2) := by decide +kernel
theorem dX10_row_23 : decode cX10_row 23 = .ok (.if_icmp .le 5, 3) := by decide +kernel
theorem dX10_row_26 : decode cX10_row 26 = .ok (.iconst (-1), 1) := by decide +kernel
theorem dX10_row_27 : decode cX10_row 27 = .ok (.ireturn, 1) := by decide +kernel
theorem dX10_row_28 : decode cX10_row 28 = .ok (.bipush 20, 2) := by decide +kernel
theorem dX10_row_30 : decode cX10_row 30 = .ok (.iload_n 1, 1) := by decide +kernel
theorem dX10_row_31 : decode cX10_row 31 = .ok (.imul, 1) := by decide +kernel
theorem dX10_row_32 : decode cX10_row 32 = .ok (.iload_n 2, 1) := by decide +kernel
theorem dX10_row_33 : decode cX10_row 33 = .ok (.iadd, 1) := by decide +kernel
theorem dX10_row_34 : decode cX10_row 34 = .ok (.istore 4, 2) := by decide +kernel
theorem dX10_row_36 : decode cX10_row 36 = .ok (.aload_n 0, 1) := by decide +kernel
theorem dX10_row_37 : decode cX10_row 37 = .ok (.getfield 17, 3) := by decide +kernel
theorem dX10_row_40 : decode cX10_row 40 = .ok (.iload 4, 2) := by decide +kernel
theorem dX10_row_42 : decode cX10_row 42 = .ok (.iload_n 3, 1) := by decide +kernel
theorem dX10_row_43 : decode cX10_row 43 = .ok (.iastore, 1) := by decide +kernel
theorem dX10_row_44 : decode cX10_row 44 = .ok (.iconst 0, 1) := by decide +kernel
theorem dX10_row_45 : decode cX10_row 45 = .ok (.istore 5, 2) := by decide +kernel
theorem dX10_row_47 : decode cX10_row 47 = .ok (.iload 5, 2) := by decide +kernel
theorem dX10_row_49 : decode cX10_row 49 = .ok (.bipush 30, 2) := by decide +kernel
theorem dX10_row_51 : decode cX10_row 51 = .ok (.if_icmp .ge 23, 3) := by decide +kernel
theorem dX10_row_54 : decode cX10_row 54 = .ok (.aload_n 0, 1) := by decide +kernel
theorem dX10_row_55 : decode cX10_row 55 = .ok (.getfield 20, 3) := by decide +kernel
theorem dX10_row_58 : decode cX10_row 58 = .ok (.bipush 30, 2) := by decide +kernel
theorem dX10_row_60 : decode cX10_row 60 = .ok (.iload 4, 2) := by decide +kernel
theorem dX10_row_62 : decode cX10_row 62 = .ok (.imul, 1) := by decide +kernel
theorem dX10_row_63 : decode cX10_row 63 = .ok (.iload 5, 2) := by decide +kernel
theorem dX10_row_65 : decode cX10_row 65 = .ok (.iadd, 1) := by decide +kernel
theorem dX10_row_66 : decode cX10_row 66 = .ok (.lconst 0, 1) := by decide +kernel
theorem dX10_row_67 : decode cX10_row 67 = .ok (.lastore, 1) := by decide +kernel
theorem dX10_row_68 : decode cX10_row 68 = .ok (.iinc 5 1, 3) := by decide +kernel
theorem dX10_row_71 : decode cX10_row 71 = .ok (.goto (-24), 3) := by decide +kernel
theorem dX10_row_74 : decode cX10_row 74 = .ok (.iload_n 3, 1) := by decide +kernel
theorem dX10_row_75 : decode cX10_row 75 = .ok (.ireturn, 1) := by decide +kernel
theorem dX10_kept_0 : decode cX10_kept 0 = .ok (.iload_n 0, 1) := by decide +kernel
theorem dX10_kept_1 : decode cX10_kept 1 = .ok (.ifCond .ne 10, 3) := by decide +kernel
theorem dX10_kept_4 : decode cX10_kept 4 = .ok (.lload_n 1, 1) := by decide +kernel
theorem dX10_kept_5 : decode cX10_kept 5 = .ok (.l2i, 1) := by decide +kernel
theorem dX10_kept_6 : decode cX10_kept 6 = .ok (.i2s, 1) := by decide +kernel
theorem dX10_kept_7 : decode cX10_kept 7 = .ok (.i2l, 1) := by decide +kernel
theorem dX10_kept_8 : decode cX10_kept 8 = .ok (.goto 15, 3) := by decide +kernel
theorem dX10_kept_11 : decode cX10_kept 11 = .ok (.iload_n 0, 1) := by decide +kernel
theorem dX10_kept_12 : decode cX10_kept 12 = .ok (.iconst 1, 1) := by decide +kernel
theorem dX10_kept_13 : decode cX10_kept 13 = .ok (.if_icmp .ne 9, 3) := by decide +kernel
theorem dX10_kept_16 : decode cX10_kept 16 = .ok (.lload_n 1, 1) := by decide +kernel
theorem dX10_kept_17 : decode cX10_kept 17 = .ok (.l2i, 1) := by decide +kernel
theorem dX10_kept_18 : decode cX10_kept 18 = .ok (.i2l, 1) := by decide +kernel
theorem dX10_kept_19 : decode cX10_kept 19 = .ok (.goto 4, 3) := by decide +kernel
theorem dX10_kept_22 : decode cX10_kept 22 = .ok (.lload_n 1, 1) := by decide +kernel
theorem dX10_kept_23 : decode cX10_kept 23 = .ok (.lreturn, 1) := by decide +kernel
theorem dX10_put_0 : decode cX10_put 0 = .ok (.aload_n 0, 1) := by decide +kernel
theorem dX10_put_1 : decode cX10_put 1 = .ok (.iconst 0, 1) := by decide +kernel
theorem dX10_put_2 : decode cX10_put 2 = .ok (.putfield 1, 3) := by decide +kernel
theorem dX10_put_5 : decode cX10_put 5 = .ok (.aload_n 0, 1) := by decide +kernel
theorem dX10_put_6 : decode cX10_put 6 = .ok (.iload_n 1, 1) := by decide +kernel
theorem dX10_put_7 : decode cX10_put 7 = .ok (.iload_n 2, 1) := by decide +kernel
theorem dX10_put_8 : decode cX10_put 8 = .ok (.invokevirtual 143, 3) := by decide +kernel
theorem dX10_put_11 : decode cX10_put 11 = .ok (.ifCond .ne 5, 3) := by decide +kernel
theorem dX10_put_14 : decode cX10_put 14 = .ok (.iconst 0, 1) := by decide +kernel
theorem dX10_put_15 : decode cX10_put 15 = .ok (.ireturn, 1) := by decide +kernel
theorem dX10_put_16 : decode cX10_put 16 = .ok (.bipush 20, 2) := by decide +kernel
theorem dX10_put_18 : decode cX10_put 18 = .ok (.iload_n 1, 1) := by decide +kernel
theorem dX10_put_19 : decode cX10_put 19 = .ok (.imul, 1) := by decide +kernel
theorem dX10_put_20 : decode cX10_put 20 = .ok (.iload_n 2, 1) := by decide +kernel
theorem dX10_put_21 : decode cX10_put 21 = .ok (.iadd, 1) := by decide +kernel
theorem dX10_put_22 : decode cX10_put 22 = .ok (.istore 6, 2) := by decide +kernel
theorem dX10_put_24 : decode cX10_put 24 = .ok (.aload_n 0, 1) := by decide +kernel
theorem dX10_put_25 : decode cX10_put 25 = .ok (.getfield 17, 3) := by decide +kernel
theorem dX10_put_28 : decode cX10_put 28 = .ok (.iload 6, 2) := by decide +kernel
theorem dX10_put_30 : decode cX10_put 30 = .ok (.iaload, 1) := by decide +kernel
theorem dX10_put_31 : decode cX10_put 31 = .ok (.iconst (-1), 1) := by decide +kernel
theorem dX10_put_32 : decode cX10_put 32 = .ok (.if_icmp .ne 5, 3) := by decide +kernel
theorem dX10_put_35 : decode cX10_put 35 = .ok (.iconst (-1), 1) := by decide +kernel
theorem dX10_put_36 : decode cX10_put 36 = .ok (.ireturn, 1) := by decide +kernel
theorem dX10_put_37 : decode cX10_put 37 = .ok (.iload_n 3, 1) := by decide +kernel
theorem dX10_put_38 : decode cX10_put 38 = .ok (.ifCond .lt 14, 3) := by decide +kernel
theorem dX10_put_41 : decode cX10_put 41 = .ok (.iload_n 3, 1) := by decide +kernel
theorem dX10_put_42 : decode cX10_put 42 = .ok (.aload_n 0, 1) := by decide +kernel
theorem dX10_put_43 : decode cX10_put 43 = .ok (.getfield 17, 3) := by decide +kernel
theorem dX10_put_46 : decode cX10_put 46 = .ok (.iload 6, 2) := by decide +kernel
theorem dX10_put_48 : decode cX10_put 48 = .ok (.iaload, 1) := by decide +kernel
theorem dX10_put_49 : decode cX10_put 49 = .ok (.if_icmp .lt 6, 3) := by decide +kernel
theorem dX10_put_52 : decode cX10_put 52 = .ok (.bipush (-2), 2) := by decide +kernel
theorem dX10_put_54 : decode cX10_put 54 = .ok (.ireturn, 1) := by decide +kernel
theorem dX10_put_55 : decode cX10_put 55 = .ok (.aload_n 0, 1) := by decide +kernel
theorem dX10_put_56 : decode cX10_put 56 = .ok (.getfield 20, 3) := by decide +kernel
theorem dX10_put_59 : decode cX10_put 59 = .ok (.bipush 30, 2) := by decide +kernel
theorem dX10_put_61 : decode cX10_put 61 = .ok (.iload 6, 2) := by decide +kernel
theorem dX10_put_63 : decode cX10_put 63 = .ok (.imul, 1) := by decide +kernel
theorem dX10_put_64 : decode cX10_put 64 = .ok (.iload_n 3, 1) := by decide +kernel
theorem dX10_put_65 : decode cX10_put 65 = .ok (.iadd, 1) := by decide +kernel
theorem dX10_put_66 : decode cX10_put 66 = .ok (.aload_n 0, 1) := by decide +kernel
theorem dX10_put_67 : decode cX10_put 67 = .ok (.getfield 13, 3) := by decide +kernel
theorem dX10_put_70 : decode cX10_put 70 = .ok (.iload_n 1, 1) := by decide +kernel
theorem dX10_put_71 : decode cX10_put 71 = .ok (.iaload, 1) := by decide +kernel
theorem dX10_put_72 : decode cX10_put 72 = .ok (.lload 4, 2) := by decide +kernel
theorem dX10_put_74 : decode cX10_put 74 = .ok (.invokestatic 147, 3) := by decide +kernel
theorem dX10_put_77 : decode cX10_put 77 = .ok (.lastore, 1) := by decide +kernel
theorem dX10_put_78 : decode cX10_put 78 = .ok (.iconst 1, 1) := by decide +kernel
theorem dX10_put_79 : decode cX10_put 79 = .ok (.ireturn, 1) := by decide +kernel
theorem dX10_copy_0 : decode cX10_copy 0 = .ok (.aload_n 0, 1) := by decide +kernel
theorem dX10_copy_1 : decode cX10_copy 1 = .ok (.iconst 0, 1) := by decide +kernel
theorem dX10_copy_2 : decode cX10_copy 2 = .ok (.putfield 1, 3) := by decide +kernel
theorem dX10_copy_5 : decode cX10_copy 5 = .ok (.aload_n 0, 1) := by decide +kernel
theorem dX10_copy_6 : decode cX10_copy 6 = .ok (.iload_n 1, 1) := by decide +kernel
theorem dX10_copy_7 : decode cX10_copy 7 = .ok (.iload_n 2, 1) := by decide +kernel
theorem dX10_copy_8 : decode cX10_copy 8 = .ok (.invokevirtual 143, 3) := by decide +kernel
theorem dX10_copy_11 : decode cX10_copy 11 = .ok (.ifCond .eq 14, 3) := by decide +kernel
theorem dX10_copy_14 : decode cX10_copy 14 = .ok (.aload_n 0, 1) := by decide +kernel
theorem dX10_copy_15 : decode cX10_copy 15 = .ok (.iload 4, 2) := by decide +kernel
theorem dX10_copy_17 : decode cX10_copy 17 = .ok (.iload 5, 2) := by decide +kernel
theorem dX10_copy_19 : decode cX10_copy 19 = .ok (.invokevirtual 143, 3) := by decide +kernel
theorem dX10_copy_22 : decode cX10_copy 22 = .ok (.ifCond .ne 5, 3) := by decide +kernel
theorem dX10_copy_25 : decode cX10_copy 25 = .ok (.iconst 0, 1) := by decide +kernel
theorem dX10_copy_26 : decode cX10_copy 26 = .ok (.ireturn, 1) := by decide +kernel
theorem dX10_copy_27 : decode cX10_copy 27 = .ok (.bipush 20, 2) := by decide +kernel
theorem dX10_copy_29 : decode cX10_copy 29 = .ok (.iload_n 1, 1) := by decide +kernel
theorem dX10_copy_30 : decode cX10_copy 30 = .ok (.imul, 1) := by decide +kernel
theorem dX10_copy_31 : decode cX10_copy 31 = .ok (.iload_n 2, 1) := by decide +kernel
theorem dX10_copy_32 : decode cX10_copy 32 = .ok (.iadd, 1) := by decide +kernel
theorem dX10_copy_33 : decode cX10_copy 33 = .ok (.istore 8, 2) := by decide +kernel
theorem dX10_copy_35 : decode cX10_copy 35 = .ok (.bipush 20, 2) := by decide +kernel
theorem dX10_copy_37 : decode cX10_copy 37 = .ok (.iload 4, 2) := by decide +kernel
theorem dX10_copy_39 : decode cX10_copy 39 = .ok (.imul, 1) := by decide +kernel
theorem dX10_copy_40 : decode cX10_copy 40 = .ok (.iload 5, 2) := by decide +kernel
theorem dX10_copy_42 : decode cX10_copy 42 = .ok (.iadd, 1) := by decide +kernel
theorem dX10_copy_43 : decode cX10_copy 43 = .ok (.istore 9, 2) := by decide +kernel
theorem dX10_copy_45 : decode cX10_copy 45 = .ok (.aload_n 0, 1) := by decide +kernel
theorem dX10_copy_46 : decode cX10_copy 46 = .ok (.getfield 17, 3) := by decide +kernel
theorem dX10_copy_49 : decode cX10_copy 49 = .ok (.iload 8, 2) := by decide +kernel
theorem dX10_copy_51 : decode cX10_copy 51 = .ok (.iaload, 1) := by decide +kernel
theorem dX10_copy_52 : decode cX10_copy 52 = .ok (.iconst (-1), 1) := by decide +kernel
theorem dX10_copy_53 : decode cX10_copy 53 = .ok (.if_icmp .eq 14, 3) := by decide +kernel
theorem dX10_copy_56 : decode cX10_copy 56 = .ok (.aload_n 0, 1) := by decide +kernel
theorem dX10_copy_57 : decode cX10_copy 57 = .ok (.getfield 17, 3) := by decide +kernel
theorem dX10_copy_60 : decode cX10_copy 60 = .ok (.iload 9, 2) := by decide +kernel
theorem dX10_copy_62 : decode cX10_copy 62 = .ok (.iaload, 1) := by decide +kernel
theorem dX10_copy_63 : decode cX10_copy 63 = .ok (.iconst (-1), 1) := by decide +kernel
theorem dX10_copy_64 : decode cX10_copy 64 = .ok (.if_icmp .ne 5, 3) := by decide +kernel
theorem dX10_copy_67 : decode cX10_copy 67 = .ok (.iconst (-1), 1) := by decide +kernel
theorem dX10_copy_68 : decode cX10_copy 68 = .ok (.ireturn, 1) := by decide +kernel
theorem dX10_copy_69 : decode cX10_copy 69 = .ok (.iload_n 3, 1) := by decide +kernel
theorem dX10_copy_70 : decode cX10_copy 70 = .ok (.ifCond .lt 66, 3) := by decide +kernel
theorem dX10_copy_73 : decode cX10_copy 73 = .ok (.iload 6, 2) := by decide +kernel
theorem dX10_copy_75 : decode cX10_copy 75 = .ok (.ifCond .lt 61, 3) := by decide +kernel
theorem dX10_copy_78 : decode cX10_copy 78 = .ok (.iload 7, 2) := by decide +kernel
theorem dX10_copy_80 : decode cX10_copy 80 = .ok (.ifCond .lt 56, 3) := by decide +kernel
theorem dX10_copy_83 : decode cX10_copy 83 = .ok (.iload 7, 2) := by decide +kernel
theorem dX10_copy_85 : decode cX10_copy 85 = .ok (.aload_n 0, 1) := by decide +kernel
theorem dX10_copy_86 : decode cX10_copy 86 = .ok (.getfield 17, 3) := by decide +kernel
theorem dX10_copy_89 : decode cX10_copy 89 = .ok (.iload 8, 2) := by decide +kernel
theorem dX10_copy_91 : decode cX10_copy 91 = .ok (.iaload, 1) := by decide +kernel
theorem dX10_copy_92 : decode cX10_copy 92 = .ok (.if_icmp .gt 44, 3) := by decide +kernel
theorem dX10_copy_95 : decode cX10_copy 95 = .ok (.iload_n 3, 1) := by decide +kernel
theorem dX10_copy_96 : decode cX10_copy 96 = .ok (.aload_n 0, 1) := by decide +kernel
theorem dX10_copy_97 : decode cX10_copy 97 = .ok (.getfield 17, 3) := by decide +kernel
theorem dX10_copy_100 : decode cX10_copy 100 = .ok (.iload 8, 2) := by decide +kernel
theorem dX10_copy_102 : decode cX10_copy 102 = .ok (.iaload, 1) := by decide +kernel
theorem dX10_copy_103 : decode cX10_copy 103 = .ok (.iload 7, 2) := by decide +kernel
theorem dX10_copy_105 : decode cX10_copy 105 = .ok (.isub, 1) := by decide +kernel
theorem dX10_copy_106 : decode cX10_copy 106 = .ok (.if_icmp .gt 30, 3) := by decide +kernel
theorem dX10_copy_109 : decode cX10_copy 109 = .ok (.iload 7, 2) := by decide +kernel
theorem dX10_copy_111 : decode cX10_copy 111 = .ok (.aload_n 0, 1) := by decide +kernel
theorem dX10_copy_112 : decode cX10_copy 112 = .ok (.getfield 17, 3) := by decide +kernel
theorem dX10_copy_115 : decode cX10_copy 115 = .ok (.iload 9, 2) := by decide +kernel
theorem dX10_copy_117 : decode cX10_copy 117 = .ok (.iaload, 1) := by decide +kernel
theorem dX10_copy_118 : decode cX10_copy 118 = .ok (.if_icmp .gt 18, 3) := by decide +kernel
theorem dX10_copy_121 : decode cX10_copy 121 = .ok (.iload 6, 2) := by decide +kernel
theorem dX10_copy_123 : decode cX10_copy 123 = .ok (.aload_n 0, 1) := by decide +kernel
theorem dX10_copy_124 : decode cX10_copy 124 = .ok (.getfield 17, 3) := by decide +kernel
theorem dX10_copy_127 : decode cX10_copy 127 = .ok (.iload 9, 2) := by decide +kernel
theorem dX10_copy_129 : decode cX10_copy 129 = .ok (.iaload, 1) := by decide +kernel
theorem dX10_copy_130 : decode cX10_copy 130 = .ok (.iload 7, 2) := by decide +kernel
theorem dX10_copy_132 : decode cX10_copy 132 = .ok (.isub, 1) := by decide +kernel
theorem dX10_copy_133 : decode cX10_copy 133 = .ok (.if_icmp .le 6, 3) := by decide +kernel
theorem dX10_copy_136 : decode cX10_copy 136 = .ok (.bipush (-2), 2) := by decide +kernel
theorem dX10_copy_138 : decode cX10_copy 138 = .ok (.ireturn, 1) := by decide +kernel
theorem dX10_copy_139 : decode cX10_copy 139 = .ok (.aload_n 0, 1) := by decide +kernel
theorem dX10_copy_140 : decode cX10_copy 140 = .ok (.getfield 13, 3) := by decide +kernel
theorem dX10_copy_143 : decode cX10_copy 143 = .ok (.iload_n 1, 1) := by decide +kernel
theorem dX10_copy_144 : decode cX10_copy 144 = .ok (.iaload, 1) := by decide +kernel
theorem dX10_copy_145 : decode cX10_copy 145 = .ok (.aload_n 0, 1) := by decide +kernel
theorem dX10_copy_146 : decode cX10_copy 146 = .ok (.getfield 13, 3) := by decide +kernel
theorem dX10_copy_149 : decode cX10_copy 149 = .ok (.iload 4, 2) := by decide +kernel
theorem dX10_copy_151 : decode cX10_copy 151 = .ok (.iaload, 1) := by decide +kernel
theorem dX10_copy_152 : decode cX10_copy 152 = .ok (.if_icmp .eq 6, 3) := by decide +kernel
theorem dX10_copy_155 : decode cX10_copy 155 = .ok (.bipush (-3), 2) := by decide +kernel
theorem dX10_copy_157 : decode cX10_copy 157 = .ok (.ireturn, 1) := by decide +kernel
theorem dX10_copy_158 : decode cX10_copy 158 = .ok (.iconst 0, 1) := by decide +kernel
theorem dX10_copy_159 : decode cX10_copy 159 = .ok (.istore 10, 2) := by decide +kernel
theorem dX10_copy_161 : decode cX10_copy 161 = .ok (.iload 10, 2) := by decide +kernel
theorem dX10_copy_163 : decode cX10_copy 163 = .ok (.iload 7, 2) := by decide +kernel
theorem dX10_copy_165 : decode cX10_copy 165 = .ok (.if_icmp .ge 31, 3) := by decide +kernel
theorem dX10_copy_168 : decode cX10_copy 168 = .ok (.aload_n 0, 1) := by decide +kernel
theorem dX10_copy_169 : decode cX10_copy 169 = .ok (.getfield 24, 3) := by decide +kernel
theorem dX10_copy_172 : decode cX10_copy 172 = .ok (.iload 10, 2) := by decide +kernel
theorem dX10_copy_174 : decode cX10_copy 174 = .ok (.aload_n 0, 1) := by decide +kernel
theorem dX10_copy_175 : decode cX10_copy 175 = .ok (.getfield 20, 3) := by decide +kernel
theorem dX10_copy_178 : decode cX10_copy 178 = .ok (.bipush 30, 2) := by decide +kernel
theorem dX10_copy_180 : decode cX10_copy 180 = .ok (.iload 8, 2) := by decide +kernel
theorem dX10_copy_182 : decode cX10_copy 182 = .ok (.imul, 1) := by decide +kernel
theorem dX10_copy_183 : decode cX10_copy 183 = .ok (.iload_n 3, 1) := by decide +kernel
theorem dX10_copy_184 : decode cX10_copy 184 = .ok (.iadd, 1) := by decide +kernel
theorem dX10_copy_185 : decode cX10_copy 185 = .ok (.iload 10, 2) := by decide +kernel
theorem dX10_copy_187 : decode cX10_copy 187 = .ok (.iadd, 1) := by decide +kernel
theorem dX10_copy_188 : decode cX10_copy 188 = .ok (.laload, 1) := by decide +kernel
theorem dX10_copy_189 : decode cX10_copy 189 = .ok (.lastore, 1) := by decide +kernel
theorem dX10_copy_190 : decode cX10_copy 190 = .ok (.iinc 10 1, 3) := by decide +kernel
theorem dX10_copy_193 : decode cX10_copy 193 = .ok (.goto (-32), 3) := by decide +kernel
theorem dX10_copy_196 : decode cX10_copy 196 = .ok (.iconst 0, 1) := by decide +kernel
theorem dX10_copy_197 : decode cX10_copy 197 = .ok (.istore 10, 2) := by decide +kernel
theorem dX10_copy_199 : decode cX10_copy 199 = .ok (.iload 10, 2) := by decide +kernel
theorem dX10_copy_201 : decode cX10_copy 201 = .ok (.iload 7, 2) := by decide +kernel
theorem dX10_copy_203 : decode cX10_copy 203 = .ok (.if_icmp .ge 32, 3) := by decide +kernel
theorem dX10_copy_206 : decode cX10_copy 206 = .ok (.aload_n 0, 1) := by decide +kernel
theorem dX10_copy_207 : decode cX10_copy 207 = .ok (.getfield 20, 3) := by decide +kernel
theorem dX10_copy_210 : decode cX10_copy 210 = .ok (.bipush 30, 2) := by decide +kernel
theorem dX10_copy_212 : decode cX10_copy 212 = .ok (.iload 9, 2) := by decide +kernel
theorem dX10_copy_214 : decode cX10_copy 214 = .ok (.imul, 1) := by decide +kernel
theorem dX10_copy_215 : decode cX10_copy 215 = .ok (.iload 6, 2) := by decide +kernel
theorem dX10_copy_217 : decode cX10_copy 217 = .ok (.iadd, 1) := by decide +kernel
theorem dX10_copy_218 : decode cX10_copy 218 = .ok (.iload 10, 2) := by decide +kernel
theorem dX10_copy_220 : decode cX10_copy 220 = .ok (.iadd, 1) := by decide +kernel
theorem dX10_copy_221 : decode cX10_copy 221 = .ok (.aload_n 0, 1) := by decide +kernel
theorem dX10_copy_222 : decode cX10_copy 222 = .ok (.getfield 24, 3) := by decide +kernel
theorem dX10_copy_225 : decode cX10_copy 225 = .ok (.iload 10, 2) := by decide +kernel
theorem dX10_copy_227 : decode cX10_copy 227 = .ok (.laload, 1) := by decide +kernel
theorem dX10_copy_228 : decode cX10_copy 228 = .ok (.lastore, 1) := by decide +kernel
theorem dX10_copy_229 : decode cX10_copy 229 = .ok (.iinc 10 1, 3) := by decide +kernel
theorem dX10_copy_232 : decode cX10_copy 232 = .ok (.goto (-33), 3) := by decide +kernel
theorem dX10_copy_235 : decode cX10_copy 235 = .ok (.iload 7, 2) := by decide +kernel
theorem dX10_copy_237 : decode cX10_copy 237 = .ok (.ireturn, 1) := by decide +kernel
theorem dX10_tear_0 : decode cX10_tear 0 = .ok (.aload_n 0, 1) := by decide +kernel
theorem dX10_tear_1 : decode cX10_tear 1 = .ok (.iconst 0, 1) := by decide +kernel
theorem dX10_tear_2 : decode cX10_tear 2 = .ok (.putfield 1, 3) := by decide +kernel
theorem dX10_tear_5 : decode cX10_tear 5 = .ok (.aload_n 0, 1) := by decide +kernel
theorem dX10_tear_6 : decode cX10_tear 6 = .ok (.iload_n 1, 1) := by decide +kernel
theorem dX10_tear_7 : decode cX10_tear 7 = .ok (.iload_n 2, 1) := by decide +kernel
theorem dX10_tear_8 : decode cX10_tear 8 = .ok (.invokevirtual 143, 3) := by decide +kernel
theorem dX10_tear_11 : decode cX10_tear 11 = .ok (.ifCond .ne 5, 3) := by decide +kernel
theorem dX10_tear_14 : decode cX10_tear 14 = .ok (.iconst 0, 1) := by decide +kernel
theorem dX10_tear_15 : decode cX10_tear 15 = .ok (.ireturn, 1) := by decide +kernel
theorem dX10_tear_16 : decode cX10_tear 16 = .ok (.aload_n 0, 1) := by decide +kernel
theorem dX10_tear_17 : decode cX10_tear 17 = .ok (.getfield 17, 3) := by decide +kernel
theorem dX10_tear_20 : decode cX10_tear 20 = .ok (.bipush 20, 2) := by decide +kernel
theorem dX10_tear_22 : decode cX10_tear 22 = .ok (.iload_n 1, 1) := by decide +kernel
theorem dX10_tear_23 : decode cX10_tear 23 = .ok (.imul, 1) := by decide +kernel
theorem dX10_tear_24 : decode cX10_tear 24 = .ok (.iload_n 2, 1) := by decide +kernel
theorem dX10_tear_25 : decode cX10_tear 25 = .ok (.iadd, 1) := by decide +kernel
theorem dX10_tear_26 : decode cX10_tear 26 = .ok (.iaload, 1) := by decide +kernel
theorem dX10_tear_27 : decode cX10_tear 27 = .ok (.istore_n 3, 1) := by decide +kernel
theorem dX10_tear_28 : decode cX10_tear 28 = .ok (.aload_n 0, 1) := by decide +kernel
theorem dX10_tear_29 : decode cX10_tear 29 = .ok (.getfield 17, 3) := by decide +kernel
theorem dX10_tear_32 : decode cX10_tear 32 = .ok (.bipush 20, 2) := by decide +kernel
theorem dX10_tear_34 : decode cX10_tear 34 = .ok (.iload_n 1, 1) := by decide +kernel
theorem dX10_tear_35 : decode cX10_tear 35 = .ok (.imul, 1) := by decide +kernel
theorem dX10_tear_36 : decode cX10_tear 36 = .ok (.iload_n 2, 1) := by decide +kernel
theorem dX10_tear_37 : decode cX10_tear 37 = .ok (.iadd, 1) := by decide +kernel
theorem dX10_tear_38 : decode cX10_tear 38 = .ok (.iconst (-1), 1) := by decide +kernel
theorem dX10_tear_39 : decode cX10_tear 39 = .ok (.iastore, 1) := by decide +kernel
theorem dX10_tear_40 : decode cX10_tear 40 = .ok (.iload_n 3, 1) := by decide +kernel
theorem dX10_tear_41 : decode cX10_tear 41 = .ok (.ireturn, 1) := by decide +kernel
theorem dX10_pieces_0 : decode cX10_pieces 0 = .ok (.aload_n 0, 1) := by decide +kernel
theorem dX10_pieces_1 : decode cX10_pieces 1 = .ok (.getfield 27, 3) := by decide +kernel
theorem dX10_pieces_4 : decode cX10_pieces 4 = .ok (.iload_n 1, 1) := by decide +kernel
theorem dX10_pieces_5 : decode cX10_pieces 5 = .ok (.iaload, 1) := by decide +kernel
theorem dX10_pieces_6 : decode cX10_pieces 6 = .ok (.iconst 1, 1) := by decide +kernel
theorem dX10_pieces_7 : decode cX10_pieces 7 = .ok (.if_icmp .ne 7, 3) := by decide +kernel
theorem dX10_pieces_10 : decode cX10_pieces 10 = .ok (.iconst 2, 1) := by decide +kernel
theorem dX10_pieces_11 : decode cX10_pieces 11 = .ok (.goto 4, 3) := by decide +kernel
theorem dX10_pieces_14 : decode cX10_pieces 14 = .ok (.iconst 1, 1) := by decide +kernel
theorem dX10_pieces_15 : decode cX10_pieces 15 = .ok (.ireturn, 1) := by decide +kernel
theorem dX10_at_0 : decode cX10_at 0 = .ok (.aload_n 0, 1) := by decide +kernel
theorem dX10_at_1 : decode cX10_at 1 = .ok (.getfield 36, 3) := by decide +kernel
theorem dX10_at_4 : decode cX10_at 4 = .ok (.bipush 9, 2) := by decide +kernel
theorem dX10_at_6 : decode cX10_at 6 = .ok (.iload_n 1, 1) := by decide +kernel
theorem dX10_at_7 : decode cX10_at 7 = .ok (.imul, 1) := by decide +kernel
theorem dX10_at_8 : decode cX10_at 8 = .ok (.iconst 3, 1) := by decide +kernel
theorem dX10_at_9 : decode cX10_at 9 = .ok (.iload_n 2, 1) := by decide +kernel
theorem dX10_at_10 : decode cX10_at 10 = .ok (.imul, 1) := by decide +kernel
theorem dX10_at_11 : decode cX10_at 11 = .ok (.iadd, 1) := by decide +kernel
theorem dX10_at_12 : decode cX10_at 12 = .ok (.iload_n 3, 1) := by decide +kernel
theorem dX10_at_13 : decode cX10_at 13 = .ok (.iadd, 1) := by decide +kernel
theorem dX10_at_14 : decode cX10_at 14 = .ok (.iaload, 1) := by decide +kernel
theorem dX10_at_15 : decode cX10_at 15 = .ok (.ireturn, 1) := by decide +kernel
theorem dX10_setPieces_0 : decode cX10_setPieces 0 = .ok (.iconst 0, 1) := by decide +kernel
theorem dX10_setPieces_1 : decode cX10_setPieces 1 = .ok (.istore 5, 2) := by decide +kernel
theorem dX10_setPieces_3 : decode cX10_setPieces 3 = .ok (.iload 5, 2) := by decide +kernel
theorem dX10_setPieces_5 : decode cX10_setPieces 5 = .ok (.iconst 3, 1) := by decide +kernel
theorem dX10_setPieces_6 : decode cX10_setPieces 6 = .ok (.if_icmp .ge 91, 3) := by decide +kernel
theorem dX10_setPieces_9 : decode cX10_setPieces 9 = .ok (.aload_n 0, 1) := by decide +kernel
theorem dX10_setPieces_10 : decode cX10_setPieces 10 = .ok (.getfield 46, 3) := by decide +kernel
theorem dX10_setPieces_13 : decode cX10_setPieces 13 = .ok (.iload 5, 2) := by decide +kernel
theorem dX10_setPieces_15 : decode cX10_setPieces 15 = .ok (.aload_n 0, 1) := by decide +kernel
theorem dX10_setPieces_16 : decode cX10_setPieces 16 = .ok (.iload_n 1, 1) := by decide +kernel
theorem dX10_setPieces_17 : decode cX10_setPieces 17 = .ok (.iload_n 2, 1) := by decide +kernel
theorem dX10_setPieces_18 : decode cX10_setPieces 18 = .ok (.iconst 1, 1) := by decide +kernel
theorem dX10_setPieces_19 : decode cX10_setPieces 19 = .ok (.iadd, 1) := by decide +kernel
theorem dX10_setPieces_20 : decode cX10_setPieces 20 = .ok (.iload 5, 2) := by decide +kernel
theorem dX10_setPieces_22 : decode cX10_setPieces 22 = .ok (.invokevirtual 151, 3) := by decide +kernel
theorem dX10_setPieces_25 : decode cX10_setPieces 25 = .ok (.aload_n 0, 1) := by decide +kernel
theorem dX10_setPieces_26 : decode cX10_setPieces 26 = .ok (.iload_n 1, 1) := by decide +kernel
theorem dX10_setPieces_27 : decode cX10_setPieces 27 = .ok (.iload_n 2, 1) := by decide +kernel
theorem dX10_setPieces_28 : decode cX10_setPieces 28 = .ok (.iload 5, 2) := by decide +kernel
theorem dX10_setPieces_30 : decode cX10_setPieces 30 = .ok (.invokevirtual 151, 3) := by decide +kernel
theorem dX10_setPieces_33 : decode cX10_setPieces 33 = .ok (.isub, 1) := by decide +kernel
theorem dX10_setPieces_34 : decode cX10_setPieces 34 = .ok (.i2l, 1) := by decide +kernel
theorem dX10_setPieces_35 : decode cX10_setPieces 35 = .ok (.lastore, 1) := by decide +kernel
theorem dX10_setPieces_36 : decode cX10_setPieces 36 = .ok (.aload_n 0, 1) := by decide +kernel
theorem dX10_setPieces_37 : decode cX10_setPieces 37 = .ok (.getfield 49, 3) := by decide +kernel
theorem dX10_setPieces_40 : decode cX10_setPieces 40 = .ok (.iload 5, 2) := by decide +kernel
theorem dX10_setPieces_42 : decode cX10_setPieces 42 = .ok (.aload_n 0, 1) := by decide +kernel
theorem dX10_setPieces_43 : decode cX10_setPieces 43 = .ok (.iload_n 3, 1) := by decide +kernel
theorem dX10_setPieces_44 : decode cX10_setPieces 44 = .ok (.iload 4, 2) := by decide +kernel
theorem dX10_setPieces_46 : decode cX10_setPieces 46 = .ok (.iconst 1, 1) := by decide +kernel
theorem dX10_setPieces_47 : decode cX10_setPieces 47 = .ok (.iadd, 1) := by decide +kernel
theorem dX10_setPieces_48 : decode cX10_setPieces 48 = .ok (.iload 5, 2) := by decide +kernel
theorem dX10_setPieces_50 : decode cX10_setPieces 50 = .ok (.invokevirtual 151, 3) := by decide +kernel
theorem dX10_setPieces_53 : decode cX10_setPieces 53 = .ok (.aload_n 0, 1) := by decide +kernel
theorem dX10_setPieces_54 : decode cX10_setPieces 54 = .ok (.iload_n 3, 1) := by decide +kernel
theorem dX10_setPieces_55 : decode cX10_setPieces 55 = .ok (.iload 4, 2) := by decide +kernel
theorem dX10_setPieces_57 : decode cX10_setPieces 57 = .ok (.iload 5, 2) := by decide +kernel
theorem dX10_setPieces_59 : decode cX10_setPieces 59 = .ok (.invokevirtual 151, 3) := by decide +kernel
theorem dX10_setPieces_62 : decode cX10_setPieces 62 = .ok (.isub, 1) := by decide +kernel
theorem dX10_setPieces_63 : decode cX10_setPieces 63 = .ok (.i2l, 1) := by decide +kernel
theorem dX10_setPieces_64 : decode cX10_setPieces 64 = .ok (.lastore, 1) := by decide +kernel
theorem dX10_setPieces_65 : decode cX10_setPieces 65 = .ok (.aload_n 0, 1) := by decide +kernel
theorem dX10_setPieces_66 : decode cX10_setPieces 66 = .ok (.getfield 52, 3) := by decide +kernel
theorem dX10_setPieces_69 : decode cX10_setPieces 69 = .ok (.iload 5, 2) := by decide +kernel
theorem dX10_setPieces_71 : decode cX10_setPieces 71 = .ok (.aload_n 0, 1) := by decide +kernel
theorem dX10_setPieces_72 : decode cX10_setPieces 72 = .ok (.iload_n 3, 1) := by decide +kernel
theorem dX10_setPieces_73 : decode cX10_setPieces 73 = .ok (.iload 4, 2) := by decide +kernel
theorem dX10_setPieces_75 : decode cX10_setPieces 75 = .ok (.iload 5, 2) := by decide +kernel
theorem dX10_setPieces_77 : decode cX10_setPieces 77 = .ok (.invokevirtual 151, 3) := by decide +kernel
theorem dX10_setPieces_80 : decode cX10_setPieces 80 = .ok (.aload_n 0, 1) := by decide +kernel
theorem dX10_setPieces_81 : decode cX10_setPieces 81 = .ok (.iload_n 1, 1) := by decide +kernel
theorem dX10_setPieces_82 : decode cX10_setPieces 82 = .ok (.iload_n 2, 1) := by decide +kernel
theorem dX10_setPieces_83 : decode cX10_setPieces 83 = .ok (.iload 5, 2) := by decide +kernel
theorem dX10_setPieces_85 : decode cX10_setPieces 85 = .ok (.invokevirtual 151, 3) := by decide +kernel
theorem dX10_setPieces_88 : decode cX10_setPieces 88 = .ok (.isub, 1) := by decide +kernel
theorem dX10_setPieces_89 : decode cX10_setPieces 89 = .ok (.i2l, 1) := by decide +kernel
theorem dX10_setPieces_90 : decode cX10_setPieces 90 = .ok (.lastore, 1) := by decide +kernel
theorem dX10_setPieces_91 : decode cX10_setPieces 91 = .ok (.iinc 5 1, 3) := by decide +kernel
theorem dX10_setPieces_94 : decode cX10_setPieces 94 = .ok (.goto (-91), 3) := by decide +kernel
theorem dX10_setPieces_97 : decode cX10_setPieces 97 = .ok (.aload_n 0, 1) := by decide +kernel
theorem dX10_setPieces_98 : decode cX10_setPieces 98 = .ok (.getfield 55, 3) := by decide +kernel
theorem dX10_setPieces_101 : decode cX10_setPieces 101 = .ok (.iconst 0, 1) := by decide +kernel
theorem dX10_setPieces_102 : decode cX10_setPieces 102 = .ok (.aload_n 0, 1) := by decide +kernel
theorem dX10_setPieces_103 : decode cX10_setPieces 103 = .ok (.getfield 155, 3) := by decide +kernel
theorem dX10_setPieces_106 : decode cX10_setPieces 106 = .ok (.i2l, 1) := by decide +kernel
theorem dX10_setPieces_107 : decode cX10_setPieces 107 = .ok (.lastore, 1) := by decide +kernel
theorem dX10_setPieces_108 : decode cX10_setPieces 108 = .ok (.aload_n 0, 1) := by decide +kernel
theorem dX10_setPieces_109 : decode cX10_setPieces 109 = .ok (.getfield 55, 3) := by decide +kernel
theorem dX10_setPieces_112 : decode cX10_setPieces 112 = .ok (.iconst 1, 1) := by decide +kernel
theorem dX10_setPieces_113 : decode cX10_setPieces 113 = .ok (.aload_n 0, 1) := by decide +kernel
theorem dX10_setPieces_114 : decode cX10_setPieces 114 = .ok (.getfield 158, 3) := by decide +kernel
theorem dX10_setPieces_117 : decode cX10_setPieces 117 = .ok (.i2l, 1) := by decide +kernel
theorem dX10_setPieces_118 : decode cX10_setPieces 118 = .ok (.lastore, 1) := by decide +kernel
theorem dX10_setPieces_119 : decode cX10_setPieces 119 = .ok (.aload_n 0, 1) := by decide +kernel
theorem dX10_setPieces_120 : decode cX10_setPieces 120 = .ok (.getfield 55, 3) := by decide +kernel
theorem dX10_setPieces_123 : decode cX10_setPieces 123 = .ok (.iconst 2, 1) := by decide +kernel
theorem dX10_setPieces_124 : decode cX10_setPieces 124 = .ok (.aload_n 0, 1) := by decide +kernel
theorem dX10_setPieces_125 : decode cX10_setPieces 125 = .ok (.getfield 43, 3) := by decide +kernel
theorem dX10_setPieces_128 : decode cX10_setPieces 128 = .ok (.i2l, 1) := by decide +kernel
theorem dX10_setPieces_129 : decode cX10_setPieces 129 = .ok (.lastore, 1) := by decide +kernel
theorem dX10_setPieces_130 : decode cX10_setPieces 130 = .ok (.return_, 1) := by decide +kernel
theorem dX10_cross_0 : decode cX10_cross 0 = .ok (.iload_n 2, 1) := by decide +kernel
theorem dX10_cross_1 : decode cX10_cross 1 = .ok (.iconst 1, 1) := by decide +kernel
theorem dX10_cross_2 : decode cX10_cross 2 = .ok (.iadd, 1) := by decide +kernel
theorem dX10_cross_3 : decode cX10_cross 3 = .ok (.iconst 3, 1) := by decide +kernel
theorem dX10_cross_4 : decode cX10_cross 4 = .ok (.irem, 1) := by decide +kernel
theorem dX10_cross_5 : decode cX10_cross 5 = .ok (.istore_n 3, 1) := by decide +kernel
theorem dX10_cross_6 : decode cX10_cross 6 = .ok (.iload_n 2, 1) := by decide +kernel
theorem dX10_cross_7 : decode cX10_cross 7 = .ok (.iconst 2, 1) := by decide +kernel
theorem dX10_cross_8 : decode cX10_cross 8 = .ok (.iadd, 1) := by decide +kernel
theorem dX10_cross_9 : decode cX10_cross 9 = .ok (.iconst 3, 1) := by decide +kernel
theorem dX10_cross_10 : decode cX10_cross 10 = .ok (.irem, 1) := by decide +kernel
theorem dX10_cross_11 : decode cX10_cross 11 = .ok (.istore 4, 2) := by decide +kernel
theorem dX10_cross_13 : decode cX10_cross 13 = .ok (.aload_n 0, 1) := by decide +kernel
theorem dX10_cross_14 : decode cX10_cross 14 = .ok (.iload_n 3, 1) := by decide +kernel
theorem dX10_cross_15 : decode cX10_cross 15 = .ok (.laload, 1) := by decide +kernel
theorem dX10_cross_16 : decode cX10_cross 16 = .ok (.aload_n 1, 1) := by decide +kernel
theorem dX10_cross_17 : decode cX10_cross 17 = .ok (.iload 4, 2) := by decide +kernel
theorem dX10_cross_19 : decode cX10_cross 19 = .ok (.laload, 1) := by decide +kernel
theorem dX10_cross_20 : decode cX10_cross 20 = .ok (.lmul, 1) := by decide +kernel
theorem dX10_cross_21 : decode cX10_cross 21 = .ok (.aload_n 0, 1) := by decide +kernel
theorem dX10_cross_22 : decode cX10_cross 22 = .ok (.iload 4, 2) := by decide +kernel
theorem dX10_cross_24 : decode cX10_cross 24 = .ok (.laload, 1) := by decide +kernel
theorem dX10_cross_25 : decode cX10_cross 25 = .ok (.aload_n 1, 1) := by decide +kernel
theorem dX10_cross_26 : decode cX10_cross 26 = .ok (.iload_n 3, 1) := by decide +kernel
theorem dX10_cross_27 : decode cX10_cross 27 = .ok (.laload, 1) := by decide +kernel
theorem dX10_cross_28 : decode cX10_cross 28 = .ok (.lmul, 1) := by decide +kernel
theorem dX10_cross_29 : decode cX10_cross 29 = .ok (.lsub, 1) := by decide +kernel
theorem dX10_cross_30 : decode cX10_cross 30 = .ok (.lreturn, 1) := by decide +kernel
theorem dX10_determinant_0 : decode cX10_determinant 0 = .ok (.aload_n 0, 1) := by decide +kernel
theorem dX10_determinant_1 : decode cX10_determinant 1 = .ok (.iconst 0, 1) := by decide +kernel
theorem dX10_determinant_2 : decode cX10_determinant 2 = .ok (.laload, 1) := by decide +kernel
theorem dX10_determinant_3 : decode cX10_determinant 3 = .ok (.aload_n 1, 1) := by decide +kernel
theorem dX10_determinant_4 : decode cX10_determinant 4 = .ok (.aload_n 2, 1) := by decide +kernel
theorem dX10_determinant_5 : decode cX10_determinant 5 = .ok (.iconst 0, 1) := by decide +kernel
theorem dX10_determinant_6 : decode cX10_determinant 6 = .ok (.invokestatic 161, 3) := by decide +kernel
theorem dX10_determinant_9 : decode cX10_determinant 9 = .ok (.lmul, 1) := by decide +kernel
theorem dX10_determinant_10 : decode cX10_determinant 10 = .ok (.aload_n 0, 1) := by decide +kernel
theorem dX10_determinant_11 : decode cX10_determinant 11 = .ok (.iconst 1, 1) := by decide +kernel
theorem dX10_determinant_12 : decode cX10_determinant 12 = .ok (.laload, 1) := by decide +kernel
theorem dX10_determinant_13 : decode cX10_determinant 13 = .ok (.aload_n 1, 1) := by decide +kernel
theorem dX10_determinant_14 : decode cX10_determinant 14 = .ok (.aload_n 2, 1) := by decide +kernel
theorem dX10_determinant_15 : decode cX10_determinant 15 = .ok (.iconst 1, 1) := by decide +kernel
theorem dX10_determinant_16 : decode cX10_determinant 16 = .ok (.invokestatic 161, 3) := by decide +kernel
theorem dX10_determinant_19 : decode cX10_determinant 19 = .ok (.lmul, 1) := by decide +kernel
theorem dX10_determinant_20 : decode cX10_determinant 20 = .ok (.ladd, 1) := by decide +kernel
theorem dX10_determinant_21 : decode cX10_determinant 21 = .ok (.aload_n 0, 1) := by decide +kernel
theorem dX10_determinant_22 : decode cX10_determinant 22 = .ok (.iconst 2, 1) := by decide +kernel
theorem dX10_determinant_23 : decode cX10_determinant 23 = .ok (.laload, 1) := by decide +kernel
theorem dX10_determinant_24 : decode cX10_determinant 24 = .ok (.aload_n 1, 1) := by decide +kernel
theorem dX10_determinant_25 : decode cX10_determinant 25 = .ok (.aload_n 2, 1) := by decide +kernel
theorem dX10_determinant_26 : decode cX10_determinant 26 = .ok (.iconst 2, 1) := by decide +kernel
theorem dX10_determinant_27 : decode cX10_determinant 27 = .ok (.invokestatic 161, 3) := by decide +kernel
theorem dX10_determinant_30 : decode cX10_determinant 30 = .ok (.lmul, 1) := by decide +kernel
theorem dX10_determinant_31 : decode cX10_determinant 31 = .ok (.ladd, 1) := by decide +kernel
theorem dX10_determinant_32 : decode cX10_determinant 32 = .ok (.lreturn, 1) := by decide +kernel
theorem dX10_isAlong_0 : decode cX10_isAlong 0 = .ok (.aload_n 0, 1) := by decide +kernel
theorem dX10_isAlong_1 : decode cX10_isAlong 1 = .ok (.aload_n 1, 1) := by decide +kernel
theorem dX10_isAlong_2 : decode cX10_isAlong 2 = .ok (.iconst 0, 1) := by decide +kernel
theorem dX10_isAlong_3 : decode cX10_isAlong 3 = .ok (.invokestatic 161, 3) := by decide +kernel
theorem dX10_isAlong_6 : decode cX10_isAlong 6 = .ok (.lconst 0, 1) := by decide +kernel
theorem dX10_isAlong_7 : decode cX10_isAlong 7 = .ok (.lcmp, 1) := by decide +kernel
theorem dX10_isAlong_8 : decode cX10_isAlong 8 = .ok (.ifCond .ne 29, 3) := by decide +kernel
theorem dX10_isAlong_11 : decode cX10_isAlong 11 = .ok (.aload_n 0, 1) := by decide +kernel
theorem dX10_isAlong_12 : decode cX10_isAlong 12 = .ok (.aload_n 1, 1) := by decide +kernel
theorem dX10_isAlong_13 : decode cX10_isAlong 13 = .ok (.iconst 1, 1) := by decide +kernel
theorem dX10_isAlong_14 : decode cX10_isAlong 14 = .ok (.invokestatic 161, 3) := by decide +kernel
theorem dX10_isAlong_17 : decode cX10_isAlong 17 = .ok (.lconst 0, 1) := by decide +kernel
theorem dX10_isAlong_18 : decode cX10_isAlong 18 = .ok (.lcmp, 1) := by decide +kernel
theorem dX10_isAlong_19 : decode cX10_isAlong 19 = .ok (.ifCond .ne 18, 3) := by decide +kernel
theorem dX10_isAlong_22 : decode cX10_isAlong 22 = .ok (.aload_n 0, 1) := by decide +kernel
theorem dX10_isAlong_23 : decode cX10_isAlong 23 = .ok (.aload_n 1, 1) := by decide +kernel
theorem dX10_isAlong_24 : decode cX10_isAlong 24 = .ok (.iconst 2, 1) := by decide +kernel
theorem dX10_isAlong_25 : decode cX10_isAlong 25 = .ok (.invokestatic 161, 3) := by decide +kernel
theorem dX10_isAlong_28 : decode cX10_isAlong 28 = .ok (.lconst 0, 1) := by decide +kernel
theorem dX10_isAlong_29 : decode cX10_isAlong 29 = .ok (.lcmp, 1) := by decide +kernel
theorem dX10_isAlong_30 : decode cX10_isAlong 30 = .ok (.ifCond .ne 7, 3) := by decide +kernel
theorem dX10_isAlong_33 : decode cX10_isAlong 33 = .ok (.iconst 1, 1) := by decide +kernel
theorem dX10_isAlong_34 : decode cX10_isAlong 34 = .ok (.goto 4, 3) := by decide +kernel
theorem dX10_isAlong_37 : decode cX10_isAlong 37 = .ok (.iconst 0, 1) := by decide +kernel
theorem dX10_isAlong_38 : decode cX10_isAlong 38 = .ok (.ireturn, 1) := by decide +kernel
theorem dX10_dot_0 : decode cX10_dot 0 = .ok (.aload_n 0, 1) := by decide +kernel
theorem dX10_dot_1 : decode cX10_dot 1 = .ok (.iconst 0, 1) := by decide +kernel
theorem dX10_dot_2 : decode cX10_dot 2 = .ok (.laload, 1) := by decide +kernel
theorem dX10_dot_3 : decode cX10_dot 3 = .ok (.aload_n 1, 1) := by decide +kernel
theorem dX10_dot_4 : decode cX10_dot 4 = .ok (.iconst 0, 1) := by decide +kernel
theorem dX10_dot_5 : decode cX10_dot 5 = .ok (.laload, 1) := by decide +kernel
theorem dX10_dot_6 : decode cX10_dot 6 = .ok (.lmul, 1) := by decide +kernel
theorem dX10_dot_7 : decode cX10_dot 7 = .ok (.aload_n 0, 1) := by decide +kernel
theorem dX10_dot_8 : decode cX10_dot 8 = .ok (.iconst 1, 1) := by decide +kernel
theorem dX10_dot_9 : decode cX10_dot 9 = .ok (.laload, 1) := by decide +kernel
theorem dX10_dot_10 : decode cX10_dot 10 = .ok (.aload_n 1, 1) := by decide +kernel
theorem dX10_dot_11 : decode cX10_dot 11 = .ok (.iconst 1, 1) := by decide +kernel
theorem dX10_dot_12 : decode cX10_dot 12 = .ok (.laload, 1) := by decide +kernel
theorem dX10_dot_13 : decode cX10_dot 13 = .ok (.lmul, 1) := by decide +kernel
theorem dX10_dot_14 : decode cX10_dot 14 = .ok (.ladd, 1) := by decide +kernel
theorem dX10_dot_15 : decode cX10_dot 15 = .ok (.aload_n 0, 1) := by decide +kernel
theorem dX10_dot_16 : decode cX10_dot 16 = .ok (.iconst 2, 1) := by decide +kernel
theorem dX10_dot_17 : decode cX10_dot 17 = .ok (.laload, 1) := by decide +kernel
theorem dX10_dot_18 : decode cX10_dot 18 = .ok (.aload_n 1, 1) := by decide +kernel
theorem dX10_dot_19 : decode cX10_dot 19 = .ok (.iconst 2, 1) := by decide +kernel
theorem dX10_dot_20 : decode cX10_dot 20 = .ok (.laload, 1) := by decide +kernel
theorem dX10_dot_21 : decode cX10_dot 21 = .ok (.lmul, 1) := by decide +kernel
theorem dX10_dot_22 : decode cX10_dot 22 = .ok (.ladd, 1) := by decide +kernel
theorem dX10_dot_23 : decode cX10_dot 23 = .ok (.lreturn, 1) := by decide +kernel
theorem dX10_isPart_0 : decode cX10_isPart 0 = .ok (.lload_n 2, 1) := by decide +kernel
theorem dX10_isPart_1 : decode cX10_isPart 1 = .ok (.lconst 0, 1) := by decide +kernel
theorem dX10_isPart_2 : decode cX10_isPart 2 = .ok (.lcmp, 1) := by decide +kernel
theorem dX10_isPart_3 : decode cX10_isPart 3 = .ok (.ifCond .le 23, 3) := by decide +kernel
theorem dX10_isPart_6 : decode cX10_isPart 6 = .ok (.lload_n 0, 1) := by decide +kernel
theorem dX10_isPart_7 : decode cX10_isPart 7 = .ok (.lconst 0, 1) := by decide +kernel
theorem dX10_isPart_8 : decode cX10_isPart 8 = .ok (.lcmp, 1) := by decide +kernel
theorem dX10_isPart_9 : decode cX10_isPart 9 = .ok (.ifCond .lt 13, 3) := by decide +kernel
theorem dX10_isPart_12 : decode cX10_isPart 12 = .ok (.lload_n 0, 1) := by decide +kernel
theorem dX10_isPart_13 : decode cX10_isPart 13 = .ok (.lload_n 2, 1) := by decide +kernel
theorem dX10_isPart_14 : decode cX10_isPart 14 = .ok (.lcmp, 1) := by decide +kernel
theorem dX10_isPart_15 : decode cX10_isPart 15 = .ok (.ifCond .gt 7, 3) := by decide +kernel
theorem dX10_isPart_18 : decode cX10_isPart 18 = .ok (.iconst 1, 1) := by decide +kernel
theorem dX10_isPart_19 : decode cX10_isPart 19 = .ok (.goto 24, 3) := by decide +kernel
theorem dX10_isPart_22 : decode cX10_isPart 22 = .ok (.iconst 0, 1) := by decide +kernel
theorem dX10_isPart_23 : decode cX10_isPart 23 = .ok (.goto 20, 3) := by decide +kernel
theorem dX10_isPart_26 : decode cX10_isPart 26 = .ok (.lload_n 0, 1) := by decide +kernel
theorem dX10_isPart_27 : decode cX10_isPart 27 = .ok (.lconst 0, 1) := by decide +kernel
theorem dX10_isPart_28 : decode cX10_isPart 28 = .ok (.lcmp, 1) := by decide +kernel
theorem dX10_isPart_29 : decode cX10_isPart 29 = .ok (.ifCond .gt 13, 3) := by decide +kernel
theorem dX10_isPart_32 : decode cX10_isPart 32 = .ok (.lload_n 0, 1) := by decide +kernel
theorem dX10_isPart_33 : decode cX10_isPart 33 = .ok (.lload_n 2, 1) := by decide +kernel
theorem dX10_isPart_34 : decode cX10_isPart 34 = .ok (.lcmp, 1) := by decide +kernel
theorem dX10_isPart_35 : decode cX10_isPart 35 = .ok (.ifCond .lt 7, 3) := by decide +kernel
theorem dX10_isPart_38 : decode cX10_isPart 38 = .ok (.iconst 1, 1) := by decide +kernel
theorem dX10_isPart_39 : decode cX10_isPart 39 = .ok (.goto 4, 3) := by decide +kernel
theorem dX10_isPart_42 : decode cX10_isPart 42 = .ok (.iconst 0, 1) := by decide +kernel
theorem dX10_isPart_43 : decode cX10_isPart 43 = .ok (.ireturn, 1) := by decide +kernel
theorem dX10_touch_0 : decode cX10_touch 0 = .ok (.aload_n 0, 1) := by decide +kernel
theorem dX10_touch_1 : decode cX10_touch 1 = .ok (.getfield 46, 3) := by decide +kernel
theorem dX10_touch_4 : decode cX10_touch 4 = .ok (.aload_n 0, 1) := by decide +kernel
theorem dX10_touch_5 : decode cX10_touch 5 = .ok (.getfield 49, 3) := by decide +kernel
theorem dX10_touch_8 : decode cX10_touch 8 = .ok (.invokestatic 165, 3) := by decide +kernel
theorem dX10_touch_11 : decode cX10_touch 11 = .ok (.ifCond .eq 108, 3) := by decide +kernel
theorem dX10_touch_14 : decode cX10_touch 14 = .ok (.aload_n 0, 1) := by decide +kernel
theorem dX10_touch_15 : decode cX10_touch 15 = .ok (.getfield 46, 3) := by decide +kernel
theorem dX10_touch_18 : decode cX10_touch 18 = .ok (.aload_n 0, 1) := by decide +kernel
theorem dX10_touch_19 : decode cX10_touch 19 = .ok (.getfield 52, 3) := by decide +kernel
theorem dX10_touch_22 : decode cX10_touch 22 = .ok (.invokestatic 165, 3) := by decide +kernel
theorem dX10_touch_25 : decode cX10_touch 25 = .ok (.ifCond .ne 5, 3) := by decide +kernel
theorem dX10_touch_28 : decode cX10_touch 28 = .ok (.iconst 0, 1) := by decide +kernel
theorem dX10_touch_29 : decode cX10_touch 29 = .ok (.ireturn, 1) := by decide +kernel
theorem dX10_touch_30 : decode cX10_touch 30 = .ok (.aload_n 0, 1) := by decide +kernel
theorem dX10_touch_31 : decode cX10_touch 31 = .ok (.getfield 46, 3) := by decide +kernel
theorem dX10_touch_34 : decode cX10_touch 34 = .ok (.aload_n 0, 1) := by decide +kernel
theorem dX10_touch_35 : decode cX10_touch 35 = .ok (.getfield 46, 3) := by decide +kernel
theorem dX10_touch_38 : decode cX10_touch 38 = .ok (.invokestatic 169, 3) := by decide +kernel
theorem dX10_touch_41 : decode cX10_touch 41 = .ok (.lstore_n 1, 1) := by decide +kernel
theorem dX10_touch_42 : decode cX10_touch 42 = .ok (.aload_n 0, 1) := by decide +kernel
theorem dX10_touch_43 : decode cX10_touch 43 = .ok (.getfield 52, 3) := by decide +kernel
theorem dX10_touch_46 : decode cX10_touch 46 = .ok (.aload_n 0, 1) := by decide +kernel
theorem dX10_touch_47 : decode cX10_touch 47 = .ok (.getfield 46, 3) := by decide +kernel
theorem dX10_touch_50 : decode cX10_touch 50 = .ok (.invokestatic 169, 3) := by decide +kernel
theorem dX10_touch_53 : decode cX10_touch 53 = .ok (.lstore_n 3, 1) := by decide +kernel
theorem dX10_touch_54 : decode cX10_touch 54 = .ok (.lload_n 3, 1) := by decide +kernel
theorem dX10_touch_55 : decode cX10_touch 55 = .ok (.aload_n 0, 1) := by decide +kernel
theorem dX10_touch_56 : decode cX10_touch 56 = .ok (.getfield 49, 3) := by decide +kernel
theorem dX10_touch_59 : decode cX10_touch 59 = .ok (.aload_n 0, 1) := by decide +kernel
theorem dX10_touch_60 : decode cX10_touch 60 = .ok (.getfield 46, 3) := by decide +kernel
theorem dX10_touch_63 : decode cX10_touch 63 = .ok (.invokestatic 169, 3) := by decide +kernel
theorem dX10_touch_66 : decode cX10_touch 66 = .ok (.ladd, 1) := by decide +kernel
theorem dX10_touch_67 : decode cX10_touch 67 = .ok (.lstore 5, 2) := by decide +kernel
theorem dX10_touch_69 : decode cX10_touch 69 = .ok (.lload_n 3, 1) := by decide +kernel
theorem dX10_touch_70 : decode cX10_touch 70 = .ok (.lload 5, 2) := by decide +kernel
theorem dX10_touch_72 : decode cX10_touch 72 = .ok (.lcmp, 1) := by decide +kernel
theorem dX10_touch_73 : decode cX10_touch 73 = .ok (.ifCond .ge 7, 3) := by decide +kernel
theorem dX10_touch_76 : decode cX10_touch 76 = .ok (.lload_n 3, 1) := by decide +kernel
theorem dX10_touch_77 : decode cX10_touch 77 = .ok (.goto 5, 3) := by decide +kernel
theorem dX10_touch_80 : decode cX10_touch 80 = .ok (.lload 5, 2) := by decide +kernel
theorem dX10_touch_82 : decode cX10_touch 82 = .ok (.lstore 7, 2) := by decide +kernel
theorem dX10_touch_84 : decode cX10_touch 84 = .ok (.lload_n 3, 1) := by decide +kernel
theorem dX10_touch_85 : decode cX10_touch 85 = .ok (.lload 5, 2) := by decide +kernel
theorem dX10_touch_87 : decode cX10_touch 87 = .ok (.lcmp, 1) := by decide +kernel
theorem dX10_touch_88 : decode cX10_touch 88 = .ok (.ifCond .ge 8, 3) := by decide +kernel
theorem dX10_touch_91 : decode cX10_touch 91 = .ok (.lload 5, 2) := by decide +kernel
theorem dX10_touch_93 : decode cX10_touch 93 = .ok (.goto 4, 3) := by decide +kernel
theorem dX10_touch_96 : decode cX10_touch 96 = .ok (.lload_n 3, 1) := by decide +kernel
theorem dX10_touch_97 : decode cX10_touch 97 = .ok (.lstore 9, 2) := by decide +kernel
theorem dX10_touch_99 : decode cX10_touch 99 = .ok (.lload 9, 2) := by decide +kernel
theorem dX10_touch_101 : decode cX10_touch 101 = .ok (.lconst 0, 1) := by decide +kernel
theorem dX10_touch_102 : decode cX10_touch 102 = .ok (.lcmp, 1) := by decide +kernel
theorem dX10_touch_103 : decode cX10_touch 103 = .ok (.ifCond .lt 14, 3) := by decide +kernel
theorem dX10_touch_106 : decode cX10_touch 106 = .ok (.lload 7, 2) := by decide +kernel
theorem dX10_touch_108 : decode cX10_touch 108 = .ok (.lload_n 1, 1) := by decide +kernel
theorem dX10_touch_109 : decode cX10_touch 109 = .ok (.lcmp, 1) := by decide +kernel
theorem dX10_touch_110 : decode cX10_touch 110 = .ok (.ifCond .gt 7, 3) := by decide +kernel
theorem dX10_touch_113 : decode cX10_touch 113 = .ok (.iconst 1, 1) := by decide +kernel
theorem dX10_touch_114 : decode cX10_touch 114 = .ok (.goto 4, 3) := by decide +kernel
theorem dX10_touch_117 : decode cX10_touch 117 = .ok (.iconst 0, 1) := by decide +kernel
theorem dX10_touch_118 : decode cX10_touch 118 = .ok (.ireturn, 1) := by decide +kernel
theorem dX10_touch_119 : decode cX10_touch 119 = .ok (.aload_n 0, 1) := by decide +kernel
theorem dX10_touch_120 : decode cX10_touch 120 = .ok (.getfield 46, 3) := by decide +kernel
theorem dX10_touch_123 : decode cX10_touch 123 = .ok (.aload_n 0, 1) := by decide +kernel
theorem dX10_touch_124 : decode cX10_touch 124 = .ok (.getfield 49, 3) := by decide +kernel
theorem dX10_touch_127 : decode cX10_touch 127 = .ok (.aload_n 0, 1) := by decide +kernel
theorem dX10_touch_128 : decode cX10_touch 128 = .ok (.getfield 52, 3) := by decide +kernel
theorem dX10_touch_131 : decode cX10_touch 131 = .ok (.invokestatic 173, 3) := by decide +kernel
theorem dX10_touch_134 : decode cX10_touch 134 = .ok (.lconst 0, 1) := by decide +kernel
theorem dX10_touch_135 : decode cX10_touch 135 = .ok (.lcmp, 1) := by decide +kernel
theorem dX10_touch_136 : decode cX10_touch 136 = .ok (.ifCond .eq 5, 3) := by decide +kernel
theorem dX10_touch_139 : decode cX10_touch 139 = .ok (.iconst 0, 1) := by decide +kernel
theorem dX10_touch_140 : decode cX10_touch 140 = .ok (.ireturn, 1) := by decide +kernel
theorem dX10_touch_141 : decode cX10_touch 141 = .ok (.aload_n 0, 1) := by decide +kernel
theorem dX10_touch_142 : decode cX10_touch 142 = .ok (.getfield 46, 3) := by decide +kernel
theorem dX10_touch_145 : decode cX10_touch 145 = .ok (.aload_n 0, 1) := by decide +kernel
theorem dX10_touch_146 : decode cX10_touch 146 = .ok (.getfield 49, 3) := by decide +kernel
theorem dX10_touch_149 : decode cX10_touch 149 = .ok (.iconst 0, 1) := by decide +kernel
theorem dX10_touch_150 : decode cX10_touch 150 = .ok (.invokestatic 161, 3) := by decide +kernel
theorem dX10_touch_153 : decode cX10_touch 153 = .ok (.lconst 0, 1) := by decide +kernel
theorem dX10_touch_154 : decode cX10_touch 154 = .ok (.lcmp, 1) := by decide +kernel
theorem dX10_touch_155 : decode cX10_touch 155 = .ok (.ifCond .eq 7, 3) := by decide +kernel
theorem dX10_touch_158 : decode cX10_touch 158 = .ok (.iconst 0, 1) := by decide +kernel
theorem dX10_touch_159 : decode cX10_touch 159 = .ok (.goto 25, 3) := by decide +kernel
theorem dX10_touch_162 : decode cX10_touch 162 = .ok (.aload_n 0, 1) := by decide +kernel
theorem dX10_touch_163 : decode cX10_touch 163 = .ok (.getfield 46, 3) := by decide +kernel
theorem dX10_touch_166 : decode cX10_touch 166 = .ok (.aload_n 0, 1) := by decide +kernel
theorem dX10_touch_167 : decode cX10_touch 167 = .ok (.getfield 49, 3) := by decide +kernel
theorem dX10_touch_170 : decode cX10_touch 170 = .ok (.iconst 1, 1) := by decide +kernel
theorem dX10_touch_171 : decode cX10_touch 171 = .ok (.invokestatic 161, 3) := by decide +kernel
theorem dX10_touch_174 : decode cX10_touch 174 = .ok (.lconst 0, 1) := by decide +kernel
theorem dX10_touch_175 : decode cX10_touch 175 = .ok (.lcmp, 1) := by decide +kernel
theorem dX10_touch_176 : decode cX10_touch 176 = .ok (.ifCond .eq 7, 3) := by decide +kernel
theorem dX10_touch_179 : decode cX10_touch 179 = .ok (.iconst 1, 1) := by decide +kernel
theorem dX10_touch_180 : decode cX10_touch 180 = .ok (.goto 4, 3) := by decide +kernel
theorem dX10_touch_183 : decode cX10_touch 183 = .ok (.iconst 2, 1) := by decide +kernel
theorem dX10_touch_184 : decode cX10_touch 184 = .ok (.istore_n 1, 1) := by decide +kernel
theorem dX10_touch_185 : decode cX10_touch 185 = .ok (.aload_n 0, 1) := by decide +kernel
theorem dX10_touch_186 : decode cX10_touch 186 = .ok (.getfield 46, 3) := by decide +kernel
theorem dX10_touch_189 : decode cX10_touch 189 = .ok (.aload_n 0, 1) := by decide +kernel
theorem dX10_touch_190 : decode cX10_touch 190 = .ok (.getfield 49, 3) := by decide +kernel
theorem dX10_touch_193 : decode cX10_touch 193 = .ok (.iload_n 1, 1) := by decide +kernel
theorem dX10_touch_194 : decode cX10_touch 194 = .ok (.invokestatic 161, 3) := by decide +kernel
theorem dX10_touch_197 : decode cX10_touch 197 = .ok (.lstore_n 2, 1) := by decide +kernel
theorem dX10_touch_198 : decode cX10_touch 198 = .ok (.aload_n 0, 1) := by decide +kernel
theorem dX10_touch_199 : decode cX10_touch 199 = .ok (.getfield 52, 3) := by decide +kernel
theorem dX10_touch_202 : decode cX10_touch 202 = .ok (.aload_n 0, 1) := by decide +kernel
theorem dX10_touch_203 : decode cX10_touch 203 = .ok (.getfield 49, 3) := by decide +kernel
theorem dX10_touch_206 : decode cX10_touch 206 = .ok (.iload_n 1, 1) := by decide +kernel
theorem dX10_touch_207 : decode cX10_touch 207 = .ok (.invokestatic 161, 3) := by decide +kernel
theorem dX10_touch_210 : decode cX10_touch 210 = .ok (.lload_n 2, 1) := by decide +kernel
theorem dX10_touch_211 : decode cX10_touch 211 = .ok (.invokestatic 177, 3) := by decide +kernel
theorem dX10_touch_214 : decode cX10_touch 214 = .ok (.ifCond .eq 26, 3) := by decide +kernel
theorem dX10_touch_217 : decode cX10_touch 217 = .ok (.aload_n 0, 1) := by decide +kernel
theorem dX10_touch_218 : decode cX10_touch 218 = .ok (.getfield 52, 3) := by decide +kernel
theorem dX10_touch_221 : decode cX10_touch 221 = .ok (.aload_n 0, 1) := by decide +kernel
theorem dX10_touch_222 : decode cX10_touch 222 = .ok (.getfield 46, 3) := by decide +kernel
theorem dX10_touch_225 : decode cX10_touch 225 = .ok (.iload_n 1, 1) := by decide +kernel
theorem dX10_touch_226 : decode cX10_touch 226 = .ok (.invokestatic 161, 3) := by decide +kernel
theorem dX10_touch_229 : decode cX10_touch 229 = .ok (.lload_n 2, 1) := by decide +kernel
theorem dX10_touch_230 : decode cX10_touch 230 = .ok (.invokestatic 177, 3) := by decide +kernel
theorem dX10_touch_233 : decode cX10_touch 233 = .ok (.ifCond .eq 7, 3) := by decide +kernel
theorem dX10_touch_236 : decode cX10_touch 236 = .ok (.iconst 1, 1) := by decide +kernel
theorem dX10_touch_237 : decode cX10_touch 237 = .ok (.goto 4, 3) := by decide +kernel
theorem dX10_touch_240 : decode cX10_touch 240 = .ok (.iconst 0, 1) := by decide +kernel
theorem dX10_touch_241 : decode cX10_touch 241 = .ok (.ireturn, 1) := by decide +kernel
theorem dX10_touched_0 : decode cX10_touched 0 = .ok (.iconst 0, 1) := by decide +kernel
theorem dX10_touched_1 : decode cX10_touched 1 = .ok (.istore_n 2, 1) := by decide +kernel
theorem dX10_touched_2 : decode cX10_touched 2 = .ok (.iload_n 2, 1) := by decide +kernel
theorem dX10_touched_3 : decode cX10_touched 3 = .ok (.aload_n 0, 1) := by decide +kernel
theorem dX10_touched_4 : decode cX10_touched 4 = .ok (.getfield 181, 3) := by decide +kernel
theorem dX10_touched_7 : decode cX10_touched 7 = .ok (.if_icmp .ge 80, 3) := by decide +kernel
theorem dX10_touched_10 : decode cX10_touched 10 = .ok (.aload_n 0, 1) := by decide +kernel
theorem dX10_touched_11 : decode cX10_touched 11 = .ok (.getfield 39, 3) := by decide +kernel
theorem dX10_touched_14 : decode cX10_touched 14 = .ok (.iload_n 2, 1) := by decide +kernel
theorem dX10_touched_15 : decode cX10_touched 15 = .ok (.baload, 1) := by decide +kernel
theorem dX10_touched_16 : decode cX10_touched 16 = .ok (.ifCond .eq 65, 3) := by decide +kernel
theorem dX10_touched_19 : decode cX10_touched 19 = .ok (.iload_n 2, 1) := by decide +kernel
theorem dX10_touched_20 : decode cX10_touched 20 = .ok (.iload_n 1, 1) := by decide +kernel
theorem dX10_touched_21 : decode cX10_touched 21 = .ok (.if_icmp .ne 6, 3) := by decide +kernel
theorem dX10_touched_24 : decode cX10_touched 24 = .ok (.goto 57, 3) := by decide +kernel
theorem dX10_touched_27 : decode cX10_touched 27 = .ok (.iconst 0, 1) := by decide +kernel
theorem dX10_touched_28 : decode cX10_touched 28 = .ok (.istore_n 3, 1) := by decide +kernel
theorem dX10_touched_29 : decode cX10_touched 29 = .ok (.iload_n 3, 1) := by decide +kernel
theorem dX10_touched_30 : decode cX10_touched 30 = .ok (.aload_n 0, 1) := by decide +kernel
theorem dX10_touched_31 : decode cX10_touched 31 = .ok (.iload_n 1, 1) := by decide +kernel
theorem dX10_touched_32 : decode cX10_touched 32 = .ok (.invokevirtual 184, 3) := by decide +kernel
theorem dX10_touched_35 : decode cX10_touched 35 = .ok (.if_icmp .ge 46, 3) := by decide +kernel
theorem dX10_touched_38 : decode cX10_touched 38 = .ok (.iconst 0, 1) := by decide +kernel
theorem dX10_touched_39 : decode cX10_touched 39 = .ok (.istore 4, 2) := by decide +kernel
theorem dX10_touched_41 : decode cX10_touched 41 = .ok (.iload 4, 2) := by decide +kernel
theorem dX10_touched_43 : decode cX10_touched 43 = .ok (.aload_n 0, 1) := by decide +kernel
theorem dX10_touched_44 : decode cX10_touched 44 = .ok (.iload_n 2, 1) := by decide +kernel
theorem dX10_touched_45 : decode cX10_touched 45 = .ok (.invokevirtual 184, 3) := by decide +kernel
theorem dX10_touched_48 : decode cX10_touched 48 = .ok (.if_icmp .ge 27, 3) := by decide +kernel
theorem dX10_touched_51 : decode cX10_touched 51 = .ok (.aload_n 0, 1) := by decide +kernel
theorem dX10_touched_52 : decode cX10_touched 52 = .ok (.iload_n 1, 1) := by decide +kernel
theorem dX10_touched_53 : decode cX10_touched 53 = .ok (.iload_n 3, 1) := by decide +kernel
theorem dX10_touched_54 : decode cX10_touched 54 = .ok (.iload_n 2, 1) := by decide +kernel
theorem dX10_touched_55 : decode cX10_touched 55 = .ok (.iload 4, 2) := by decide +kernel
theorem dX10_touched_57 : decode cX10_touched 57 = .ok (.invokevirtual 188, 3) := by decide +kernel
theorem dX10_touched_60 : decode cX10_touched 60 = .ok (.aload_n 0, 1) := by decide +kernel
theorem dX10_touched_61 : decode cX10_touched 61 = .ok (.invokevirtual 192, 3) := by decide +kernel
theorem dX10_touched_64 : decode cX10_touched 64 = .ok (.ifCond .eq 5, 3) := by decide +kernel
theorem dX10_touched_67 : decode cX10_touched 67 = .ok (.iload_n 2, 1) := by decide +kernel
theorem dX10_touched_68 : decode cX10_touched 68 = .ok (.ireturn, 1) := by decide +kernel
theorem dX10_touched_69 : decode cX10_touched 69 = .ok (.iinc 4 1, 3) := by decide +kernel
theorem dX10_touched_72 : decode cX10_touched 72 = .ok (.goto (-31), 3) := by decide +kernel
theorem dX10_touched_75 : decode cX10_touched 75 = .ok (.iinc 3 1, 3) := by decide +kernel
theorem dX10_touched_78 : decode cX10_touched 78 = .ok (.goto (-49), 3) := by decide +kernel
theorem dX10_touched_81 : decode cX10_touched 81 = .ok (.iinc 2 1, 3) := by decide +kernel
theorem dX10_touched_84 : decode cX10_touched 84 = .ok (.goto (-82), 3) := by decide +kernel
theorem dX10_touched_87 : decode cX10_touched 87 = .ok (.iconst (-1), 1) := by decide +kernel
theorem dX10_touched_88 : decode cX10_touched 88 = .ok (.ireturn, 1) := by decide +kernel
theorem dX10_acted_0 : decode cX10_acted 0 = .ok (.aload_n 0, 1) := by decide +kernel
theorem dX10_acted_1 : decode cX10_acted 1 = .ok (.getfield 196, 3) := by decide +kernel
theorem dX10_acted_4 : decode cX10_acted 4 = .ok (.bipush 8, 2) := by decide +kernel
theorem dX10_acted_6 : decode cX10_acted 6 = .ok (.if_icmp .ne 80, 3) := by decide +kernel
theorem dX10_acted_9 : decode cX10_acted 9 = .ok (.iconst 0, 1) := by decide +kernel
theorem dX10_acted_10 : decode cX10_acted 10 = .ok (.istore_n 3, 1) := by decide +kernel
theorem dX10_acted_11 : decode cX10_acted 11 = .ok (.iload_n 3, 1) := by decide +kernel
theorem dX10_acted_12 : decode cX10_acted 12 = .ok (.bipush 7, 2) := by decide +kernel
theorem dX10_acted_14 : decode cX10_acted 14 = .ok (.if_icmp .ge 37, 3) := by decide +kernel
theorem dX10_acted_17 : decode cX10_acted 17 = .ok (.aload_n 0, 1) := by decide +kernel
theorem dX10_acted_18 : decode cX10_acted 18 = .ok (.getfield 58, 3) := by decide +kernel
theorem dX10_acted_21 : decode cX10_acted 21 = .ok (.iload_n 3, 1) := by decide +kernel
theorem dX10_acted_22 : decode cX10_acted 22 = .ok (.aload_n 0, 1) := by decide +kernel
theorem dX10_acted_23 : decode cX10_acted 23 = .ok (.getfield 58, 3) := by decide +kernel
theorem dX10_acted_26 : decode cX10_acted 26 = .ok (.iload_n 3, 1) := by decide +kernel
theorem dX10_acted_27 : decode cX10_acted 27 = .ok (.iconst 1, 1) := by decide +kernel
theorem dX10_acted_28 : decode cX10_acted 28 = .ok (.iadd, 1) := by decide +kernel
theorem dX10_acted_29 : decode cX10_acted 29 = .ok (.iaload, 1) := by decide +kernel
theorem dX10_acted_30 : decode cX10_acted 30 = .ok (.iastore, 1) := by decide +kernel
theorem dX10_acted_31 : decode cX10_acted 31 = .ok (.aload_n 0, 1) := by decide +kernel
theorem dX10_acted_32 : decode cX10_acted 32 = .ok (.getfield 61, 3) := by decide +kernel
theorem dX10_acted_35 : decode cX10_acted 35 = .ok (.iload_n 3, 1) := by decide +kernel
theorem dX10_acted_36 : decode cX10_acted 36 = .ok (.aload_n 0, 1) := by decide +kernel
theorem dX10_acted_37 : decode cX10_acted 37 = .ok (.getfield 61, 3) := by decide +kernel
theorem dX10_acted_40 : decode cX10_acted 40 = .ok (.iload_n 3, 1) := by decide +kernel
theorem dX10_acted_41 : decode cX10_acted 41 = .ok (.iconst 1, 1) := by decide +kernel
theorem dX10_acted_42 : decode cX10_acted 42 = .ok (.iadd, 1) := by decide +kernel
theorem dX10_acted_43 : decode cX10_acted 43 = .ok (.iaload, 1) := by decide +kernel
theorem dX10_acted_44 : decode cX10_acted 44 = .ok (.iastore, 1) := by decide +kernel
theorem dX10_acted_45 : decode cX10_acted 45 = .ok (.iinc 3 1, 3) := by decide +kernel
theorem dX10_acted_48 : decode cX10_acted 48 = .ok (.goto (-37), 3) := by decide +kernel
theorem dX10_acted_51 : decode cX10_acted 51 = .ok (.iconst 0, 1) := by decide +kernel
theorem dX10_acted_52 : decode cX10_acted 52 = .ok (.istore_n 3, 1) := by decide +kernel
theorem dX10_acted_53 : decode cX10_acted 53 = .ok (.iload_n 3, 1) := by decide +kernel
theorem dX10_acted_54 : decode cX10_acted 54 = .ok (.bipush 63, 2) := by decide +kernel
theorem dX10_acted_56 : decode cX10_acted 56 = .ok (.if_icmp .ge 24, 3) := by decide +kernel
theorem dX10_acted_59 : decode cX10_acted 59 = .ok (.aload_n 0, 1) := by decide +kernel
theorem dX10_acted_60 : decode cX10_acted 60 = .ok (.getfield 64, 3) := by decide +kernel
theorem dX10_acted_63 : decode cX10_acted 63 = .ok (.iload_n 3, 1) := by decide +kernel
theorem dX10_acted_64 : decode cX10_acted 64 = .ok (.aload_n 0, 1) := by decide +kernel
theorem dX10_acted_65 : decode cX10_acted 65 = .ok (.getfield 64, 3) := by decide +kernel
theorem dX10_acted_68 : decode cX10_acted 68 = .ok (.iload_n 3, 1) := by decide +kernel
theorem dX10_acted_69 : decode cX10_acted 69 = .ok (.bipush 9, 2) := by decide +kernel
theorem dX10_acted_71 : decode cX10_acted 71 = .ok (.iadd, 1) := by decide +kernel
theorem dX10_acted_72 : decode cX10_acted 72 = .ok (.iaload, 1) := by decide +kernel
theorem dX10_acted_73 : decode cX10_acted 73 = .ok (.iastore, 1) := by decide +kernel
theorem dX10_acted_74 : decode cX10_acted 74 = .ok (.iinc 3 1, 3) := by decide +kernel
theorem dX10_acted_77 : decode cX10_acted 77 = .ok (.goto (-24), 3) := by decide +kernel
theorem dX10_acted_80 : decode cX10_acted 80 = .ok (.aload_n 0, 1) := by decide +kernel
theorem dX10_acted_81 : decode cX10_acted 81 = .ok (.bipush 7, 2) := by decide +kernel
theorem dX10_acted_83 : decode cX10_acted 83 = .ok (.putfield 196, 3) := by decide +kernel
theorem dX10_acted_86 : decode cX10_acted 86 = .ok (.aload_n 0, 1) := by decide +kernel
theorem dX10_acted_87 : decode cX10_acted 87 = .ok (.getfield 58, 3) := by decide +kernel
theorem dX10_acted_90 : decode cX10_acted 90 = .ok (.aload_n 0, 1) := by decide +kernel
theorem dX10_acted_91 : decode cX10_acted 91 = .ok (.getfield 196, 3) := by decide +kernel
theorem dX10_acted_94 : decode cX10_acted 94 = .ok (.iload_n 1, 1) := by decide +kernel
theorem dX10_acted_95 : decode cX10_acted 95 = .ok (.iastore, 1) := by decide +kernel
theorem dX10_acted_96 : decode cX10_acted 96 = .ok (.aload_n 0, 1) := by decide +kernel
theorem dX10_acted_97 : decode cX10_acted 97 = .ok (.getfield 61, 3) := by decide +kernel
theorem dX10_acted_100 : decode cX10_acted 100 = .ok (.aload_n 0, 1) := by decide +kernel
theorem dX10_acted_101 : decode cX10_acted 101 = .ok (.getfield 196, 3) := by decide +kernel
theorem dX10_acted_104 : decode cX10_acted 104 = .ok (.iload_n 2, 1) := by decide +kernel
theorem dX10_acted_105 : decode cX10_acted 105 = .ok (.iastore, 1) := by decide +kernel
theorem dX10_acted_106 : decode cX10_acted 106 = .ok (.iconst 0, 1) := by decide +kernel
theorem dX10_acted_107 : decode cX10_acted 107 = .ok (.istore_n 3, 1) := by decide +kernel
theorem dX10_acted_108 : decode cX10_acted 108 = .ok (.iload_n 3, 1) := by decide +kernel
theorem dX10_acted_109 : decode cX10_acted 109 = .ok (.bipush 9, 2) := by decide +kernel
theorem dX10_acted_111 : decode cX10_acted 111 = .ok (.if_icmp .ge 34, 3) := by decide +kernel
theorem dX10_acted_114 : decode cX10_acted 114 = .ok (.aload_n 0, 1) := by decide +kernel
theorem dX10_acted_115 : decode cX10_acted 115 = .ok (.getfield 64, 3) := by decide +kernel
theorem dX10_acted_118 : decode cX10_acted 118 = .ok (.bipush 9, 2) := by decide +kernel
theorem dX10_acted_120 : decode cX10_acted 120 = .ok (.aload_n 0, 1) := by decide +kernel
theorem dX10_acted_121 : decode cX10_acted 121 = .ok (.getfield 196, 3) := by decide +kernel
theorem dX10_acted_124 : decode cX10_acted 124 = .ok (.imul, 1) := by decide +kernel
theorem dX10_acted_125 : decode cX10_acted 125 = .ok (.iload_n 3, 1) := by decide +kernel
theorem dX10_acted_126 : decode cX10_acted 126 = .ok (.iadd, 1) := by decide +kernel
theorem dX10_acted_127 : decode cX10_acted 127 = .ok (.aload_n 0, 1) := by decide +kernel
theorem dX10_acted_128 : decode cX10_acted 128 = .ok (.getfield 36, 3) := by decide +kernel
theorem dX10_acted_131 : decode cX10_acted 131 = .ok (.bipush 9, 2) := by decide +kernel
theorem dX10_acted_133 : decode cX10_acted 133 = .ok (.iload_n 2, 1) := by decide +kernel
theorem dX10_acted_134 : decode cX10_acted 134 = .ok (.imul, 1) := by decide +kernel
theorem dX10_acted_135 : decode cX10_acted 135 = .ok (.iload_n 3, 1) := by decide +kernel
theorem dX10_acted_136 : decode cX10_acted 136 = .ok (.iadd, 1) := by decide +kernel
theorem dX10_acted_137 : decode cX10_acted 137 = .ok (.iaload, 1) := by decide +kernel
theorem dX10_acted_138 : decode cX10_acted 138 = .ok (.iastore, 1) := by decide +kernel
theorem dX10_acted_139 : decode cX10_acted 139 = .ok (.iinc 3 1, 3) := by decide +kernel
theorem dX10_acted_142 : decode cX10_acted 142 = .ok (.goto (-34), 3) := by decide +kernel
theorem dX10_acted_145 : decode cX10_acted 145 = .ok (.aload_n 0, 1) := by decide +kernel
theorem dX10_acted_146 : decode cX10_acted 146 = .ok (.dup, 1) := by decide +kernel
theorem dX10_acted_147 : decode cX10_acted 147 = .ok (.getfield 196, 3) := by decide +kernel
theorem dX10_acted_150 : decode cX10_acted 150 = .ok (.iconst 1, 1) := by decide +kernel
theorem dX10_acted_151 : decode cX10_acted 151 = .ok (.iadd, 1) := by decide +kernel
theorem dX10_acted_152 : decode cX10_acted 152 = .ok (.putfield 196, 3) := by decide +kernel
theorem dX10_acted_155 : decode cX10_acted 155 = .ok (.return_, 1) := by decide +kernel
theorem dX10_undo_0 : decode cX10_undo 0 = .ok (.aload_n 0, 1) := by decide +kernel
theorem dX10_undo_1 : decode cX10_undo 1 = .ok (.iconst 0, 1) := by decide +kernel
theorem dX10_undo_2 : decode cX10_undo 2 = .ok (.putfield 1, 3) := by decide +kernel
theorem dX10_undo_5 : decode cX10_undo 5 = .ok (.aload_n 0, 1) := by decide +kernel
theorem dX10_undo_6 : decode cX10_undo 6 = .ok (.getfield 196, 3) := by decide +kernel
theorem dX10_undo_9 : decode cX10_undo 9 = .ok (.ifCond .ne 5, 3) := by decide +kernel
theorem dX10_undo_12 : decode cX10_undo 12 = .ok (.iconst (-1), 1) := by decide +kernel
theorem dX10_undo_13 : decode cX10_undo 13 = .ok (.ireturn, 1) := by decide +kernel
theorem dX10_undo_14 : decode cX10_undo 14 = .ok (.aload_n 0, 1) := by decide +kernel
theorem dX10_undo_15 : decode cX10_undo 15 = .ok (.dup, 1) := by decide +kernel
theorem dX10_undo_16 : decode cX10_undo 16 = .ok (.getfield 196, 3) := by decide +kernel
theorem dX10_undo_19 : decode cX10_undo 19 = .ok (.iconst 1, 1) := by decide +kernel
theorem dX10_undo_20 : decode cX10_undo 20 = .ok (.isub, 1) := by decide +kernel
theorem dX10_undo_21 : decode cX10_undo 21 = .ok (.putfield 196, 3) := by decide +kernel
theorem dX10_undo_24 : decode cX10_undo 24 = .ok (.aload_n 0, 1) := by decide +kernel
theorem dX10_undo_25 : decode cX10_undo 25 = .ok (.getfield 61, 3) := by decide +kernel
theorem dX10_undo_28 : decode cX10_undo 28 = .ok (.aload_n 0, 1) := by decide +kernel
theorem dX10_undo_29 : decode cX10_undo 29 = .ok (.getfield 196, 3) := by decide +kernel
theorem dX10_undo_32 : decode cX10_undo 32 = .ok (.iaload, 1) := by decide +kernel
theorem dX10_undo_33 : decode cX10_undo 33 = .ok (.istore_n 1, 1) := by decide +kernel
theorem dX10_undo_34 : decode cX10_undo 34 = .ok (.aload_n 0, 1) := by decide +kernel
theorem dX10_undo_35 : decode cX10_undo 35 = .ok (.getfield 58, 3) := by decide +kernel
theorem dX10_undo_38 : decode cX10_undo 38 = .ok (.aload_n 0, 1) := by decide +kernel
theorem dX10_undo_39 : decode cX10_undo 39 = .ok (.getfield 196, 3) := by decide +kernel
theorem dX10_undo_42 : decode cX10_undo 42 = .ok (.iaload, 1) := by decide +kernel
theorem dX10_undo_43 : decode cX10_undo 43 = .ok (.iconst 1, 1) := by decide +kernel
theorem dX10_undo_44 : decode cX10_undo 44 = .ok (.if_icmp .ne 23, 3) := by decide +kernel
theorem dX10_undo_47 : decode cX10_undo 47 = .ok (.aload_n 0, 1) := by decide +kernel
theorem dX10_undo_48 : decode cX10_undo 48 = .ok (.getfield 39, 3) := by decide +kernel
theorem dX10_undo_51 : decode cX10_undo 51 = .ok (.iload_n 1, 1) := by decide +kernel
theorem dX10_undo_52 : decode cX10_undo 52 = .ok (.iconst 0, 1) := by decide +kernel
theorem dX10_undo_53 : decode cX10_undo 53 = .ok (.bastore, 1) := by decide +kernel
theorem dX10_undo_54 : decode cX10_undo 54 = .ok (.aload_n 0, 1) := by decide +kernel
theorem dX10_undo_55 : decode cX10_undo 55 = .ok (.dup, 1) := by decide +kernel
theorem dX10_undo_56 : decode cX10_undo 56 = .ok (.getfield 199, 3) := by decide +kernel
theorem dX10_undo_59 : decode cX10_undo 59 = .ok (.iconst 1, 1) := by decide +kernel
theorem dX10_undo_60 : decode cX10_undo 60 = .ok (.isub, 1) := by decide +kernel
theorem dX10_undo_61 : decode cX10_undo 61 = .ok (.putfield 199, 3) := by decide +kernel
theorem dX10_undo_64 : decode cX10_undo 64 = .ok (.goto 75, 3) := by decide +kernel
theorem dX10_undo_67 : decode cX10_undo 67 = .ok (.aload_n 0, 1) := by decide +kernel
theorem dX10_undo_68 : decode cX10_undo 68 = .ok (.getfield 58, 3) := by decide +kernel
theorem dX10_undo_71 : decode cX10_undo 71 = .ok (.aload_n 0, 1) := by decide +kernel
theorem dX10_undo_72 : decode cX10_undo 72 = .ok (.getfield 196, 3) := by decide +kernel
theorem dX10_undo_75 : decode cX10_undo 75 = .ok (.iaload, 1) := by decide +kernel
theorem dX10_undo_76 : decode cX10_undo 76 = .ok (.iconst 2, 1) := by decide +kernel
theorem dX10_undo_77 : decode cX10_undo 77 = .ok (.if_icmp .ne 45, 3) := by decide +kernel
theorem dX10_undo_80 : decode cX10_undo 80 = .ok (.iconst 0, 1) := by decide +kernel
theorem dX10_undo_81 : decode cX10_undo 81 = .ok (.istore_n 2, 1) := by decide +kernel
theorem dX10_undo_82 : decode cX10_undo 82 = .ok (.iload_n 2, 1) := by decide +kernel
theorem dX10_undo_83 : decode cX10_undo 83 = .ok (.bipush 9, 2) := by decide +kernel
theorem dX10_undo_85 : decode cX10_undo 85 = .ok (.if_icmp .ge 34, 3) := by decide +kernel
theorem dX10_undo_88 : decode cX10_undo 88 = .ok (.aload_n 0, 1) := by decide +kernel
theorem dX10_undo_89 : decode cX10_undo 89 = .ok (.getfield 36, 3) := by decide +kernel
theorem dX10_undo_92 : decode cX10_undo 92 = .ok (.bipush 9, 2) := by decide +kernel
theorem dX10_undo_94 : decode cX10_undo 94 = .ok (.iload_n 1, 1) := by decide +kernel
theorem dX10_undo_95 : decode cX10_undo 95 = .ok (.imul, 1) := by decide +kernel
theorem dX10_undo_96 : decode cX10_undo 96 = .ok (.iload_n 2, 1) := by decide +kernel
theorem dX10_undo_97 : decode cX10_undo 97 = .ok (.iadd, 1) := by decide +kernel
theorem dX10_undo_98 : decode cX10_undo 98 = .ok (.aload_n 0, 1) := by decide +kernel
theorem dX10_undo_99 : decode cX10_undo 99 = .ok (.getfield 64, 3) := by decide +kernel
theorem dX10_undo_102 : decode cX10_undo 102 = .ok (.bipush 9, 2) := by decide +kernel
theorem dX10_undo_104 : decode cX10_undo 104 = .ok (.aload_n 0, 1) := by decide +kernel
theorem dX10_undo_105 : decode cX10_undo 105 = .ok (.getfield 196, 3) := by decide +kernel
theorem dX10_undo_108 : decode cX10_undo 108 = .ok (.imul, 1) := by decide +kernel
theorem dX10_undo_109 : decode cX10_undo 109 = .ok (.iload_n 2, 1) := by decide +kernel
theorem dX10_undo_110 : decode cX10_undo 110 = .ok (.iadd, 1) := by decide +kernel
theorem dX10_undo_111 : decode cX10_undo 111 = .ok (.iaload, 1) := by decide +kernel
theorem dX10_undo_112 : decode cX10_undo 112 = .ok (.iastore, 1) := by decide +kernel
theorem dX10_undo_113 : decode cX10_undo 113 = .ok (.iinc 2 1, 3) := by decide +kernel
theorem dX10_undo_116 : decode cX10_undo 116 = .ok (.goto (-34), 3) := by decide +kernel
theorem dX10_undo_119 : decode cX10_undo 119 = .ok (.goto 20, 3) := by decide +kernel
theorem dX10_undo_122 : decode cX10_undo 122 = .ok (.aload_n 0, 1) := by decide +kernel
theorem dX10_undo_123 : decode cX10_undo 123 = .ok (.getfield 39, 3) := by decide +kernel
theorem dX10_undo_126 : decode cX10_undo 126 = .ok (.iload_n 1, 1) := by decide +kernel
theorem dX10_undo_127 : decode cX10_undo 127 = .ok (.iconst 1, 1) := by decide +kernel
theorem dX10_undo_128 : decode cX10_undo 128 = .ok (.bastore, 1) := by decide +kernel
theorem dX10_undo_129 : decode cX10_undo 129 = .ok (.aload_n 0, 1) := by decide +kernel
theorem dX10_undo_130 : decode cX10_undo 130 = .ok (.dup, 1) := by decide +kernel
theorem dX10_undo_131 : decode cX10_undo 131 = .ok (.getfield 199, 3) := by decide +kernel
theorem dX10_undo_134 : decode cX10_undo 134 = .ok (.iconst 1, 1) := by decide +kernel
theorem dX10_undo_135 : decode cX10_undo 135 = .ok (.iadd, 1) := by decide +kernel
theorem dX10_undo_136 : decode cX10_undo 136 = .ok (.putfield 199, 3) := by decide +kernel
theorem dX10_undo_139 : decode cX10_undo 139 = .ok (.aload_n 0, 1) := by decide +kernel
theorem dX10_undo_140 : decode cX10_undo 140 = .ok (.getfield 58, 3) := by decide +kernel
theorem dX10_undo_143 : decode cX10_undo 143 = .ok (.aload_n 0, 1) := by decide +kernel
theorem dX10_undo_144 : decode cX10_undo 144 = .ok (.getfield 196, 3) := by decide +kernel
theorem dX10_undo_147 : decode cX10_undo 147 = .ok (.iaload, 1) := by decide +kernel
theorem dX10_undo_148 : decode cX10_undo 148 = .ok (.ireturn, 1) := by decide +kernel
theorem dX10_lay_0 : decode cX10_lay 0 = .ok (.aload_n 0, 1) := by decide +kernel
theorem dX10_lay_1 : decode cX10_lay 1 = .ok (.iconst 0, 1) := by decide +kernel
theorem dX10_lay_2 : decode cX10_lay 2 = .ok (.putfield 1, 3) := by decide +kernel
theorem dX10_lay_5 : decode cX10_lay 5 = .ok (.aload_n 0, 1) := by decide +kernel
theorem dX10_lay_6 : decode cX10_lay 6 = .ok (.iload_n 2, 1) := by decide +kernel
theorem dX10_lay_7 : decode cX10_lay 7 = .ok (.iload_n 3, 1) := by decide +kernel
theorem dX10_lay_8 : decode cX10_lay 8 = .ok (.invokevirtual 143, 3) := by decide +kernel
theorem dX10_lay_11 : decode cX10_lay 11 = .ok (.ifCond .ne 5, 3) := by decide +kernel
theorem dX10_lay_14 : decode cX10_lay 14 = .ok (.iconst 0, 1) := by decide +kernel
theorem dX10_lay_15 : decode cX10_lay 15 = .ok (.ireturn, 1) := by decide +kernel
theorem dX10_lay_16 : decode cX10_lay 16 = .ok (.iload_n 1, 1) := by decide +kernel
theorem dX10_lay_17 : decode cX10_lay 17 = .ok (.ifCond .lt 12, 3) := by decide +kernel
theorem dX10_lay_20 : decode cX10_lay 20 = .ok (.iload_n 1, 1) := by decide +kernel
theorem dX10_lay_21 : decode cX10_lay 21 = .ok (.iconst 3, 1) := by decide +kernel
theorem dX10_lay_22 : decode cX10_lay 22 = .ok (.if_icmp .gt 7, 3) := by decide +kernel
theorem dX10_lay_25 : decode cX10_lay 25 = .ok (.iconst 1, 1) := by decide +kernel
theorem dX10_lay_26 : decode cX10_lay 26 = .ok (.goto 4, 3) := by decide +kernel
theorem dX10_lay_29 : decode cX10_lay 29 = .ok (.iconst 0, 1) := by decide +kernel
theorem dX10_lay_30 : decode cX10_lay 30 = .ok (.istore 6, 2) := by decide +kernel
theorem dX10_lay_32 : decode cX10_lay 32 = .ok (.iload 6, 2) := by decide +kernel
theorem dX10_lay_34 : decode cX10_lay 34 = .ok (.ifCond .eq 28, 3) := by decide +kernel
theorem dX10_lay_37 : decode cX10_lay 37 = .ok (.iload 4, 2) := by decide +kernel
theorem dX10_lay_39 : decode cX10_lay 39 = .ok (.ifCond .lt 23, 3) := by decide +kernel
theorem dX10_lay_42 : decode cX10_lay 42 = .ok (.iload 4, 2) := by decide +kernel
theorem dX10_lay_44 : decode cX10_lay 44 = .ok (.iload_n 1, 1) := by decide +kernel
theorem dX10_lay_45 : decode cX10_lay 45 = .ok (.iconst 2, 1) := by decide +kernel
theorem dX10_lay_46 : decode cX10_lay 46 = .ok (.if_icmp .lt 8, 3) := by decide +kernel
theorem dX10_lay_49 : decode cX10_lay 49 = .ok (.bipush 127, 2) := by decide +kernel
theorem dX10_lay_51 : decode cX10_lay 51 = .ok (.goto 4, 3) := by decide +kernel
theorem dX10_lay_54 : decode cX10_lay 54 = .ok (.iconst 0, 1) := by decide +kernel
theorem dX10_lay_55 : decode cX10_lay 55 = .ok (.if_icmp .gt 7, 3) := by decide +kernel
theorem dX10_lay_58 : decode cX10_lay 58 = .ok (.iconst 1, 1) := by decide +kernel
theorem dX10_lay_59 : decode cX10_lay 59 = .ok (.goto 4, 3) := by decide +kernel
theorem dX10_lay_62 : decode cX10_lay 62 = .ok (.iconst 0, 1) := by decide +kernel
theorem dX10_lay_63 : decode cX10_lay 63 = .ok (.istore 6, 2) := by decide +kernel
theorem dX10_lay_65 : decode cX10_lay 65 = .ok (.iload 6, 2) := by decide +kernel
theorem dX10_lay_67 : decode cX10_lay 67 = .ok (.ifCond .eq 34, 3) := by decide +kernel
theorem dX10_lay_70 : decode cX10_lay 70 = .ok (.iload_n 1, 1) := by decide +kernel
theorem dX10_lay_71 : decode cX10_lay 71 = .ok (.iconst 3, 1) := by decide +kernel
theorem dX10_lay_72 : decode cX10_lay 72 = .ok (.if_icmp .ne 19, 3) := by decide +kernel
theorem dX10_lay_75 : decode cX10_lay 75 = .ok (.iload 5, 2) := by decide +kernel
theorem dX10_lay_77 : decode cX10_lay 77 = .ok (.iconst 2, 1) := by decide +kernel
theorem dX10_lay_78 : decode cX10_lay 78 = .ok (.if_icmp .lt 23, 3) := by decide +kernel
theorem dX10_lay_81 : decode cX10_lay 81 = .ok (.iload 5, 2) := by decide +kernel
theorem dX10_lay_83 : decode cX10_lay 83 = .ok (.bipush 100, 2) := by decide +kernel
theorem dX10_lay_85 : decode cX10_lay 85 = .ok (.if_icmp .gt 16, 3) := by decide +kernel
theorem dX10_lay_88 : decode cX10_lay 88 = .ok (.goto 9, 3) := by decide +kernel
theorem dX10_lay_91 : decode cX10_lay 91 = .ok (.iload 5, 2) := by decide +kernel
theorem dX10_lay_93 : decode cX10_lay 93 = .ok (.iconst 1, 1) := by decide +kernel
theorem dX10_lay_94 : decode cX10_lay 94 = .ok (.if_icmp .ne 7, 3) := by decide +kernel
theorem dX10_lay_97 : decode cX10_lay 97 = .ok (.iconst 1, 1) := by decide +kernel
theorem dX10_lay_98 : decode cX10_lay 98 = .ok (.goto 4, 3) := by decide +kernel
theorem dX10_lay_101 : decode cX10_lay 101 = .ok (.iconst 0, 1) := by decide +kernel
theorem dX10_lay_102 : decode cX10_lay 102 = .ok (.istore 6, 2) := by decide +kernel
theorem dX10_lay_104 : decode cX10_lay 104 = .ok (.aload_n 0, 1) := by decide +kernel
theorem dX10_lay_105 : decode cX10_lay 105 = .ok (.iload 6, 2) := by decide +kernel
theorem dX10_lay_107 : decode cX10_lay 107 = .ok (.iconst 2, 1) := by decide +kernel
theorem dX10_lay_108 : decode cX10_lay 108 = .ok (.invokevirtual 136, 3) := by decide +kernel
theorem dX10_lay_111 : decode cX10_lay 111 = .ok (.ifCond .ne 5, 3) := by decide +kernel
theorem dX10_lay_114 : decode cX10_lay 114 = .ok (.iconst 0, 1) := by decide +kernel
theorem dX10_lay_115 : decode cX10_lay 115 = .ok (.ireturn, 1) := by decide +kernel
theorem dX10_lay_116 : decode cX10_lay 116 = .ok (.bipush 20, 2) := by decide +kernel
theorem dX10_lay_118 : decode cX10_lay 118 = .ok (.iload_n 2, 1) := by decide +kernel
theorem dX10_lay_119 : decode cX10_lay 119 = .ok (.imul, 1) := by decide +kernel
theorem dX10_lay_120 : decode cX10_lay 120 = .ok (.iload_n 3, 1) := by decide +kernel
theorem dX10_lay_121 : decode cX10_lay 121 = .ok (.iadd, 1) := by decide +kernel
theorem dX10_lay_122 : decode cX10_lay 122 = .ok (.istore 7, 2) := by decide +kernel
theorem dX10_lay_124 : decode cX10_lay 124 = .ok (.iload_n 1, 1) := by decide +kernel
theorem dX10_lay_125 : decode cX10_lay 125 = .ok (.iconst 1, 1) := by decide +kernel
theorem dX10_lay_126 : decode cX10_lay 126 = .ok (.if_icmp .ne 8, 3) := by decide +kernel
theorem dX10_lay_129 : decode cX10_lay 129 = .ok (.bipush 9, 2) := by decide +kernel
theorem dX10_lay_131 : decode cX10_lay 131 = .ok (.goto 5, 3) := by decide +kernel
theorem dX10_lay_134 : decode cX10_lay 134 = .ok (.bipush 6, 2) := by decide +kernel
theorem dX10_lay_136 : decode cX10_lay 136 = .ok (.istore 8, 2) := by decide +kernel
theorem dX10_lay_138 : decode cX10_lay 138 = .ok (.aload_n 0, 1) := by decide +kernel
theorem dX10_lay_139 : decode cX10_lay 139 = .ok (.getfield 17, 3) := by decide +kernel
theorem dX10_lay_142 : decode cX10_lay 142 = .ok (.iload 7, 2) := by decide +kernel
theorem dX10_lay_144 : decode cX10_lay 144 = .ok (.iaload, 1) := by decide +kernel
theorem dX10_lay_145 : decode cX10_lay 145 = .ok (.iconst (-1), 1) := by decide +kernel
theorem dX10_lay_146 : decode cX10_lay 146 = .ok (.if_icmp .ne 5, 3) := by decide +kernel
theorem dX10_lay_149 : decode cX10_lay 149 = .ok (.iconst (-1), 1) := by decide +kernel
theorem dX10_lay_150 : decode cX10_lay 150 = .ok (.ireturn, 1) := by decide +kernel
theorem dX10_lay_151 : decode cX10_lay 151 = .ok (.aload_n 0, 1) := by decide +kernel
theorem dX10_lay_152 : decode cX10_lay 152 = .ok (.getfield 17, 3) := by decide +kernel
theorem dX10_lay_155 : decode cX10_lay 155 = .ok (.iload 7, 2) := by decide +kernel
theorem dX10_lay_157 : decode cX10_lay 157 = .ok (.iaload, 1) := by decide +kernel
theorem dX10_lay_158 : decode cX10_lay 158 = .ok (.iload 8, 2) := by decide +kernel
theorem dX10_lay_160 : decode cX10_lay 160 = .ok (.if_icmp .ge 6, 3) := by decide +kernel
theorem dX10_lay_163 : decode cX10_lay 163 = .ok (.bipush (-2), 2) := by decide +kernel
theorem dX10_lay_165 : decode cX10_lay 165 = .ok (.ireturn, 1) := by decide +kernel
theorem dX10_lay_166 : decode cX10_lay 166 = .ok (.iconst 0, 1) := by decide +kernel
theorem dX10_lay_167 : decode cX10_lay 167 = .ok (.istore 9, 2) := by decide +kernel
theorem dX10_lay_169 : decode cX10_lay 169 = .ok (.iload 9, 2) := by decide +kernel
theorem dX10_lay_171 : decode cX10_lay 171 = .ok (.iload 8, 2) := by decide +kernel
theorem dX10_lay_173 : decode cX10_lay 173 = .ok (.if_icmp .ge 52, 3) := by decide +kernel
theorem dX10_lay_176 : decode cX10_lay 176 = .ok (.aload_n 0, 1) := by decide +kernel
theorem dX10_lay_177 : decode cX10_lay 177 = .ok (.getfield 20, 3) := by decide +kernel
theorem dX10_lay_180 : decode cX10_lay 180 = .ok (.bipush 30, 2) := by decide +kernel
theorem dX10_lay_182 : decode cX10_lay 182 = .ok (.iload 7, 2) := by decide +kernel
theorem dX10_lay_184 : decode cX10_lay 184 = .ok (.imul, 1) := by decide +kernel
theorem dX10_lay_185 : decode cX10_lay 185 = .ok (.iload 9, 2) := by decide +kernel
theorem dX10_lay_187 : decode cX10_lay 187 = .ok (.iadd, 1) := by decide +kernel
theorem dX10_lay_188 : decode cX10_lay 188 = .ok (.laload, 1) := by decide +kernel
theorem dX10_lay_189 : decode cX10_lay 189 = .ok (.ldc2_w 202, 3) := by decide +kernel
theorem dX10_lay_192 : decode cX10_lay 192 = .ok (.lcmp, 1) := by decide +kernel
theorem dX10_lay_193 : decode cX10_lay 193 = .ok (.ifCond .lt 23, 3) := by decide +kernel
theorem dX10_lay_196 : decode cX10_lay 196 = .ok (.aload_n 0, 1) := by decide +kernel
theorem dX10_lay_197 : decode cX10_lay 197 = .ok (.getfield 20, 3) := by decide +kernel
theorem dX10_lay_200 : decode cX10_lay 200 = .ok (.bipush 30, 2) := by decide +kernel
theorem dX10_lay_202 : decode cX10_lay 202 = .ok (.iload 7, 2) := by decide +kernel
theorem dX10_lay_204 : decode cX10_lay 204 = .ok (.imul, 1) := by decide +kernel
theorem dX10_lay_205 : decode cX10_lay 205 = .ok (.iload 9, 2) := by decide +kernel
theorem dX10_lay_207 : decode cX10_lay 207 = .ok (.iadd, 1) := by decide +kernel
theorem dX10_lay_208 : decode cX10_lay 208 = .ok (.laload, 1) := by decide +kernel
theorem dX10_lay_209 : decode cX10_lay 209 = .ok (.ldc2_w 204, 3) := by decide +kernel
theorem dX10_lay_212 : decode cX10_lay 212 = .ok (.lcmp, 1) := by decide +kernel
theorem dX10_lay_213 : decode cX10_lay 213 = .ok (.ifCond .le 6, 3) := by decide +kernel
theorem dX10_lay_216 : decode cX10_lay 216 = .ok (.bipush (-3), 2) := by decide +kernel
theorem dX10_lay_218 : decode cX10_lay 218 = .ok (.ireturn, 1) := by decide +kernel
theorem dX10_lay_219 : decode cX10_lay 219 = .ok (.iinc 9 1, 3) := by decide +kernel
theorem dX10_lay_222 : decode cX10_lay 222 = .ok (.goto (-53), 3) := by decide +kernel
theorem dX10_lay_225 : decode cX10_lay 225 = .ok (.aload_n 0, 1) := by decide +kernel
theorem dX10_lay_226 : decode cX10_lay 226 = .ok (.getfield 181, 3) := by decide +kernel
theorem dX10_lay_229 : decode cX10_lay 229 = .ok (.istore 9, 2) := by decide +kernel
theorem dX10_lay_231 : decode cX10_lay 231 = .ok (.aload_n 0, 1) := by decide +kernel
theorem dX10_lay_232 : decode cX10_lay 232 = .ok (.getfield 27, 3) := by decide +kernel
theorem dX10_lay_235 : decode cX10_lay 235 = .ok (.iload 9, 2) := by decide +kernel
theorem dX10_lay_237 : decode cX10_lay 237 = .ok (.iload_n 1, 1) := by decide +kernel
theorem dX10_lay_238 : decode cX10_lay 238 = .ok (.iastore, 1) := by decide +kernel
theorem dX10_lay_239 : decode cX10_lay 239 = .ok (.aload_n 0, 1) := by decide +kernel
theorem dX10_lay_240 : decode cX10_lay 240 = .ok (.getfield 30, 3) := by decide +kernel
theorem dX10_lay_243 : decode cX10_lay 243 = .ok (.iload 9, 2) := by decide +kernel
theorem dX10_lay_245 : decode cX10_lay 245 = .ok (.iload 4, 2) := by decide +kernel
theorem dX10_lay_247 : decode cX10_lay 247 = .ok (.iastore, 1) := by decide +kernel
theorem dX10_lay_248 : decode cX10_lay 248 = .ok (.aload_n 0, 1) := by decide +kernel
theorem dX10_lay_249 : decode cX10_lay 249 = .ok (.getfield 33, 3) := by decide +kernel
theorem dX10_lay_252 : decode cX10_lay 252 = .ok (.iload 9, 2) := by decide +kernel
theorem dX10_lay_254 : decode cX10_lay 254 = .ok (.iload 5, 2) := by decide +kernel
theorem dX10_lay_256 : decode cX10_lay 256 = .ok (.iastore, 1) := by decide +kernel
theorem dX10_lay_257 : decode cX10_lay 257 = .ok (.iconst 0, 1) := by decide +kernel
theorem dX10_lay_258 : decode cX10_lay 258 = .ok (.istore 10, 2) := by decide +kernel
theorem dX10_lay_260 : decode cX10_lay 260 = .ok (.iload 10, 2) := by decide +kernel
theorem dX10_lay_262 : decode cX10_lay 262 = .ok (.bipush 9, 2) := by decide +kernel
theorem dX10_lay_264 : decode cX10_lay 264 = .ok (.if_icmp .ge 47, 3) := by decide +kernel
theorem dX10_lay_267 : decode cX10_lay 267 = .ok (.aload_n 0, 1) := by decide +kernel
theorem dX10_lay_268 : decode cX10_lay 268 = .ok (.getfield 36, 3) := by decide +kernel
theorem dX10_lay_271 : decode cX10_lay 271 = .ok (.bipush 9, 2) := by decide +kernel
theorem dX10_lay_273 : decode cX10_lay 273 = .ok (.iload 9, 2) := by decide +kernel
theorem dX10_lay_275 : decode cX10_lay 275 = .ok (.imul, 1) := by decide +kernel
theorem dX10_lay_276 : decode cX10_lay 276 = .ok (.iload 10, 2) := by decide +kernel
theorem dX10_lay_278 : decode cX10_lay 278 = .ok (.iadd, 1) := by decide +kernel
theorem dX10_lay_279 : decode cX10_lay 279 = .ok (.iload 10, 2) := by decide +kernel
theorem dX10_lay_281 : decode cX10_lay 281 = .ok (.iload 8, 2) := by decide +kernel
theorem dX10_lay_283 : decode cX10_lay 283 = .ok (.if_icmp .ge 20, 3) := by decide +kernel
theorem dX10_lay_286 : decode cX10_lay 286 = .ok (.aload_n 0, 1) := by decide +kernel
theorem dX10_lay_287 : decode cX10_lay 287 = .ok (.getfield 20, 3) := by decide +kernel
theorem dX10_lay_290 : decode cX10_lay 290 = .ok (.bipush 30, 2) := by decide +kernel
theorem dX10_lay_292 : decode cX10_lay 292 = .ok (.iload 7, 2) := by decide +kernel
theorem dX10_lay_294 : decode cX10_lay 294 = .ok (.imul, 1) := by decide +kernel
theorem dX10_lay_295 : decode cX10_lay 295 = .ok (.iload 10, 2) := by decide +kernel
theorem dX10_lay_297 : decode cX10_lay 297 = .ok (.iadd, 1) := by decide +kernel
theorem dX10_lay_298 : decode cX10_lay 298 = .ok (.laload, 1) := by decide +kernel
theorem dX10_lay_299 : decode cX10_lay 299 = .ok (.l2i, 1) := by decide +kernel
theorem dX10_lay_300 : decode cX10_lay 300 = .ok (.goto 4, 3) := by decide +kernel
theorem dX10_lay_303 : decode cX10_lay 303 = .ok (.iconst 0, 1) := by decide +kernel
theorem dX10_lay_304 : decode cX10_lay 304 = .ok (.iastore, 1) := by decide +kernel
theorem dX10_lay_305 : decode cX10_lay 305 = .ok (.iinc 10 1, 3) := by decide +kernel
theorem dX10_lay_308 : decode cX10_lay 308 = .ok (.goto (-48), 3) := by decide +kernel
theorem dX10_lay_311 : decode cX10_lay 311 = .ok (.iconst 0, 1) := by decide +kernel
theorem dX10_lay_312 : decode cX10_lay 312 = .ok (.istore 10, 2) := by decide +kernel
theorem dX10_lay_314 : decode cX10_lay 314 = .ok (.iload 10, 2) := by decide +kernel
theorem dX10_lay_316 : decode cX10_lay 316 = .ok (.aload_n 0, 1) := by decide +kernel
theorem dX10_lay_317 : decode cX10_lay 317 = .ok (.iload 9, 2) := by decide +kernel
theorem dX10_lay_319 : decode cX10_lay 319 = .ok (.invokevirtual 184, 3) := by decide +kernel
theorem dX10_lay_322 : decode cX10_lay 322 = .ok (.if_icmp .ge 81, 3) := by decide +kernel
theorem dX10_lay_325 : decode cX10_lay 325 = .ok (.aload_n 0, 1) := by decide +kernel
theorem dX10_lay_326 : decode cX10_lay 326 = .ok (.iload 9, 2) := by decide +kernel
theorem dX10_lay_328 : decode cX10_lay 328 = .ok (.iload 10, 2) := by decide +kernel
theorem dX10_lay_330 : decode cX10_lay 330 = .ok (.iconst 0, 1) := by decide +kernel
theorem dX10_lay_331 : decode cX10_lay 331 = .ok (.invokevirtual 151, 3) := by decide +kernel
theorem dX10_lay_334 : decode cX10_lay 334 = .ok (.aload_n 0, 1) := by decide +kernel
theorem dX10_lay_335 : decode cX10_lay 335 = .ok (.iload 9, 2) := by decide +kernel
theorem dX10_lay_337 : decode cX10_lay 337 = .ok (.iload 10, 2) := by decide +kernel
theorem dX10_lay_339 : decode cX10_lay 339 = .ok (.iconst 1, 1) := by decide +kernel
theorem dX10_lay_340 : decode cX10_lay 340 = .ok (.iadd, 1) := by decide +kernel
theorem dX10_lay_341 : decode cX10_lay 341 = .ok (.iconst 0, 1) := by decide +kernel
theorem dX10_lay_342 : decode cX10_lay 342 = .ok (.invokevirtual 151, 3) := by decide +kernel
theorem dX10_lay_345 : decode cX10_lay 345 = .ok (.if_icmp .ne 52, 3) := by decide +kernel
theorem dX10_lay_348 : decode cX10_lay 348 = .ok (.aload_n 0, 1) := by decide +kernel
theorem dX10_lay_349 : decode cX10_lay 349 = .ok (.iload 9, 2) := by decide +kernel
theorem dX10_lay_351 : decode cX10_lay 351 = .ok (.iload 10, 2) := by decide +kernel
theorem dX10_lay_353 : decode cX10_lay 353 = .ok (.iconst 1, 1) := by decide +kernel
theorem dX10_lay_354 : decode cX10_lay 354 = .ok (.invokevirtual 151, 3) := by decide +kernel
theorem dX10_lay_357 : decode cX10_lay 357 = .ok (.aload_n 0, 1) := by decide +kernel
theorem dX10_lay_358 : decode cX10_lay 358 = .ok (.iload 9, 2) := by decide +kernel
theorem dX10_lay_360 : decode cX10_lay 360 = .ok (.iload 10, 2) := by decide +kernel
theorem dX10_lay_362 : decode cX10_lay 362 = .ok (.iconst 1, 1) := by decide +kernel
theorem dX10_lay_363 : decode cX10_lay 363 = .ok (.iadd, 1) := by decide +kernel
theorem dX10_lay_364 : decode cX10_lay 364 = .ok (.iconst 1, 1) := by decide +kernel
theorem dX10_lay_365 : decode cX10_lay 365 = .ok (.invokevirtual 151, 3) := by decide +kernel
theorem dX10_lay_368 : decode cX10_lay 368 = .ok (.if_icmp .ne 29, 3) := by decide +kernel
theorem dX10_lay_371 : decode cX10_lay 371 = .ok (.aload_n 0, 1) := by decide +kernel
theorem dX10_lay_372 : decode cX10_lay 372 = .ok (.iload 9, 2) := by decide +kernel
theorem dX10_lay_374 : decode cX10_lay 374 = .ok (.iload 10, 2) := by decide +kernel
theorem dX10_lay_376 : decode cX10_lay 376 = .ok (.iconst 2, 1) := by decide +kernel
theorem dX10_lay_377 : decode cX10_lay 377 = .ok (.invokevirtual 151, 3) := by decide +kernel
theorem dX10_lay_380 : decode cX10_lay 380 = .ok (.aload_n 0, 1) := by decide +kernel
theorem dX10_lay_381 : decode cX10_lay 381 = .ok (.iload 9, 2) := by decide +kernel
theorem dX10_lay_383 : decode cX10_lay 383 = .ok (.iload 10, 2) := by decide +kernel
theorem dX10_lay_385 : decode cX10_lay 385 = .ok (.iconst 1, 1) := by decide +kernel
theorem dX10_lay_386 : decode cX10_lay 386 = .ok (.iadd, 1) := by decide +kernel
theorem dX10_lay_387 : decode cX10_lay 387 = .ok (.iconst 2, 1) := by decide +kernel
theorem dX10_lay_388 : decode cX10_lay 388 = .ok (.invokevirtual 151, 3) := by decide +kernel
theorem dX10_lay_391 : decode cX10_lay 391 = .ok (.if_icmp .ne 6, 3) := by decide +kernel
theorem dX10_lay_394 : decode cX10_lay 394 = .ok (.bipush (-4), 2) := by decide +kernel
theorem dX10_lay_396 : decode cX10_lay 396 = .ok (.ireturn, 1) := by decide +kernel
theorem dX10_lay_397 : decode cX10_lay 397 = .ok (.iinc 10 1, 3) := by decide +kernel
theorem dX10_lay_400 : decode cX10_lay 400 = .ok (.goto (-86), 3) := by decide +kernel
theorem dX10_lay_403 : decode cX10_lay 403 = .ok (.iload_n 1, 1) := by decide +kernel
theorem dX10_lay_404 : decode cX10_lay 404 = .ok (.iconst 1, 1) := by decide +kernel
theorem dX10_lay_405 : decode cX10_lay 405 = .ok (.if_icmp .ne 46, 3) := by decide +kernel
theorem dX10_lay_408 : decode cX10_lay 408 = .ok (.aload_n 0, 1) := by decide +kernel
theorem dX10_lay_409 : decode cX10_lay 409 = .ok (.iload 9, 2) := by decide +kernel
theorem dX10_lay_411 : decode cX10_lay 411 = .ok (.iconst 0, 1) := by decide +kernel
theorem dX10_lay_412 : decode cX10_lay 412 = .ok (.iload 9, 2) := by decide +kernel
theorem dX10_lay_414 : decode cX10_lay 414 = .ok (.iconst 1, 1) := by decide +kernel
theorem dX10_lay_415 : decode cX10_lay 415 = .ok (.invokevirtual 188, 3) := by decide +kernel
theorem dX10_lay_418 : decode cX10_lay 418 = .ok (.aload_n 0, 1) := by decide +kernel
theorem dX10_lay_419 : decode cX10_lay 419 = .ok (.getfield 46, 3) := by decide +kernel
theorem dX10_lay_422 : decode cX10_lay 422 = .ok (.aload_n 0, 1) := by decide +kernel
theorem dX10_lay_423 : decode cX10_lay 423 = .ok (.getfield 49, 3) := by decide +kernel
theorem dX10_lay_426 : decode cX10_lay 426 = .ok (.invokestatic 165, 3) := by decide +kernel
theorem dX10_lay_429 : decode cX10_lay 429 = .ok (.ifCond .eq 22, 3) := by decide +kernel
theorem dX10_lay_432 : decode cX10_lay 432 = .ok (.aload_n 0, 1) := by decide +kernel
theorem dX10_lay_433 : decode cX10_lay 433 = .ok (.getfield 46, 3) := by decide +kernel
theorem dX10_lay_436 : decode cX10_lay 436 = .ok (.aload_n 0, 1) := by decide +kernel
theorem dX10_lay_437 : decode cX10_lay 437 = .ok (.getfield 49, 3) := by decide +kernel
theorem dX10_lay_440 : decode cX10_lay 440 = .ok (.invokestatic 169, 3) := by decide +kernel
theorem dX10_lay_443 : decode cX10_lay 443 = .ok (.lconst 0, 1) := by decide +kernel
theorem dX10_lay_444 : decode cX10_lay 444 = .ok (.lcmp, 1) := by decide +kernel
theorem dX10_lay_445 : decode cX10_lay 445 = .ok (.ifCond .ge 6, 3) := by decide +kernel
theorem dX10_lay_448 : decode cX10_lay 448 = .ok (.bipush (-4), 2) := by decide +kernel
theorem dX10_lay_450 : decode cX10_lay 450 = .ok (.ireturn, 1) := by decide +kernel
theorem dX10_lay_451 : decode cX10_lay 451 = .ok (.aload_n 0, 1) := by decide +kernel
theorem dX10_lay_452 : decode cX10_lay 452 = .ok (.getfield 199, 3) := by decide +kernel
theorem dX10_lay_455 : decode cX10_lay 455 = .ok (.bipush 40, 2) := by decide +kernel
theorem dX10_lay_457 : decode cX10_lay 457 = .ok (.if_icmp .eq 12, 3) := by decide +kernel
theorem dX10_lay_460 : decode cX10_lay 460 = .ok (.aload_n 0, 1) := by decide +kernel
theorem dX10_lay_461 : decode cX10_lay 461 = .ok (.getfield 181, 3) := by decide +kernel
theorem dX10_lay_464 : decode cX10_lay 464 = .ok (.bipush 100, 2) := by decide +kernel
theorem dX10_lay_466 : decode cX10_lay 466 = .ok (.if_icmp .ne 6, 3) := by decide +kernel
theorem dX10_lay_469 : decode cX10_lay 469 = .ok (.bipush (-5), 2) := by decide +kernel
theorem dX10_lay_471 : decode cX10_lay 471 = .ok (.ireturn, 1) := by decide +kernel
theorem dX10_lay_472 : decode cX10_lay 472 = .ok (.aload_n 0, 1) := by decide +kernel
theorem dX10_lay_473 : decode cX10_lay 473 = .ok (.iload 9, 2) := by decide +kernel
theorem dX10_lay_475 : decode cX10_lay 475 = .ok (.invokevirtual 206, 3) := by decide +kernel
theorem dX10_lay_478 : decode cX10_lay 478 = .ok (.istore 10, 2) := by decide +kernel
theorem dX10_lay_480 : decode cX10_lay 480 = .ok (.iload 10, 2) := by decide +kernel
theorem dX10_lay_482 : decode cX10_lay 482 = .ok (.iconst (-1), 1) := by decide +kernel
theorem dX10_lay_483 : decode cX10_lay 483 = .ok (.if_icmp .eq 9, 3) := by decide +kernel
theorem dX10_lay_486 : decode cX10_lay 486 = .ok (.bipush (-10), 2) := by decide +kernel
theorem dX10_lay_488 : decode cX10_lay 488 = .ok (.iload 10, 2) := by decide +kernel
theorem dX10_lay_490 : decode cX10_lay 490 = .ok (.isub, 1) := by decide +kernel
theorem dX10_lay_491 : decode cX10_lay 491 = .ok (.ireturn, 1) := by decide +kernel
theorem dX10_lay_492 : decode cX10_lay 492 = .ok (.aload_n 0, 1) := by decide +kernel
theorem dX10_lay_493 : decode cX10_lay 493 = .ok (.getfield 39, 3) := by decide +kernel
theorem dX10_lay_496 : decode cX10_lay 496 = .ok (.iload 9, 2) := by decide +kernel
theorem dX10_lay_498 : decode cX10_lay 498 = .ok (.iconst 1, 1) := by decide +kernel
theorem dX10_lay_499 : decode cX10_lay 499 = .ok (.bastore, 1) := by decide +kernel
theorem dX10_lay_500 : decode cX10_lay 500 = .ok (.aload_n 0, 1) := by decide +kernel
theorem dX10_lay_501 : decode cX10_lay 501 = .ok (.dup, 1) := by decide +kernel
theorem dX10_lay_502 : decode cX10_lay 502 = .ok (.getfield 181, 3) := by decide +kernel
theorem dX10_lay_505 : decode cX10_lay 505 = .ok (.iconst 1, 1) := by decide +kernel
theorem dX10_lay_506 : decode cX10_lay 506 = .ok (.iadd, 1) := by decide +kernel
theorem dX10_lay_507 : decode cX10_lay 507 = .ok (.putfield 181, 3) := by decide +kernel
theorem dX10_lay_510 : decode cX10_lay 510 = .ok (.aload_n 0, 1) := by decide +kernel
theorem dX10_lay_511 : decode cX10_lay 511 = .ok (.dup, 1) := by decide +kernel
theorem dX10_lay_512 : decode cX10_lay 512 = .ok (.getfield 199, 3) := by decide +kernel
theorem dX10_lay_515 : decode cX10_lay 515 = .ok (.iconst 1, 1) := by decide +kernel
theorem dX10_lay_516 : decode cX10_lay 516 = .ok (.iadd, 1) := by decide +kernel
theorem dX10_lay_517 : decode cX10_lay 517 = .ok (.putfield 199, 3) := by decide +kernel
theorem dX10_lay_520 : decode cX10_lay 520 = .ok (.aload_n 0, 1) := by decide +kernel
theorem dX10_lay_521 : decode cX10_lay 521 = .ok (.iconst 1, 1) := by decide +kernel
theorem dX10_lay_522 : decode cX10_lay 522 = .ok (.iload 9, 2) := by decide +kernel
theorem dX10_lay_524 : decode cX10_lay 524 = .ok (.invokevirtual 209, 3) := by decide +kernel
theorem dX10_lay_527 : decode cX10_lay 527 = .ok (.iload 9, 2) := by decide +kernel
theorem dX10_lay_529 : decode cX10_lay 529 = .ok (.ireturn, 1) := by decide +kernel
theorem dX10_isThere_0 : decode cX10_isThere 0 = .ok (.aload_n 0, 1) := by decide +kernel
theorem dX10_isThere_1 : decode cX10_isThere 1 = .ok (.iload_n 1, 1) := by decide +kernel
theorem dX10_isThere_2 : decode cX10_isThere 2 = .ok (.ifCond .lt 24, 3) := by decide +kernel
theorem dX10_isThere_5 : decode cX10_isThere 5 = .ok (.iload_n 1, 1) := by decide +kernel
theorem dX10_isThere_6 : decode cX10_isThere 6 = .ok (.aload_n 0, 1) := by decide +kernel
theorem dX10_isThere_7 : decode cX10_isThere 7 = .ok (.getfield 181, 3) := by decide +kernel
theorem dX10_isThere_10 : decode cX10_isThere 10 = .ok (.if_icmp .ge 16, 3) := by decide +kernel
theorem dX10_isThere_13 : decode cX10_isThere 13 = .ok (.aload_n 0, 1) := by decide +kernel
theorem dX10_isThere_14 : decode cX10_isThere 14 = .ok (.getfield 39, 3) := by decide +kernel
theorem dX10_isThere_17 : decode cX10_isThere 17 = .ok (.iload_n 1, 1) := by decide +kernel
theorem dX10_isThere_18 : decode cX10_isThere 18 = .ok (.baload, 1) := by decide +kernel
theorem dX10_isThere_19 : decode cX10_isThere 19 = .ok (.ifCond .eq 7, 3) := by decide +kernel
theorem dX10_isThere_22 : decode cX10_isThere 22 = .ok (.iconst 1, 1) := by decide +kernel
theorem dX10_isThere_23 : decode cX10_isThere 23 = .ok (.goto 4, 3) := by decide +kernel
theorem dX10_isThere_26 : decode cX10_isThere 26 = .ok (.iconst 0, 1) := by decide +kernel
theorem dX10_isThere_27 : decode cX10_isThere 27 = .ok (.iconst 1, 1) := by decide +kernel
theorem dX10_isThere_28 : decode cX10_isThere 28 = .ok (.invokevirtual 136, 3) := by decide +kernel
theorem dX10_isThere_31 : decode cX10_isThere 31 = .ok (.ireturn, 1) := by decide +kernel
theorem dX10_move_0 : decode cX10_move 0 = .ok (.aload_n 0, 1) := by decide +kernel
theorem dX10_move_1 : decode cX10_move 1 = .ok (.iconst 0, 1) := by decide +kernel
theorem dX10_move_2 : decode cX10_move 2 = .ok (.putfield 1, 3) := by decide +kernel
theorem dX10_move_5 : decode cX10_move 5 = .ok (.aload_n 0, 1) := by decide +kernel
theorem dX10_move_6 : decode cX10_move 6 = .ok (.iload_n 1, 1) := by decide +kernel
theorem dX10_move_7 : decode cX10_move 7 = .ok (.invokevirtual 213, 3) := by decide +kernel
theorem dX10_move_10 : decode cX10_move 10 = .ok (.ifCond .ne 5, 3) := by decide +kernel
theorem dX10_move_13 : decode cX10_move 13 = .ok (.iconst 0, 1) := by decide +kernel
theorem dX10_move_14 : decode cX10_move 14 = .ok (.ireturn, 1) := by decide +kernel
theorem dX10_move_15 : decode cX10_move 15 = .ok (.iconst 3, 1) := by decide +kernel
theorem dX10_move_16 : decode cX10_move 16 = .ok (.aload_n 0, 1) := by decide +kernel
theorem dX10_move_17 : decode cX10_move 17 = .ok (.iload_n 1, 1) := by decide +kernel
theorem dX10_move_18 : decode cX10_move 18 = .ok (.invokevirtual 184, 3) := by decide +kernel
theorem dX10_move_21 : decode cX10_move 21 = .ok (.iconst 1, 1) := by decide +kernel
theorem dX10_move_22 : decode cX10_move 22 = .ok (.iadd, 1) := by decide +kernel
theorem dX10_move_23 : decode cX10_move 23 = .ok (.imul, 1) := by decide +kernel
theorem dX10_move_24 : decode cX10_move 24 = .ok (.istore 5, 2) := by decide +kernel
theorem dX10_move_26 : decode cX10_move 26 = .ok (.iconst 0, 1) := by decide +kernel
theorem dX10_move_27 : decode cX10_move 27 = .ok (.istore 6, 2) := by decide +kernel
theorem dX10_move_29 : decode cX10_move 29 = .ok (.iload 6, 2) := by decide +kernel
