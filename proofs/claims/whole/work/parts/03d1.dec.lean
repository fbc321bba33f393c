theorem dX10_move_31 : decode cX10_move 31 = .ok (.iload 5, 2) := by decide +kernel
theorem dX10_move_33 : decode cX10_move 33 = .ok (.if_icmp .ge 72, 3) := by decide +kernel
theorem dX10_move_36 : decode cX10_move 36 = .ok (.aload_n 0, 1) := by decide +kernel
theorem dX10_move_37 : decode cX10_move 37 = .ok (.getfield 36, 3) := by decide +kernel
theorem dX10_move_40 : decode cX10_move 40 = .ok (.bipush 9, 2) := by decide +kernel
theorem dX10_move_42 : decode cX10_move 42 = .ok (.iload_n 1, 1) := by decide +kernel
theorem dX10_move_43 : decode cX10_move 43 = .ok (.imul, 1) := by decide +kernel
theorem dX10_move_44 : decode cX10_move 44 = .ok (.iload 6, 2) := by decide +kernel
theorem dX10_move_46 : decode cX10_move 46 = .ok (.iadd, 1) := by decide +kernel
theorem dX10_move_47 : decode cX10_move 47 = .ok (.iaload, 1) := by decide +kernel
theorem dX10_move_48 : decode cX10_move 48 = .ok (.i2l, 1) := by decide +kernel
theorem dX10_move_49 : decode cX10_move 49 = .ok (.iload 6, 2) := by decide +kernel
theorem dX10_move_51 : decode cX10_move 51 = .ok (.iconst 3, 1) := by decide +kernel
theorem dX10_move_52 : decode cX10_move 52 = .ok (.irem, 1) := by decide +kernel
theorem dX10_move_53 : decode cX10_move 53 = .ok (.ifCond .ne 7, 3) := by decide +kernel
theorem dX10_move_56 : decode cX10_move 56 = .ok (.iload_n 2, 1) := by decide +kernel
theorem dX10_move_57 : decode cX10_move 57 = .ok (.goto 17, 3) := by decide +kernel
theorem dX10_move_60 : decode cX10_move 60 = .ok (.iload 6, 2) := by decide +kernel
theorem dX10_move_62 : decode cX10_move 62 = .ok (.iconst 3, 1) := by decide +kernel
theorem dX10_move_63 : decode cX10_move 63 = .ok (.irem, 1) := by decide +kernel
theorem dX10_move_64 : decode cX10_move 64 = .ok (.iconst 1, 1) := by decide +kernel
theorem dX10_move_65 : decode cX10_move 65 = .ok (.if_icmp .ne 7, 3) := by decide +kernel
theorem dX10_move_68 : decode cX10_move 68 = .ok (.iload_n 3, 1) := by decide +kernel
theorem dX10_move_69 : decode cX10_move 69 = .ok (.goto 5, 3) := by decide +kernel
theorem dX10_move_72 : decode cX10_move 72 = .ok (.iload 4, 2) := by decide +kernel
theorem dX10_move_74 : decode cX10_move 74 = .ok (.i2l, 1) := by decide +kernel
theorem dX10_move_75 : decode cX10_move 75 = .ok (.ladd, 1) := by decide +kernel
theorem dX10_move_76 : decode cX10_move 76 = .ok (.lstore 7, 2) := by decide +kernel
theorem dX10_move_78 : decode cX10_move 78 = .ok (.lload 7, 2) := by decide +kernel
theorem dX10_move_80 : decode cX10_move 80 = .ok (.ldc2_w 202, 3) := by decide +kernel
theorem dX10_move_83 : decode cX10_move 83 = .ok (.lcmp, 1) := by decide +kernel
theorem dX10_move_84 : decode cX10_move 84 = .ok (.ifCond .lt 12, 3) := by decide +kernel
theorem dX10_move_87 : decode cX10_move 87 = .ok (.lload 7, 2) := by decide +kernel
theorem dX10_move_89 : decode cX10_move 89 = .ok (.ldc2_w 204, 3) := by decide +kernel
theorem dX10_move_92 : decode cX10_move 92 = .ok (.lcmp, 1) := by decide +kernel
theorem dX10_move_93 : decode cX10_move 93 = .ok (.ifCond .le 6, 3) := by decide +kernel
theorem dX10_move_96 : decode cX10_move 96 = .ok (.bipush (-3), 2) := by decide +kernel
theorem dX10_move_98 : decode cX10_move 98 = .ok (.ireturn, 1) := by decide +kernel
theorem dX10_move_99 : decode cX10_move 99 = .ok (.iinc 6 1, 3) := by decide +kernel
theorem dX10_move_102 : decode cX10_move 102 = .ok (.goto (-73), 3) := by decide +kernel
theorem dX10_move_105 : decode cX10_move 105 = .ok (.iconst 0, 1) := by decide +kernel
theorem dX10_move_106 : decode cX10_move 106 = .ok (.istore 6, 2) := by decide +kernel
theorem dX10_move_108 : decode cX10_move 108 = .ok (.iload 6, 2) := by decide +kernel
theorem dX10_move_110 : decode cX10_move 110 = .ok (.bipush 9, 2) := by decide +kernel
theorem dX10_move_112 : decode cX10_move 112 = .ok (.if_icmp .ge 28, 3) := by decide +kernel
theorem dX10_move_115 : decode cX10_move 115 = .ok (.aload_n 0, 1) := by decide +kernel
theorem dX10_move_116 : decode cX10_move 116 = .ok (.getfield 67, 3) := by decide +kernel
theorem dX10_move_119 : decode cX10_move 119 = .ok (.iload 6, 2) := by decide +kernel
theorem dX10_move_121 : decode cX10_move 121 = .ok (.aload_n 0, 1) := by decide +kernel
theorem dX10_move_122 : decode cX10_move 122 = .ok (.getfield 36, 3) := by decide +kernel
theorem dX10_move_125 : decode cX10_move 125 = .ok (.bipush 9, 2) := by decide +kernel
theorem dX10_move_127 : decode cX10_move 127 = .ok (.iload_n 1, 1) := by decide +kernel
theorem dX10_move_128 : decode cX10_move 128 = .ok (.imul, 1) := by decide +kernel
theorem dX10_move_129 : decode cX10_move 129 = .ok (.iload 6, 2) := by decide +kernel
theorem dX10_move_131 : decode cX10_move 131 = .ok (.iadd, 1) := by decide +kernel
theorem dX10_move_132 : decode cX10_move 132 = .ok (.iaload, 1) := by decide +kernel
theorem dX10_move_133 : decode cX10_move 133 = .ok (.iastore, 1) := by decide +kernel
theorem dX10_move_134 : decode cX10_move 134 = .ok (.iinc 6 1, 3) := by decide +kernel
theorem dX10_move_137 : decode cX10_move 137 = .ok (.goto (-29), 3) := by decide +kernel
theorem dX10_move_140 : decode cX10_move 140 = .ok (.iconst 0, 1) := by decide +kernel
theorem dX10_move_141 : decode cX10_move 141 = .ok (.istore 6, 2) := by decide +kernel
theorem dX10_move_143 : decode cX10_move 143 = .ok (.iload 6, 2) := by decide +kernel
theorem dX10_move_145 : decode cX10_move 145 = .ok (.iload 5, 2) := by decide +kernel
theorem dX10_move_147 : decode cX10_move 147 = .ok (.if_icmp .ge 49, 3) := by decide +kernel
theorem dX10_move_150 : decode cX10_move 150 = .ok (.aload_n 0, 1) := by decide +kernel
theorem dX10_move_151 : decode cX10_move 151 = .ok (.getfield 36, 3) := by decide +kernel
theorem dX10_move_154 : decode cX10_move 154 = .ok (.bipush 9, 2) := by decide +kernel
theorem dX10_move_156 : decode cX10_move 156 = .ok (.iload_n 1, 1) := by decide +kernel
theorem dX10_move_157 : decode cX10_move 157 = .ok (.imul, 1) := by decide +kernel
theorem dX10_move_158 : decode cX10_move 158 = .ok (.iload 6, 2) := by decide +kernel
theorem dX10_move_160 : decode cX10_move 160 = .ok (.iadd, 1) := by decide +kernel
theorem dX10_move_161 : decode cX10_move 161 = .ok (.dup2, 1) := by decide +kernel
theorem dX10_move_162 : decode cX10_move 162 = .ok (.iaload, 1) := by decide +kernel
theorem dX10_move_163 : decode cX10_move 163 = .ok (.iload 6, 2) := by decide +kernel
theorem dX10_move_165 : decode cX10_move 165 = .ok (.iconst 3, 1) := by decide +kernel
theorem dX10_move_166 : decode cX10_move 166 = .ok (.irem, 1) := by decide +kernel
theorem dX10_move_167 : decode cX10_move 167 = .ok (.ifCond .ne 7, 3) := by decide +kernel
theorem dX10_move_170 : decode cX10_move 170 = .ok (.iload_n 2, 1) := by decide +kernel
theorem dX10_move_171 : decode cX10_move 171 = .ok (.goto 17, 3) := by decide +kernel
theorem dX10_move_174 : decode cX10_move 174 = .ok (.iload 6, 2) := by decide +kernel
theorem dX10_move_176 : decode cX10_move 176 = .ok (.iconst 3, 1) := by decide +kernel
theorem dX10_move_177 : decode cX10_move 177 = .ok (.irem, 1) := by decide +kernel
theorem dX10_move_178 : decode cX10_move 178 = .ok (.iconst 1, 1) := by decide +kernel
theorem dX10_move_179 : decode cX10_move 179 = .ok (.if_icmp .ne 7, 3) := by decide +kernel
theorem dX10_move_182 : decode cX10_move 182 = .ok (.iload_n 3, 1) := by decide +kernel
theorem dX10_move_183 : decode cX10_move 183 = .ok (.goto 5, 3) := by decide +kernel
theorem dX10_move_186 : decode cX10_move 186 = .ok (.iload 4, 2) := by decide +kernel
theorem dX10_move_188 : decode cX10_move 188 = .ok (.iadd, 1) := by decide +kernel
theorem dX10_move_189 : decode cX10_move 189 = .ok (.iastore, 1) := by decide +kernel
theorem dX10_move_190 : decode cX10_move 190 = .ok (.iinc 6 1, 3) := by decide +kernel
theorem dX10_move_193 : decode cX10_move 193 = .ok (.goto (-50), 3) := by decide +kernel
theorem dX10_move_196 : decode cX10_move 196 = .ok (.aload_n 0, 1) := by decide +kernel
theorem dX10_move_197 : decode cX10_move 197 = .ok (.iload_n 1, 1) := by decide +kernel
theorem dX10_move_198 : decode cX10_move 198 = .ok (.invokevirtual 206, 3) := by decide +kernel
theorem dX10_move_201 : decode cX10_move 201 = .ok (.istore 6, 2) := by decide +kernel
theorem dX10_move_203 : decode cX10_move 203 = .ok (.iconst 0, 1) := by decide +kernel
theorem dX10_move_204 : decode cX10_move 204 = .ok (.istore 7, 2) := by decide +kernel
theorem dX10_move_206 : decode cX10_move 206 = .ok (.iload 7, 2) := by decide +kernel
theorem dX10_move_208 : decode cX10_move 208 = .ok (.bipush 9, 2) := by decide +kernel
theorem dX10_move_210 : decode cX10_move 210 = .ok (.if_icmp .ge 51, 3) := by decide +kernel
theorem dX10_move_213 : decode cX10_move 213 = .ok (.aload_n 0, 1) := by decide +kernel
theorem dX10_move_214 : decode cX10_move 214 = .ok (.getfield 36, 3) := by decide +kernel
theorem dX10_move_217 : decode cX10_move 217 = .ok (.bipush 9, 2) := by decide +kernel
theorem dX10_move_219 : decode cX10_move 219 = .ok (.iload_n 1, 1) := by decide +kernel
theorem dX10_move_220 : decode cX10_move 220 = .ok (.imul, 1) := by decide +kernel
theorem dX10_move_221 : decode cX10_move 221 = .ok (.iload 7, 2) := by decide +kernel
theorem dX10_move_223 : decode cX10_move 223 = .ok (.iadd, 1) := by decide +kernel
theorem dX10_move_224 : decode cX10_move 224 = .ok (.iaload, 1) := by decide +kernel
theorem dX10_move_225 : decode cX10_move 225 = .ok (.istore 8, 2) := by decide +kernel
theorem dX10_move_227 : decode cX10_move 227 = .ok (.aload_n 0, 1) := by decide +kernel
theorem dX10_move_228 : decode cX10_move 228 = .ok (.getfield 36, 3) := by decide +kernel
theorem dX10_move_231 : decode cX10_move 231 = .ok (.bipush 9, 2) := by decide +kernel
theorem dX10_move_233 : decode cX10_move 233 = .ok (.iload_n 1, 1) := by decide +kernel
theorem dX10_move_234 : decode cX10_move 234 = .ok (.imul, 1) := by decide +kernel
theorem dX10_move_235 : decode cX10_move 235 = .ok (.iload 7, 2) := by decide +kernel
theorem dX10_move_237 : decode cX10_move 237 = .ok (.iadd, 1) := by decide +kernel
theorem dX10_move_238 : decode cX10_move 238 = .ok (.aload_n 0, 1) := by decide +kernel
theorem dX10_move_239 : decode cX10_move 239 = .ok (.getfield 67, 3) := by decide +kernel
theorem dX10_move_242 : decode cX10_move 242 = .ok (.iload 7, 2) := by decide +kernel
theorem dX10_move_244 : decode cX10_move 244 = .ok (.iaload, 1) := by decide +kernel
theorem dX10_move_245 : decode cX10_move 245 = .ok (.iastore, 1) := by decide +kernel
theorem dX10_move_246 : decode cX10_move 246 = .ok (.aload_n 0, 1) := by decide +kernel
theorem dX10_move_247 : decode cX10_move 247 = .ok (.getfield 67, 3) := by decide +kernel
theorem dX10_move_250 : decode cX10_move 250 = .ok (.iload 7, 2) := by decide +kernel
theorem dX10_move_252 : decode cX10_move 252 = .ok (.iload 8, 2) := by decide +kernel
theorem dX10_move_254 : decode cX10_move 254 = .ok (.iastore, 1) := by decide +kernel
theorem dX10_move_255 : decode cX10_move 255 = .ok (.iinc 7 1, 3) := by decide +kernel
theorem dX10_move_258 : decode cX10_move 258 = .ok (.goto (-52), 3) := by decide +kernel
theorem dX10_move_261 : decode cX10_move 261 = .ok (.iload 6, 2) := by decide +kernel
theorem dX10_move_263 : decode cX10_move 263 = .ok (.iconst (-1), 1) := by decide +kernel
theorem dX10_move_264 : decode cX10_move 264 = .ok (.if_icmp .eq 9, 3) := by decide +kernel
theorem dX10_move_267 : decode cX10_move 267 = .ok (.bipush (-10), 2) := by decide +kernel
theorem dX10_move_269 : decode cX10_move 269 = .ok (.iload 6, 2) := by decide +kernel
theorem dX10_move_271 : decode cX10_move 271 = .ok (.isub, 1) := by decide +kernel
theorem dX10_move_272 : decode cX10_move 272 = .ok (.ireturn, 1) := by decide +kernel
theorem dX10_move_273 : decode cX10_move 273 = .ok (.aload_n 0, 1) := by decide +kernel
theorem dX10_move_274 : decode cX10_move 274 = .ok (.iconst 2, 1) := by decide +kernel
theorem dX10_move_275 : decode cX10_move 275 = .ok (.iload_n 1, 1) := by decide +kernel
theorem dX10_move_276 : decode cX10_move 276 = .ok (.invokevirtual 209, 3) := by decide +kernel
theorem dX10_move_279 : decode cX10_move 279 = .ok (.iconst 0, 1) := by decide +kernel
theorem dX10_move_280 : decode cX10_move 280 = .ok (.istore 7, 2) := by decide +kernel
theorem dX10_move_282 : decode cX10_move 282 = .ok (.iload 7, 2) := by decide +kernel
theorem dX10_move_284 : decode cX10_move 284 = .ok (.bipush 9, 2) := by decide +kernel
theorem dX10_move_286 : decode cX10_move 286 = .ok (.if_icmp .ge 28, 3) := by decide +kernel
theorem dX10_move_289 : decode cX10_move 289 = .ok (.aload_n 0, 1) := by decide +kernel
theorem dX10_move_290 : decode cX10_move 290 = .ok (.getfield 36, 3) := by decide +kernel
theorem dX10_move_293 : decode cX10_move 293 = .ok (.bipush 9, 2) := by decide +kernel
theorem dX10_move_295 : decode cX10_move 295 = .ok (.iload_n 1, 1) := by decide +kernel
theorem dX10_move_296 : decode cX10_move 296 = .ok (.imul, 1) := by decide +kernel
theorem dX10_move_297 : decode cX10_move 297 = .ok (.iload 7, 2) := by decide +kernel
theorem dX10_move_299 : decode cX10_move 299 = .ok (.iadd, 1) := by decide +kernel
theorem dX10_move_300 : decode cX10_move 300 = .ok (.aload_n 0, 1) := by decide +kernel
theorem dX10_move_301 : decode cX10_move 301 = .ok (.getfield 67, 3) := by decide +kernel
theorem dX10_move_304 : decode cX10_move 304 = .ok (.iload 7, 2) := by decide +kernel
theorem dX10_move_306 : decode cX10_move 306 = .ok (.iaload, 1) := by decide +kernel
theorem dX10_move_307 : decode cX10_move 307 = .ok (.iastore, 1) := by decide +kernel
theorem dX10_move_308 : decode cX10_move 308 = .ok (.iinc 7 1, 3) := by decide +kernel
theorem dX10_move_311 : decode cX10_move 311 = .ok (.goto (-29), 3) := by decide +kernel
theorem dX10_move_314 : decode cX10_move 314 = .ok (.iconst 1, 1) := by decide +kernel
theorem dX10_move_315 : decode cX10_move 315 = .ok (.ireturn, 1) := by decide +kernel
theorem dX10_take_0 : decode cX10_take 0 = .ok (.aload_n 0, 1) := by decide +kernel
theorem dX10_take_1 : decode cX10_take 1 = .ok (.iconst 3, 1) := by decide +kernel
theorem dX10_take_2 : decode cX10_take 2 = .ok (.iload_n 1, 1) := by decide +kernel
theorem dX10_take_3 : decode cX10_take 3 = .ok (.invokevirtual 209, 3) := by decide +kernel
theorem dX10_take_6 : decode cX10_take 6 = .ok (.aload_n 0, 1) := by decide +kernel
theorem dX10_take_7 : decode cX10_take 7 = .ok (.getfield 39, 3) := by decide +kernel
theorem dX10_take_10 : decode cX10_take 10 = .ok (.iload_n 1, 1) := by decide +kernel
theorem dX10_take_11 : decode cX10_take 11 = .ok (.iconst 0, 1) := by decide +kernel
theorem dX10_take_12 : decode cX10_take 12 = .ok (.bastore, 1) := by decide +kernel
theorem dX10_take_13 : decode cX10_take 13 = .ok (.aload_n 0, 1) := by decide +kernel
theorem dX10_take_14 : decode cX10_take 14 = .ok (.dup, 1) := by decide +kernel
theorem dX10_take_15 : decode cX10_take 15 = .ok (.getfield 199, 3) := by decide +kernel
theorem dX10_take_18 : decode cX10_take 18 = .ok (.iconst 1, 1) := by decide +kernel
theorem dX10_take_19 : decode cX10_take 19 = .ok (.isub, 1) := by decide +kernel
theorem dX10_take_20 : decode cX10_take 20 = .ok (.putfield 199, 3) := by decide +kernel
theorem dX10_take_23 : decode cX10_take 23 = .ok (.return_, 1) := by decide +kernel
theorem dX10_away_0 : decode cX10_away 0 = .ok (.aload_n 0, 1) := by decide +kernel
theorem dX10_away_1 : decode cX10_away 1 = .ok (.iconst 0, 1) := by decide +kernel
theorem dX10_away_2 : decode cX10_away 2 = .ok (.putfield 1, 3) := by decide +kernel
theorem dX10_away_5 : decode cX10_away 5 = .ok (.aload_n 0, 1) := by decide +kernel
theorem dX10_away_6 : decode cX10_away 6 = .ok (.iload_n 1, 1) := by decide +kernel
theorem dX10_away_7 : decode cX10_away 7 = .ok (.invokevirtual 213, 3) := by decide +kernel
theorem dX10_away_10 : decode cX10_away 10 = .ok (.ifCond .ne 5, 3) := by decide +kernel
theorem dX10_away_13 : decode cX10_away 13 = .ok (.iconst 0, 1) := by decide +kernel
theorem dX10_away_14 : decode cX10_away 14 = .ok (.ireturn, 1) := by decide +kernel
theorem dX10_away_15 : decode cX10_away 15 = .ok (.aload_n 0, 1) := by decide +kernel
theorem dX10_away_16 : decode cX10_away 16 = .ok (.iload_n 1, 1) := by decide +kernel
theorem dX10_away_17 : decode cX10_away 17 = .ok (.invokevirtual 217, 3) := by decide +kernel
theorem dX10_away_20 : decode cX10_away 20 = .ok (.aload_n 0, 1) := by decide +kernel
theorem dX10_away_21 : decode cX10_away 21 = .ok (.getfield 199, 3) := by decide +kernel
theorem dX10_away_24 : decode cX10_away 24 = .ok (.ireturn, 1) := by decide +kernel
theorem dX10_lift_0 : decode cX10_lift 0 = .ok (.aload_n 0, 1) := by decide +kernel
theorem dX10_lift_1 : decode cX10_lift 1 = .ok (.iconst 0, 1) := by decide +kernel
theorem dX10_lift_2 : decode cX10_lift 2 = .ok (.putfield 1, 3) := by decide +kernel
theorem dX10_lift_5 : decode cX10_lift 5 = .ok (.aload_n 0, 1) := by decide +kernel
theorem dX10_lift_6 : decode cX10_lift 6 = .ok (.iload_n 1, 1) := by decide +kernel
theorem dX10_lift_7 : decode cX10_lift 7 = .ok (.invokevirtual 213, 3) := by decide +kernel
theorem dX10_lift_10 : decode cX10_lift 10 = .ok (.ifCond .eq 11, 3) := by decide +kernel
theorem dX10_lift_13 : decode cX10_lift 13 = .ok (.aload_n 0, 1) := by decide +kernel
theorem dX10_lift_14 : decode cX10_lift 14 = .ok (.iload_n 1, 1) := by decide +kernel
theorem dX10_lift_15 : decode cX10_lift 15 = .ok (.invokevirtual 221, 3) := by decide +kernel
theorem dX10_lift_18 : decode cX10_lift 18 = .ok (.ifCond .ne 5, 3) := by decide +kernel
theorem dX10_lift_21 : decode cX10_lift 21 = .ok (.iconst 0, 1) := by decide +kernel
theorem dX10_lift_22 : decode cX10_lift 22 = .ok (.ireturn, 1) := by decide +kernel
theorem dX10_lift_23 : decode cX10_lift 23 = .ok (.aload_n 0, 1) := by decide +kernel
theorem dX10_lift_24 : decode cX10_lift 24 = .ok (.iload_n 1, 1) := by decide +kernel
theorem dX10_lift_25 : decode cX10_lift 25 = .ok (.invokevirtual 217, 3) := by decide +kernel
theorem dX10_lift_28 : decode cX10_lift 28 = .ok (.iconst 1, 1) := by decide +kernel
theorem dX10_lift_29 : decode cX10_lift 29 = .ok (.ireturn, 1) := by decide +kernel
theorem dX10_turn_0 : decode cX10_turn 0 = .ok (.aload_n 0, 1) := by decide +kernel
theorem dX10_turn_1 : decode cX10_turn 1 = .ok (.iconst 0, 1) := by decide +kernel
theorem dX10_turn_2 : decode cX10_turn 2 = .ok (.putfield 1, 3) := by decide +kernel
theorem dX10_turn_5 : decode cX10_turn 5 = .ok (.iload_n 1, 1) := by decide +kernel
theorem dX10_turn_6 : decode cX10_turn 6 = .ok (.bipush (-100), 2) := by decide +kernel
theorem dX10_turn_8 : decode cX10_turn 8 = .ok (.if_icmp .lt 37, 3) := by decide +kernel
theorem dX10_turn_11 : decode cX10_turn 11 = .ok (.iload_n 1, 1) := by decide +kernel
theorem dX10_turn_12 : decode cX10_turn 12 = .ok (.bipush 100, 2) := by decide +kernel
theorem dX10_turn_14 : decode cX10_turn 14 = .ok (.if_icmp .gt 31, 3) := by decide +kernel
theorem dX10_turn_17 : decode cX10_turn 17 = .ok (.iload_n 2, 1) := by decide +kernel
theorem dX10_turn_18 : decode cX10_turn 18 = .ok (.bipush (-100), 2) := by decide +kernel
theorem dX10_turn_20 : decode cX10_turn 20 = .ok (.if_icmp .lt 25, 3) := by decide +kernel
theorem dX10_turn_23 : decode cX10_turn 23 = .ok (.iload_n 2, 1) := by decide +kernel
theorem dX10_turn_24 : decode cX10_turn 24 = .ok (.bipush 100, 2) := by decide +kernel
theorem dX10_turn_26 : decode cX10_turn 26 = .ok (.if_icmp .gt 19, 3) := by decide +kernel
theorem dX10_turn_29 : decode cX10_turn 29 = .ok (.iload_n 3, 1) := by decide +kernel
theorem dX10_turn_30 : decode cX10_turn 30 = .ok (.bipush (-100), 2) := by decide +kernel
theorem dX10_turn_32 : decode cX10_turn 32 = .ok (.if_icmp .lt 13, 3) := by decide +kernel
theorem dX10_turn_35 : decode cX10_turn 35 = .ok (.iload_n 3, 1) := by decide +kernel
theorem dX10_turn_36 : decode cX10_turn 36 = .ok (.bipush 100, 2) := by decide +kernel
theorem dX10_turn_38 : decode cX10_turn 38 = .ok (.if_icmp .gt 7, 3) := by decide +kernel
theorem dX10_turn_41 : decode cX10_turn 41 = .ok (.iconst 1, 1) := by decide +kernel
theorem dX10_turn_42 : decode cX10_turn 42 = .ok (.goto 4, 3) := by decide +kernel
theorem dX10_turn_45 : decode cX10_turn 45 = .ok (.iconst 0, 1) := by decide +kernel
theorem dX10_turn_46 : decode cX10_turn 46 = .ok (.istore 4, 2) := by decide +kernel
theorem dX10_turn_48 : decode cX10_turn 48 = .ok (.aload_n 0, 1) := by decide +kernel
theorem dX10_turn_49 : decode cX10_turn 49 = .ok (.iload 4, 2) := by decide +kernel
theorem dX10_turn_51 : decode cX10_turn 51 = .ok (.ifCond .eq 19, 3) := by decide +kernel
theorem dX10_turn_54 : decode cX10_turn 54 = .ok (.iload_n 1, 1) := by decide +kernel
theorem dX10_turn_55 : decode cX10_turn 55 = .ok (.ifCond .ne 11, 3) := by decide +kernel
theorem dX10_turn_58 : decode cX10_turn 58 = .ok (.iload_n 2, 1) := by decide +kernel
theorem dX10_turn_59 : decode cX10_turn 59 = .ok (.ifCond .ne 7, 3) := by decide +kernel
theorem dX10_turn_62 : decode cX10_turn 62 = .ok (.iload_n 3, 1) := by decide +kernel
theorem dX10_turn_63 : decode cX10_turn 63 = .ok (.ifCond .eq 7, 3) := by decide +kernel
theorem dX10_turn_66 : decode cX10_turn 66 = .ok (.iconst 1, 1) := by decide +kernel
theorem dX10_turn_67 : decode cX10_turn 67 = .ok (.goto 4, 3) := by decide +kernel
theorem dX10_turn_70 : decode cX10_turn 70 = .ok (.iconst 0, 1) := by decide +kernel
theorem dX10_turn_71 : decode cX10_turn 71 = .ok (.iconst 1, 1) := by decide +kernel
theorem dX10_turn_72 : decode cX10_turn 72 = .ok (.invokevirtual 136, 3) := by decide +kernel
theorem dX10_turn_75 : decode cX10_turn 75 = .ok (.ifCond .ne 4, 3) := by decide +kernel
theorem dX10_turn_78 : decode cX10_turn 78 = .ok (.return_, 1) := by decide +kernel
theorem dX10_turn_79 : decode cX10_turn 79 = .ok (.aload_n 0, 1) := by decide +kernel
theorem dX10_turn_80 : decode cX10_turn 80 = .ok (.iload_n 1, 1) := by decide +kernel
theorem dX10_turn_81 : decode cX10_turn 81 = .ok (.putfield 155, 3) := by decide +kernel
theorem dX10_turn_84 : decode cX10_turn 84 = .ok (.aload_n 0, 1) := by decide +kernel
theorem dX10_turn_85 : decode cX10_turn 85 = .ok (.iload_n 2, 1) := by decide +kernel
theorem dX10_turn_86 : decode cX10_turn 86 = .ok (.putfield 158, 3) := by decide +kernel
theorem dX10_turn_89 : decode cX10_turn 89 = .ok (.aload_n 0, 1) := by decide +kernel
theorem dX10_turn_90 : decode cX10_turn 90 = .ok (.iload_n 3, 1) := by decide +kernel
theorem dX10_turn_91 : decode cX10_turn 91 = .ok (.putfield 43, 3) := by decide +kernel
theorem dX10_turn_94 : decode cX10_turn 94 = .ok (.return_, 1) := by decide +kernel
theorem dX10_told_0 : decode cX10_told 0 = .ok (.aload_n 0, 1) := by decide +kernel
theorem dX10_told_1 : decode cX10_told 1 = .ok (.iconst 0, 1) := by decide +kernel
theorem dX10_told_2 : decode cX10_told 2 = .ok (.putfield 1, 3) := by decide +kernel
theorem dX10_told_5 : decode cX10_told 5 = .ok (.aload_n 0, 1) := by decide +kernel
theorem dX10_told_6 : decode cX10_told 6 = .ok (.iload_n 1, 1) := by decide +kernel
theorem dX10_told_7 : decode cX10_told 7 = .ok (.invokevirtual 213, 3) := by decide +kernel
theorem dX10_told_10 : decode cX10_told 10 = .ok (.ifCond .eq 35, 3) := by decide +kernel
theorem dX10_told_13 : decode cX10_told 13 = .ok (.aload_n 0, 1) := by decide +kernel
theorem dX10_told_14 : decode cX10_told 14 = .ok (.iload_n 2, 1) := by decide +kernel
theorem dX10_told_15 : decode cX10_told 15 = .ok (.ifCond .lt 22, 3) := by decide +kernel
theorem dX10_told_18 : decode cX10_told 18 = .ok (.iload_n 2, 1) := by decide +kernel
theorem dX10_told_19 : decode cX10_told 19 = .ok (.iconst 4, 1) := by decide +kernel
theorem dX10_told_20 : decode cX10_told 20 = .ok (.iconst 3, 1) := by decide +kernel
theorem dX10_told_21 : decode cX10_told 21 = .ok (.aload_n 0, 1) := by decide +kernel
theorem dX10_told_22 : decode cX10_told 22 = .ok (.iload_n 1, 1) := by decide +kernel
theorem dX10_told_23 : decode cX10_told 23 = .ok (.invokevirtual 184, 3) := by decide +kernel
theorem dX10_told_26 : decode cX10_told 26 = .ok (.iconst 1, 1) := by decide +kernel
theorem dX10_told_27 : decode cX10_told 27 = .ok (.iadd, 1) := by decide +kernel
theorem dX10_told_28 : decode cX10_told 28 = .ok (.imul, 1) := by decide +kernel
theorem dX10_told_29 : decode cX10_told 29 = .ok (.iadd, 1) := by decide +kernel
theorem dX10_told_30 : decode cX10_told 30 = .ok (.if_icmp .ge 7, 3) := by decide +kernel
theorem dX10_told_33 : decode cX10_told 33 = .ok (.iconst 1, 1) := by decide +kernel
theorem dX10_told_34 : decode cX10_told 34 = .ok (.goto 4, 3) := by decide +kernel
theorem dX10_told_37 : decode cX10_told 37 = .ok (.iconst 0, 1) := by decide +kernel
theorem dX10_told_38 : decode cX10_told 38 = .ok (.iconst 2, 1) := by decide +kernel
theorem dX10_told_39 : decode cX10_told 39 = .ok (.invokevirtual 136, 3) := by decide +kernel
theorem dX10_told_42 : decode cX10_told 42 = .ok (.ifCond .ne 5, 3) := by decide +kernel
theorem dX10_told_45 : decode cX10_told 45 = .ok (.iconst 0, 1) := by decide +kernel
theorem dX10_told_46 : decode cX10_told 46 = .ok (.ireturn, 1) := by decide +kernel
theorem dX10_told_47 : decode cX10_told 47 = .ok (.iload_n 2, 1) := by decide +kernel
theorem dX10_told_48 : decode cX10_told 48 = .ok (.tableswitch 59 0 3 #[32, 39, 46, 53], 32) := by decide +kernel
theorem dX10_told_80 : decode cX10_told 80 = .ok (.aload_n 0, 1) := by decide +kernel
theorem dX10_told_81 : decode cX10_told 81 = .ok (.getfield 27, 3) := by decide +kernel
theorem dX10_told_84 : decode cX10_told 84 = .ok (.iload_n 1, 1) := by decide +kernel
theorem dX10_told_85 : decode cX10_told 85 = .ok (.iaload, 1) := by decide +kernel
theorem dX10_told_86 : decode cX10_told 86 = .ok (.ireturn, 1) := by decide +kernel
theorem dX10_told_87 : decode cX10_told 87 = .ok (.aload_n 0, 1) := by decide +kernel
theorem dX10_told_88 : decode cX10_told 88 = .ok (.getfield 30, 3) := by decide +kernel
theorem dX10_told_91 : decode cX10_told 91 = .ok (.iload_n 1, 1) := by decide +kernel
theorem dX10_told_92 : decode cX10_told 92 = .ok (.iaload, 1) := by decide +kernel
theorem dX10_told_93 : decode cX10_told 93 = .ok (.ireturn, 1) := by decide +kernel
theorem dX10_told_94 : decode cX10_told 94 = .ok (.aload_n 0, 1) := by decide +kernel
theorem dX10_told_95 : decode cX10_told 95 = .ok (.getfield 33, 3) := by decide +kernel
theorem dX10_told_98 : decode cX10_told 98 = .ok (.iload_n 1, 1) := by decide +kernel
theorem dX10_told_99 : decode cX10_told 99 = .ok (.iaload, 1) := by decide +kernel
theorem dX10_told_100 : decode cX10_told 100 = .ok (.ireturn, 1) := by decide +kernel
theorem dX10_told_101 : decode cX10_told 101 = .ok (.aload_n 0, 1) := by decide +kernel
theorem dX10_told_102 : decode cX10_told 102 = .ok (.iload_n 1, 1) := by decide +kernel
theorem dX10_told_103 : decode cX10_told 103 = .ok (.invokevirtual 184, 3) := by decide +kernel
theorem dX10_told_106 : decode cX10_told 106 = .ok (.ireturn, 1) := by decide +kernel
theorem dX10_told_107 : decode cX10_told 107 = .ok (.aload_n 0, 1) := by decide +kernel
theorem dX10_told_108 : decode cX10_told 108 = .ok (.getfield 36, 3) := by decide +kernel
theorem dX10_told_111 : decode cX10_told 111 = .ok (.bipush 9, 2) := by decide +kernel
theorem dX10_told_113 : decode cX10_told 113 = .ok (.iload_n 1, 1) := by decide +kernel
theorem dX10_told_114 : decode cX10_told 114 = .ok (.imul, 1) := by decide +kernel
theorem dX10_told_115 : decode cX10_told 115 = .ok (.iload_n 2, 1) := by decide +kernel
theorem dX10_told_116 : decode cX10_told 116 = .ok (.iadd, 1) := by decide +kernel
theorem dX10_told_117 : decode cX10_told 117 = .ok (.iconst 4, 1) := by decide +kernel
theorem dX10_told_118 : decode cX10_told 118 = .ok (.isub, 1) := by decide +kernel
theorem dX10_told_119 : decode cX10_told 119 = .ok (.iaload, 1) := by decide +kernel
theorem dX10_told_120 : decode cX10_told 120 = .ok (.ireturn, 1) := by decide +kernel
theorem dX10_after_0 : decode cX10_after 0 = .ok (.aload_n 0, 1) := by decide +kernel
theorem dX10_after_1 : decode cX10_after 1 = .ok (.iconst 0, 1) := by decide +kernel
theorem dX10_after_2 : decode cX10_after 2 = .ok (.putfield 1, 3) := by decide +kernel
theorem dX10_after_5 : decode cX10_after 5 = .ok (.iload_n 1, 1) := by decide +kernel
theorem dX10_after_6 : decode cX10_after 6 = .ok (.ifCond .ge 7, 3) := by decide +kernel
theorem dX10_after_9 : decode cX10_after 9 = .ok (.iconst 0, 1) := by decide +kernel
theorem dX10_after_10 : decode cX10_after 10 = .ok (.goto 19, 3) := by decide +kernel
theorem dX10_after_13 : decode cX10_after 13 = .ok (.iload_n 1, 1) := by decide +kernel
theorem dX10_after_14 : decode cX10_after 14 = .ok (.ldc 224, 2) := by decide +kernel
theorem dX10_after_16 : decode cX10_after 16 = .ok (.if_icmp .ne 10, 3) := by decide +kernel
theorem dX10_after_19 : decode cX10_after 19 = .ok (.aload_n 0, 1) := by decide +kernel
theorem dX10_after_20 : decode cX10_after 20 = .ok (.getfield 181, 3) := by decide +kernel
theorem dX10_after_23 : decode cX10_after 23 = .ok (.goto 6, 3) := by decide +kernel
theorem dX10_after_26 : decode cX10_after 26 = .ok (.iload_n 1, 1) := by decide +kernel
theorem dX10_after_27 : decode cX10_after 27 = .ok (.iconst 1, 1) := by decide +kernel
theorem dX10_after_28 : decode cX10_after 28 = .ok (.iadd, 1) := by decide +kernel
theorem dX10_after_29 : decode cX10_after 29 = .ok (.istore_n 2, 1) := by decide +kernel
theorem dX10_after_30 : decode cX10_after 30 = .ok (.iload_n 2, 1) := by decide +kernel
theorem dX10_after_31 : decode cX10_after 31 = .ok (.aload_n 0, 1) := by decide +kernel
theorem dX10_after_32 : decode cX10_after 32 = .ok (.getfield 181, 3) := by decide +kernel
theorem dX10_after_35 : decode cX10_after 35 = .ok (.if_icmp .ge 20, 3) := by decide +kernel
theorem dX10_after_38 : decode cX10_after 38 = .ok (.aload_n 0, 1) := by decide +kernel
theorem dX10_after_39 : decode cX10_after 39 = .ok (.getfield 39, 3) := by decide +kernel
theorem dX10_after_42 : decode cX10_after 42 = .ok (.iload_n 2, 1) := by decide +kernel
theorem dX10_after_43 : decode cX10_after 43 = .ok (.baload, 1) := by decide +kernel
theorem dX10_after_44 : decode cX10_after 44 = .ok (.ifCond .eq 5, 3) := by decide +kernel
theorem dX10_after_47 : decode cX10_after 47 = .ok (.iload_n 2, 1) := by decide +kernel
theorem dX10_after_48 : decode cX10_after 48 = .ok (.ireturn, 1) := by decide +kernel
theorem dX10_after_49 : decode cX10_after 49 = .ok (.iinc 2 1, 3) := by decide +kernel
theorem dX10_after_52 : decode cX10_after 52 = .ok (.goto (-22), 3) := by decide +kernel
theorem dX10_after_55 : decode cX10_after 55 = .ok (.iconst (-1), 1) := by decide +kernel
theorem dX10_after_56 : decode cX10_after 56 = .ok (.ireturn, 1) := by decide +kernel
theorem dX10_meet_0 : decode cX10_meet 0 = .ok (.aload_n 0, 1) := by decide +kernel
theorem dX10_meet_1 : decode cX10_meet 1 = .ok (.getfield 55, 3) := by decide +kernel
theorem dX10_meet_4 : decode cX10_meet 4 = .ok (.iconst 0, 1) := by decide +kernel
theorem dX10_meet_5 : decode cX10_meet 5 = .ok (.laload, 1) := by decide +kernel
theorem dX10_meet_6 : decode cX10_meet 6 = .ok (.lconst 0, 1) := by decide +kernel
theorem dX10_meet_7 : decode cX10_meet 7 = .ok (.lcmp, 1) := by decide +kernel
theorem dX10_meet_8 : decode cX10_meet 8 = .ok (.ifCond .eq 7, 3) := by decide +kernel
theorem dX10_meet_11 : decode cX10_meet 11 = .ok (.iconst 0, 1) := by decide +kernel
theorem dX10_meet_12 : decode cX10_meet 12 = .ok (.goto 19, 3) := by decide +kernel
theorem dX10_meet_15 : decode cX10_meet 15 = .ok (.aload_n 0, 1) := by decide +kernel
theorem dX10_meet_16 : decode cX10_meet 16 = .ok (.getfield 55, 3) := by decide +kernel
theorem dX10_meet_19 : decode cX10_meet 19 = .ok (.iconst 1, 1) := by decide +kernel
theorem dX10_meet_20 : decode cX10_meet 20 = .ok (.laload, 1) := by decide +kernel
theorem dX10_meet_21 : decode cX10_meet 21 = .ok (.lconst 0, 1) := by decide +kernel
theorem dX10_meet_22 : decode cX10_meet 22 = .ok (.lcmp, 1) := by decide +kernel
theorem dX10_meet_23 : decode cX10_meet 23 = .ok (.ifCond .eq 7, 3) := by decide +kernel
theorem dX10_meet_26 : decode cX10_meet 26 = .ok (.iconst 1, 1) := by decide +kernel
theorem dX10_meet_27 : decode cX10_meet 27 = .ok (.goto 4, 3) := by decide +kernel
theorem dX10_meet_30 : decode cX10_meet 30 = .ok (.iconst 2, 1) := by decide +kernel
theorem dX10_meet_31 : decode cX10_meet 31 = .ok (.istore 9, 2) := by decide +kernel
theorem dX10_meet_33 : decode cX10_meet 33 = .ok (.aload_n 0, 1) := by decide +kernel
theorem dX10_meet_34 : decode cX10_meet 34 = .ok (.getfield 52, 3) := by decide +kernel
theorem dX10_meet_37 : decode cX10_meet 37 = .ok (.iload 9, 2) := by decide +kernel
theorem dX10_meet_39 : decode cX10_meet 39 = .ok (.laload, 1) := by decide +kernel
theorem dX10_meet_40 : decode cX10_meet 40 = .ok (.lload_n 3, 1) := by decide +kernel
theorem dX10_meet_41 : decode cX10_meet 41 = .ok (.lmul, 1) := by decide +kernel
theorem dX10_meet_42 : decode cX10_meet 42 = .ok (.lload 7, 2) := by decide +kernel
theorem dX10_meet_44 : decode cX10_meet 44 = .ok (.lmul, 1) := by decide +kernel
theorem dX10_meet_45 : decode cX10_meet 45 = .ok (.aload_n 0, 1) := by decide +kernel
theorem dX10_meet_46 : decode cX10_meet 46 = .ok (.getfield 49, 3) := by decide +kernel
theorem dX10_meet_49 : decode cX10_meet 49 = .ok (.iload 9, 2) := by decide +kernel
theorem dX10_meet_51 : decode cX10_meet 51 = .ok (.laload, 1) := by decide +kernel
theorem dX10_meet_52 : decode cX10_meet 52 = .ok (.lload 5, 2) := by decide +kernel
theorem dX10_meet_54 : decode cX10_meet 54 = .ok (.lmul, 1) := by decide +kernel
theorem dX10_meet_55 : decode cX10_meet 55 = .ok (.lload_n 3, 1) := by decide +kernel
theorem dX10_meet_56 : decode cX10_meet 56 = .ok (.lmul, 1) := by decide +kernel
theorem dX10_meet_57 : decode cX10_meet 57 = .ok (.ladd, 1) := by decide +kernel
theorem dX10_meet_58 : decode cX10_meet 58 = .ok (.aload_n 0, 1) := by decide +kernel
theorem dX10_meet_59 : decode cX10_meet 59 = .ok (.getfield 46, 3) := by decide +kernel
theorem dX10_meet_62 : decode cX10_meet 62 = .ok (.iload 9, 2) := by decide +kernel
theorem dX10_meet_64 : decode cX10_meet 64 = .ok (.laload, 1) := by decide +kernel
theorem dX10_meet_65 : decode cX10_meet 65 = .ok (.lload_n 1, 1) := by decide +kernel
theorem dX10_meet_66 : decode cX10_meet 66 = .ok (.lmul, 1) := by decide +kernel
theorem dX10_meet_67 : decode cX10_meet 67 = .ok (.lload 7, 2) := by decide +kernel
theorem dX10_meet_69 : decode cX10_meet 69 = .ok (.lmul, 1) := by decide +kernel
theorem dX10_meet_70 : decode cX10_meet 70 = .ok (.lsub, 1) := by decide +kernel
theorem dX10_meet_71 : decode cX10_meet 71 = .ok (.lstore 10, 2) := by decide +kernel
theorem dX10_meet_73 : decode cX10_meet 73 = .ok (.aload_n 0, 1) := by decide +kernel
theorem dX10_meet_74 : decode cX10_meet 74 = .ok (.getfield 55, 3) := by decide +kernel
theorem dX10_meet_77 : decode cX10_meet 77 = .ok (.iload 9, 2) := by decide +kernel
theorem dX10_meet_79 : decode cX10_meet 79 = .ok (.laload, 1) := by decide +kernel
theorem dX10_meet_80 : decode cX10_meet 80 = .ok (.lload_n 3, 1) := by decide +kernel
theorem dX10_meet_81 : decode cX10_meet 81 = .ok (.lmul, 1) := by decide +kernel
theorem dX10_meet_82 : decode cX10_meet 82 = .ok (.lload 7, 2) := by decide +kernel
theorem dX10_meet_84 : decode cX10_meet 84 = .ok (.lmul, 1) := by decide +kernel
theorem dX10_meet_85 : decode cX10_meet 85 = .ok (.lstore 12, 2) := by decide +kernel
theorem dX10_meet_87 : decode cX10_meet 87 = .ok (.aload_n 0, 1) := by decide +kernel
theorem dX10_meet_88 : decode cX10_meet 88 = .ok (.lload_n 1, 1) := by decide +kernel
theorem dX10_meet_89 : decode cX10_meet 89 = .ok (.lload_n 3, 1) := by decide +kernel
theorem dX10_meet_90 : decode cX10_meet 90 = .ok (.lload 10, 2) := by decide +kernel
theorem dX10_meet_92 : decode cX10_meet 92 = .ok (.lload 12, 2) := by decide +kernel
theorem dX10_meet_94 : decode cX10_meet 94 = .ok (.invokevirtual 225, 3) := by decide +kernel
theorem dX10_meet_97 : decode cX10_meet 97 = .ok (.return_, 1) := by decide +kernel
theorem dX10_keep_0 : decode cX10_keep 0 = .ok (.lload_n 3, 1) := by decide +kernel
theorem dX10_keep_1 : decode cX10_keep 1 = .ok (.lconst 0, 1) := by decide +kernel
theorem dX10_keep_2 : decode cX10_keep 2 = .ok (.lcmp, 1) := by decide +kernel
theorem dX10_keep_3 : decode cX10_keep 3 = .ok (.ifCond .ge 8, 3) := by decide +kernel
theorem dX10_keep_6 : decode cX10_keep 6 = .ok (.lload_n 1, 1) := by decide +kernel
theorem dX10_keep_7 : decode cX10_keep 7 = .ok (.lneg, 1) := by decide +kernel
theorem dX10_keep_8 : decode cX10_keep 8 = .ok (.goto 4, 3) := by decide +kernel
theorem dX10_keep_11 : decode cX10_keep 11 = .ok (.lload_n 1, 1) := by decide +kernel
theorem dX10_keep_12 : decode cX10_keep 12 = .ok (.lstore 9, 2) := by decide +kernel
theorem dX10_keep_14 : decode cX10_keep 14 = .ok (.lload_n 3, 1) := by decide +kernel
theorem dX10_keep_15 : decode cX10_keep 15 = .ok (.lconst 0, 1) := by decide +kernel
theorem dX10_keep_16 : decode cX10_keep 16 = .ok (.lcmp, 1) := by decide +kernel
theorem dX10_keep_17 : decode cX10_keep 17 = .ok (.ifCond .ge 8, 3) := by decide +kernel
theorem dX10_keep_20 : decode cX10_keep 20 = .ok (.lload_n 3, 1) := by decide +kernel
theorem dX10_keep_21 : decode cX10_keep 21 = .ok (.lneg, 1) := by decide +kernel
theorem dX10_keep_22 : decode cX10_keep 22 = .ok (.goto 4, 3) := by decide +kernel
theorem dX10_keep_25 : decode cX10_keep 25 = .ok (.lload_n 3, 1) := by decide +kernel
theorem dX10_keep_26 : decode cX10_keep 26 = .ok (.lstore 11, 2) := by decide +kernel
theorem dX10_keep_28 : decode cX10_keep 28 = .ok (.lload 7, 2) := by decide +kernel
theorem dX10_keep_30 : decode cX10_keep 30 = .ok (.lconst 0, 1) := by decide +kernel
theorem dX10_keep_31 : decode cX10_keep 31 = .ok (.lcmp, 1) := by decide +kernel
theorem dX10_keep_32 : decode cX10_keep 32 = .ok (.ifCond .ge 9, 3) := by decide +kernel
theorem dX10_keep_35 : decode cX10_keep 35 = .ok (.lload 5, 2) := by decide +kernel
theorem dX10_keep_37 : decode cX10_keep 37 = .ok (.lneg, 1) := by decide +kernel
theorem dX10_keep_38 : decode cX10_keep 38 = .ok (.goto 5, 3) := by decide +kernel
theorem dX10_keep_41 : decode cX10_keep 41 = .ok (.lload 5, 2) := by decide +kernel
theorem dX10_keep_43 : decode cX10_keep 43 = .ok (.lstore 13, 2) := by decide +kernel
theorem dX10_keep_45 : decode cX10_keep 45 = .ok (.lload 7, 2) := by decide +kernel
theorem dX10_keep_47 : decode cX10_keep 47 = .ok (.lconst 0, 1) := by decide +kernel
theorem dX10_keep_48 : decode cX10_keep 48 = .ok (.lcmp, 1) := by decide +kernel
theorem dX10_keep_49 : decode cX10_keep 49 = .ok (.ifCond .ge 9, 3) := by decide +kernel
theorem dX10_keep_52 : decode cX10_keep 52 = .ok (.lload 7, 2) := by decide +kernel
theorem dX10_keep_54 : decode cX10_keep 54 = .ok (.lneg, 1) := by decide +kernel
theorem dX10_keep_55 : decode cX10_keep 55 = .ok (.goto 5, 3) := by decide +kernel
theorem dX10_keep_58 : decode cX10_keep 58 = .ok (.lload 7, 2) := by decide +kernel
theorem dX10_keep_60 : decode cX10_keep 60 = .ok (.lstore 15, 2) := by decide +kernel
theorem dX10_keep_62 : decode cX10_keep 62 = .ok (.aload_n 0, 1) := by decide +kernel
theorem dX10_keep_63 : decode cX10_keep 63 = .ok (.getfield 229, 3) := by decide +kernel
theorem dX10_keep_66 : decode cX10_keep 66 = .ok (.ifCond .ne 21, 3) := by decide +kernel
theorem dX10_keep_69 : decode cX10_keep 69 = .ok (.lload 9, 2) := by decide +kernel
theorem dX10_keep_71 : decode cX10_keep 71 = .ok (.aload_n 0, 1) := by decide +kernel
theorem dX10_keep_72 : decode cX10_keep 72 = .ok (.getfield 233, 3) := by decide +kernel
theorem dX10_keep_75 : decode cX10_keep 75 = .ok (.lmul, 1) := by decide +kernel
theorem dX10_keep_76 : decode cX10_keep 76 = .ok (.aload_n 0, 1) := by decide +kernel
theorem dX10_keep_77 : decode cX10_keep 77 = .ok (.getfield 237, 3) := by decide +kernel
theorem dX10_keep_80 : decode cX10_keep 80 = .ok (.lload 11, 2) := by decide +kernel
theorem dX10_keep_82 : decode cX10_keep 82 = .ok (.lmul, 1) := by decide +kernel
theorem dX10_keep_83 : decode cX10_keep 83 = .ok (.lcmp, 1) := by decide +kernel
theorem dX10_keep_84 : decode cX10_keep 84 = .ok (.ifCond .ge 15, 3) := by decide +kernel
theorem dX10_keep_87 : decode cX10_keep 87 = .ok (.aload_n 0, 1) := by decide +kernel
theorem dX10_keep_88 : decode cX10_keep 88 = .ok (.lload 9, 2) := by decide +kernel
theorem dX10_keep_90 : decode cX10_keep 90 = .ok (.putfield 237, 3) := by decide +kernel
theorem dX10_keep_93 : decode cX10_keep 93 = .ok (.aload_n 0, 1) := by decide +kernel
theorem dX10_keep_94 : decode cX10_keep 94 = .ok (.lload 11, 2) := by decide +kernel
theorem dX10_keep_96 : decode cX10_keep 96 = .ok (.putfield 233, 3) := by decide +kernel
theorem dX10_keep_99 : decode cX10_keep 99 = .ok (.lload 13, 2) := by decide +kernel
theorem dX10_keep_101 : decode cX10_keep 101 = .ok (.lconst 0, 1) := by decide +kernel
theorem dX10_keep_102 : decode cX10_keep 102 = .ok (.lcmp, 1) := by decide +kernel
theorem dX10_keep_103 : decode cX10_keep 103 = .ok (.ifCond .ge 9, 3) := by decide +kernel
theorem dX10_keep_106 : decode cX10_keep 106 = .ok (.lload 13, 2) := by decide +kernel
theorem dX10_keep_108 : decode cX10_keep 108 = .ok (.lneg, 1) := by decide +kernel
theorem dX10_keep_109 : decode cX10_keep 109 = .ok (.goto 5, 3) := by decide +kernel
theorem dX10_keep_112 : decode cX10_keep 112 = .ok (.lload 13, 2) := by decide +kernel
theorem dX10_keep_114 : decode cX10_keep 114 = .ok (.lstore 17, 2) := by decide +kernel
theorem dX10_keep_116 : decode cX10_keep 116 = .ok (.aload_n 0, 1) := by decide +kernel
theorem dX10_keep_117 : decode cX10_keep 117 = .ok (.getfield 240, 3) := by decide +kernel
theorem dX10_keep_120 : decode cX10_keep 120 = .ok (.lconst 0, 1) := by decide +kernel
theorem dX10_keep_121 : decode cX10_keep 121 = .ok (.lcmp, 1) := by decide +kernel
theorem dX10_keep_122 : decode cX10_keep 122 = .ok (.ifCond .ge 11, 3) := by decide +kernel
theorem dX10_keep_125 : decode cX10_keep 125 = .ok (.aload_n 0, 1) := by decide +kernel
theorem dX10_keep_126 : decode cX10_keep 126 = .ok (.getfield 240, 3) := by decide +kernel
theorem dX10_keep_129 : decode cX10_keep 129 = .ok (.lneg, 1) := by decide +kernel
theorem dX10_keep_130 : decode cX10_keep 130 = .ok (.goto 7, 3) := by decide +kernel
theorem dX10_keep_133 : decode cX10_keep 133 = .ok (.aload_n 0, 1) := by decide +kernel
theorem dX10_keep_134 : decode cX10_keep 134 = .ok (.getfield 240, 3) := by decide +kernel
theorem dX10_keep_137 : decode cX10_keep 137 = .ok (.lstore 19, 2) := by decide +kernel
theorem dX10_keep_139 : decode cX10_keep 139 = .ok (.lload 17, 2) := by decide +kernel
theorem dX10_keep_141 : decode cX10_keep 141 = .ok (.lload 15, 2) := by decide +kernel
theorem dX10_keep_143 : decode cX10_keep 143 = .ok (.invokestatic 243, 3) := by decide +kernel
theorem dX10_keep_146 : decode cX10_keep 146 = .ok (.lstore 21, 2) := by decide +kernel
theorem dX10_keep_148 : decode cX10_keep 148 = .ok (.aload_n 0, 1) := by decide +kernel
theorem dX10_keep_149 : decode cX10_keep 149 = .ok (.getfield 229, 3) := by decide +kernel
theorem dX10_keep_152 : decode cX10_keep 152 = .ok (.ifCond .ne 25, 3) := by decide +kernel
theorem dX10_keep_155 : decode cX10_keep 155 = .ok (.lload 17, 2) := by decide +kernel
theorem dX10_keep_157 : decode cX10_keep 157 = .ok (.lload 21, 2) := by decide +kernel
theorem dX10_keep_159 : decode cX10_keep 159 = .ok (.ldiv, 1) := by decide +kernel
theorem dX10_keep_160 : decode cX10_keep 160 = .ok (.aload_n 0, 1) := by decide +kernel
theorem dX10_keep_161 : decode cX10_keep 161 = .ok (.getfield 247, 3) := by decide +kernel
theorem dX10_keep_164 : decode cX10_keep 164 = .ok (.lmul, 1) := by decide +kernel
theorem dX10_keep_165 : decode cX10_keep 165 = .ok (.lload 19, 2) := by decide +kernel
theorem dX10_keep_167 : decode cX10_keep 167 = .ok (.lload 15, 2) := by decide +kernel
theorem dX10_keep_169 : decode cX10_keep 169 = .ok (.lload 21, 2) := by decide +kernel
theorem dX10_keep_171 : decode cX10_keep 171 = .ok (.ldiv, 1) := by decide +kernel
theorem dX10_keep_172 : decode cX10_keep 172 = .ok (.lmul, 1) := by decide +kernel
theorem dX10_keep_173 : decode cX10_keep 173 = .ok (.lcmp, 1) := by decide +kernel
theorem dX10_keep_174 : decode cX10_keep 174 = .ok (.ifCond .ge 21, 3) := by decide +kernel
theorem dX10_keep_177 : decode cX10_keep 177 = .ok (.aload_n 0, 1) := by decide +kernel
theorem dX10_keep_178 : decode cX10_keep 178 = .ok (.lload 13, 2) := by decide +kernel
theorem dX10_keep_180 : decode cX10_keep 180 = .ok (.lload 21, 2) := by decide +kernel
theorem dX10_keep_182 : decode cX10_keep 182 = .ok (.ldiv, 1) := by decide +kernel
theorem dX10_keep_183 : decode cX10_keep 183 = .ok (.putfield 240, 3) := by decide +kernel
theorem dX10_keep_186 : decode cX10_keep 186 = .ok (.aload_n 0, 1) := by decide +kernel
theorem dX10_keep_187 : decode cX10_keep 187 = .ok (.lload 15, 2) := by decide +kernel
theorem dX10_keep_189 : decode cX10_keep 189 = .ok (.lload 21, 2) := by decide +kernel
theorem dX10_keep_191 : decode cX10_keep 191 = .ok (.ldiv, 1) := by decide +kernel
theorem dX10_keep_192 : decode cX10_keep 192 = .ok (.putfield 247, 3) := by decide +kernel
theorem dX10_keep_195 : decode cX10_keep 195 = .ok (.aload_n 0, 1) := by decide +kernel
theorem dX10_keep_196 : decode cX10_keep 196 = .ok (.iconst 0, 1) := by decide +kernel
theorem dX10_keep_197 : decode cX10_keep 197 = .ok (.putfield 229, 3) := by decide +kernel
theorem dX10_keep_200 : decode cX10_keep 200 = .ok (.return_, 1) := by decide +kernel
theorem dX10_gcd_0 : decode cX10_gcd 0 = .ok (.lload_n 0, 1) := by decide +kernel
theorem dX10_gcd_1 : decode cX10_gcd 1 = .ok (.lstore 4, 2) := by decide +kernel
theorem dX10_gcd_3 : decode cX10_gcd 3 = .ok (.lload_n 2, 1) := by decide +kernel
theorem dX10_gcd_4 : decode cX10_gcd 4 = .ok (.lstore 6, 2) := by decide +kernel
theorem dX10_gcd_6 : decode cX10_gcd 6 = .ok (.lload 6, 2) := by decide +kernel
theorem dX10_gcd_8 : decode cX10_gcd 8 = .ok (.lconst 0, 1) := by decide +kernel
theorem dX10_gcd_9 : decode cX10_gcd 9 = .ok (.lcmp, 1) := by decide +kernel
theorem dX10_gcd_10 : decode cX10_gcd 10 = .ok (.ifCond .eq 21, 3) := by decide +kernel
theorem dX10_gcd_13 : decode cX10_gcd 13 = .ok (.lload 4, 2) := by decide +kernel
theorem dX10_gcd_15 : decode cX10_gcd 15 = .ok (.lload 6, 2) := by decide +kernel
theorem dX10_gcd_17 : decode cX10_gcd 17 = .ok (.lrem, 1) := by decide +kernel
theorem dX10_gcd_18 : decode cX10_gcd 18 = .ok (.lstore 8, 2) := by decide +kernel
theorem dX10_gcd_20 : decode cX10_gcd 20 = .ok (.lload 6, 2) := by decide +kernel
theorem dX10_gcd_22 : decode cX10_gcd 22 = .ok (.lstore 4, 2) := by decide +kernel
theorem dX10_gcd_24 : decode cX10_gcd 24 = .ok (.lload 8, 2) := by decide +kernel
theorem dX10_gcd_26 : decode cX10_gcd 26 = .ok (.lstore 6, 2) := by decide +kernel
theorem dX10_gcd_28 : decode cX10_gcd 28 = .ok (.goto (-22), 3) := by decide +kernel
theorem dX10_gcd_31 : decode cX10_gcd 31 = .ok (.lload 4, 2) := by decide +kernel
theorem dX10_gcd_33 : decode cX10_gcd 33 = .ok (.lreturn, 1) := by decide +kernel
theorem dX10_crosses_0 : decode cX10_crosses 0 = .ok (.aload_n 0, 1) := by decide +kernel
theorem dX10_crosses_1 : decode cX10_crosses 1 = .ok (.iload_n 1, 1) := by decide +kernel
theorem dX10_crosses_2 : decode cX10_crosses 2 = .ok (.iload_n 2, 1) := by decide +kernel
theorem dX10_crosses_3 : decode cX10_crosses 3 = .ok (.iload_n 3, 1) := by decide +kernel
theorem dX10_crosses_4 : decode cX10_crosses 4 = .ok (.iload 4, 2) := by decide +kernel
theorem dX10_crosses_6 : decode cX10_crosses 6 = .ok (.invokevirtual 188, 3) := by decide +kernel
theorem dX10_crosses_9 : decode cX10_crosses 9 = .ok (.aload_n 0, 1) := by decide +kernel
theorem dX10_crosses_10 : decode cX10_crosses 10 = .ok (.iconst 1, 1) := by decide +kernel
theorem dX10_crosses_11 : decode cX10_crosses 11 = .ok (.putfield 229, 3) := by decide +kernel
theorem dX10_crosses_14 : decode cX10_crosses 14 = .ok (.aload_n 0, 1) := by decide +kernel
theorem dX10_crosses_15 : decode cX10_crosses 15 = .ok (.getfield 46, 3) := by decide +kernel
theorem dX10_crosses_18 : decode cX10_crosses 18 = .ok (.aload_n 0, 1) := by decide +kernel
theorem dX10_crosses_19 : decode cX10_crosses 19 = .ok (.getfield 49, 3) := by decide +kernel
theorem dX10_crosses_22 : decode cX10_crosses 22 = .ok (.aload_n 0, 1) := by decide +kernel
theorem dX10_crosses_23 : decode cX10_crosses 23 = .ok (.getfield 55, 3) := by decide +kernel
theorem dX10_crosses_26 : decode cX10_crosses 26 = .ok (.invokestatic 173, 3) := by decide +kernel
theorem dX10_crosses_29 : decode cX10_crosses 29 = .ok (.lstore 5, 2) := by decide +kernel
theorem dX10_crosses_31 : decode cX10_crosses 31 = .ok (.lload 5, 2) := by decide +kernel
theorem dX10_crosses_33 : decode cX10_crosses 33 = .ok (.lconst 0, 1) := by decide +kernel
theorem dX10_crosses_34 : decode cX10_crosses 34 = .ok (.lcmp, 1) := by decide +kernel
theorem dX10_crosses_35 : decode cX10_crosses 35 = .ok (.ifCond .eq 87, 3) := by decide +kernel
theorem dX10_crosses_38 : decode cX10_crosses 38 = .ok (.aload_n 0, 1) := by decide +kernel
theorem dX10_crosses_39 : decode cX10_crosses 39 = .ok (.getfield 52, 3) := by decide +kernel
theorem dX10_crosses_42 : decode cX10_crosses 42 = .ok (.aload_n 0, 1) := by decide +kernel
theorem dX10_crosses_43 : decode cX10_crosses 43 = .ok (.getfield 49, 3) := by decide +kernel
theorem dX10_crosses_46 : decode cX10_crosses 46 = .ok (.aload_n 0, 1) := by decide +kernel
theorem dX10_crosses_47 : decode cX10_crosses 47 = .ok (.getfield 55, 3) := by decide +kernel
theorem dX10_crosses_50 : decode cX10_crosses 50 = .ok (.invokestatic 173, 3) := by decide +kernel
theorem dX10_crosses_53 : decode cX10_crosses 53 = .ok (.lstore 7, 2) := by decide +kernel
theorem dX10_crosses_55 : decode cX10_crosses 55 = .ok (.aload_n 0, 1) := by decide +kernel
theorem dX10_crosses_56 : decode cX10_crosses 56 = .ok (.getfield 46, 3) := by decide +kernel
theorem dX10_crosses_59 : decode cX10_crosses 59 = .ok (.aload_n 0, 1) := by decide +kernel
theorem dX10_crosses_60 : decode cX10_crosses 60 = .ok (.getfield 52, 3) := by decide +kernel
theorem dX10_crosses_63 : decode cX10_crosses 63 = .ok (.aload_n 0, 1) := by decide +kernel
theorem dX10_crosses_64 : decode cX10_crosses 64 = .ok (.getfield 55, 3) := by decide +kernel
theorem dX10_crosses_67 : decode cX10_crosses 67 = .ok (.invokestatic 173, 3) := by decide +kernel
theorem dX10_crosses_70 : decode cX10_crosses 70 = .ok (.lneg, 1) := by decide +kernel
theorem dX10_crosses_71 : decode cX10_crosses 71 = .ok (.lstore 9, 2) := by decide +kernel
theorem dX10_crosses_73 : decode cX10_crosses 73 = .ok (.lload 7, 2) := by decide +kernel
theorem dX10_crosses_75 : decode cX10_crosses 75 = .ok (.lload 5, 2) := by decide +kernel
theorem dX10_crosses_77 : decode cX10_crosses 77 = .ok (.invokestatic 177, 3) := by decide +kernel
theorem dX10_crosses_80 : decode cX10_crosses 80 = .ok (.ifCond .eq 13, 3) := by decide +kernel
theorem dX10_crosses_83 : decode cX10_crosses 83 = .ok (.lload 9, 2) := by decide +kernel
theorem dX10_crosses_85 : decode cX10_crosses 85 = .ok (.lload 5, 2) := by decide +kernel
theorem dX10_crosses_87 : decode cX10_crosses 87 = .ok (.invokestatic 177, 3) := by decide +kernel
theorem dX10_crosses_90 : decode cX10_crosses 90 = .ok (.ifCond .ne 5, 3) := by decide +kernel
theorem dX10_crosses_93 : decode cX10_crosses 93 = .ok (.iconst 0, 1) := by decide +kernel
theorem dX10_crosses_94 : decode cX10_crosses 94 = .ok (.ireturn, 1) := by decide +kernel
theorem dX10_crosses_95 : decode cX10_crosses 95 = .ok (.aload_n 0, 1) := by decide +kernel
theorem dX10_crosses_96 : decode cX10_crosses 96 = .ok (.lload 7, 2) := by decide +kernel
theorem dX10_crosses_98 : decode cX10_crosses 98 = .ok (.lload 5, 2) := by decide +kernel
theorem dX10_crosses_100 : decode cX10_crosses 100 = .ok (.aload_n 0, 1) := by decide +kernel
theorem dX10_crosses_101 : decode cX10_crosses 101 = .ok (.getfield 46, 3) := by decide +kernel
theorem dX10_crosses_104 : decode cX10_crosses 104 = .ok (.aload_n 0, 1) := by decide +kernel
theorem dX10_crosses_105 : decode cX10_crosses 105 = .ok (.getfield 49, 3) := by decide +kernel
theorem dX10_crosses_108 : decode cX10_crosses 108 = .ok (.aload_n 0, 1) := by decide +kernel
theorem dX10_crosses_109 : decode cX10_crosses 109 = .ok (.getfield 52, 3) := by decide +kernel
theorem dX10_crosses_112 : decode cX10_crosses 112 = .ok (.invokestatic 173, 3) := by decide +kernel
theorem dX10_crosses_115 : decode cX10_crosses 115 = .ok (.lload 5, 2) := by decide +kernel
theorem dX10_crosses_117 : decode cX10_crosses 117 = .ok (.invokevirtual 225, 3) := by decide +kernel
theorem dX10_crosses_120 : decode cX10_crosses 120 = .ok (.iconst 1, 1) := by decide +kernel
theorem dX10_crosses_121 : decode cX10_crosses 121 = .ok (.ireturn, 1) := by decide +kernel
theorem dX10_crosses_122 : decode cX10_crosses 122 = .ok (.iconst 0, 1) := by decide +kernel
theorem dX10_crosses_123 : decode cX10_crosses 123 = .ok (.istore 7, 2) := by decide +kernel
theorem dX10_crosses_125 : decode cX10_crosses 125 = .ok (.iload 7, 2) := by decide +kernel
theorem dX10_crosses_127 : decode cX10_crosses 127 = .ok (.iconst 3, 1) := by decide +kernel
theorem dX10_crosses_128 : decode cX10_crosses 128 = .ok (.if_icmp .ge 69, 3) := by decide +kernel
theorem dX10_crosses_131 : decode cX10_crosses 131 = .ok (.aload_n 0, 1) := by decide +kernel
theorem dX10_crosses_132 : decode cX10_crosses 132 = .ok (.getfield 70, 3) := by decide +kernel
theorem dX10_crosses_135 : decode cX10_crosses 135 = .ok (.iload 7, 2) := by decide +kernel
theorem dX10_crosses_137 : decode cX10_crosses 137 = .ok (.aload_n 0, 1) := by decide +kernel
theorem dX10_crosses_138 : decode cX10_crosses 138 = .ok (.getfield 46, 3) := by decide +kernel
theorem dX10_crosses_141 : decode cX10_crosses 141 = .ok (.aload_n 0, 1) := by decide +kernel
theorem dX10_crosses_142 : decode cX10_crosses 142 = .ok (.getfield 55, 3) := by decide +kernel
theorem dX10_crosses_145 : decode cX10_crosses 145 = .ok (.iload 7, 2) := by decide +kernel
theorem dX10_crosses_147 : decode cX10_crosses 147 = .ok (.invokestatic 161, 3) := by decide +kernel
theorem dX10_crosses_150 : decode cX10_crosses 150 = .ok (.lastore, 1) := by decide +kernel
theorem dX10_crosses_151 : decode cX10_crosses 151 = .ok (.aload_n 0, 1) := by decide +kernel
theorem dX10_crosses_152 : decode cX10_crosses 152 = .ok (.getfield 73, 3) := by decide +kernel
theorem dX10_crosses_155 : decode cX10_crosses 155 = .ok (.iload 7, 2) := by decide +kernel
theorem dX10_crosses_157 : decode cX10_crosses 157 = .ok (.aload_n 0, 1) := by decide +kernel
theorem dX10_crosses_158 : decode cX10_crosses 158 = .ok (.getfield 49, 3) := by decide +kernel
theorem dX10_crosses_161 : decode cX10_crosses 161 = .ok (.aload_n 0, 1) := by decide +kernel
theorem dX10_crosses_162 : decode cX10_crosses 162 = .ok (.getfield 55, 3) := by decide +kernel
theorem dX10_crosses_165 : decode cX10_crosses 165 = .ok (.iload 7, 2) := by decide +kernel
theorem dX10_crosses_167 : decode cX10_crosses 167 = .ok (.invokestatic 161, 3) := by decide +kernel
theorem dX10_crosses_170 : decode cX10_crosses 170 = .ok (.lastore, 1) := by decide +kernel
theorem dX10_crosses_171 : decode cX10_crosses 171 = .ok (.aload_n 0, 1) := by decide +kernel
theorem dX10_crosses_172 : decode cX10_crosses 172 = .ok (.getfield 76, 3) := by decide +kernel
theorem dX10_crosses_175 : decode cX10_crosses 175 = .ok (.iload 7, 2) := by decide +kernel
theorem dX10_crosses_177 : decode cX10_crosses 177 = .ok (.aload_n 0, 1) := by decide +kernel
theorem dX10_crosses_178 : decode cX10_crosses 178 = .ok (.getfield 52, 3) := by decide +kernel
theorem dX10_crosses_181 : decode cX10_crosses 181 = .ok (.aload_n 0, 1) := by decide +kernel
theorem dX10_crosses_182 : decode cX10_crosses 182 = .ok (.getfield 55, 3) := by decide +kernel
theorem dX10_crosses_185 : decode cX10_crosses 185 = .ok (.iload 7, 2) := by decide +kernel
theorem dX10_crosses_187 : decode cX10_crosses 187 = .ok (.invokestatic 161, 3) := by decide +kernel
theorem dX10_crosses_190 : decode cX10_crosses 190 = .ok (.lastore, 1) := by decide +kernel
theorem dX10_crosses_191 : decode cX10_crosses 191 = .ok (.iinc 7 1, 3) := by decide +kernel
theorem dX10_crosses_194 : decode cX10_crosses 194 = .ok (.goto (-69), 3) := by decide +kernel
theorem dX10_crosses_197 : decode cX10_crosses 197 = .ok (.aload_n 0, 1) := by decide +kernel
theorem dX10_crosses_198 : decode cX10_crosses 198 = .ok (.getfield 70, 3) := by decide +kernel
theorem dX10_crosses_201 : decode cX10_crosses 201 = .ok (.invokestatic 250, 3) := by decide +kernel
theorem dX10_crosses_204 : decode cX10_crosses 204 = .ok (.istore 7, 2) := by decide +kernel
theorem dX10_crosses_206 : decode cX10_crosses 206 = .ok (.aload_n 0, 1) := by decide +kernel
theorem dX10_crosses_207 : decode cX10_crosses 207 = .ok (.getfield 73, 3) := by decide +kernel
theorem dX10_crosses_210 : decode cX10_crosses 210 = .ok (.invokestatic 250, 3) := by decide +kernel
theorem dX10_crosses_213 : decode cX10_crosses 213 = .ok (.istore 8, 2) := by decide +kernel
theorem dX10_crosses_215 : decode cX10_crosses 215 = .ok (.iload 7, 2) := by decide +kernel
theorem dX10_crosses_217 : decode cX10_crosses 217 = .ok (.iconst (-1), 1) := by decide +kernel
theorem dX10_crosses_218 : decode cX10_crosses 218 = .ok (.if_icmp .ne 66, 3) := by decide +kernel
theorem dX10_crosses_221 : decode cX10_crosses 221 = .ok (.iload 8, 2) := by decide +kernel
theorem dX10_crosses_223 : decode cX10_crosses 223 = .ok (.iconst (-1), 1) := by decide +kernel
theorem dX10_crosses_224 : decode cX10_crosses 224 = .ok (.if_icmp .ne 60, 3) := by decide +kernel
theorem dX10_crosses_227 : decode cX10_crosses 227 = .ok (.aload_n 0, 1) := by decide +kernel
theorem dX10_crosses_228 : decode cX10_crosses 228 = .ok (.getfield 76, 3) := by decide +kernel
theorem dX10_crosses_231 : decode cX10_crosses 231 = .ok (.invokestatic 250, 3) := by decide +kernel
theorem dX10_crosses_234 : decode cX10_crosses 234 = .ok (.iconst (-1), 1) := by decide +kernel
theorem dX10_crosses_235 : decode cX10_crosses 235 = .ok (.if_icmp .eq 5, 3) := by decide +kernel
theorem dX10_crosses_238 : decode cX10_crosses 238 = .ok (.iconst 0, 1) := by decide +kernel
theorem dX10_crosses_239 : decode cX10_crosses 239 = .ok (.ireturn, 1) := by decide +kernel
theorem dX10_crosses_240 : decode cX10_crosses 240 = .ok (.iconst 0, 1) := by decide +kernel
theorem dX10_crosses_241 : decode cX10_crosses 241 = .ok (.istore 9, 2) := by decide +kernel
theorem dX10_crosses_243 : decode cX10_crosses 243 = .ok (.iload 9, 2) := by decide +kernel
theorem dX10_crosses_245 : decode cX10_crosses 245 = .ok (.iconst 2, 1) := by decide +kernel
theorem dX10_crosses_246 : decode cX10_crosses 246 = .ok (.if_icmp .ge 36, 3) := by decide +kernel
theorem dX10_crosses_249 : decode cX10_crosses 249 = .ok (.iconst 0, 1) := by decide +kernel
theorem dX10_crosses_250 : decode cX10_crosses 250 = .ok (.istore 10, 2) := by decide +kernel
theorem dX10_crosses_252 : decode cX10_crosses 252 = .ok (.iload 10, 2) := by decide +kernel
theorem dX10_crosses_254 : decode cX10_crosses 254 = .ok (.iconst 2, 1) := by decide +kernel
theorem dX10_crosses_255 : decode cX10_crosses 255 = .ok (.if_icmp .ge 21, 3) := by decide +kernel
theorem dX10_crosses_258 : decode cX10_crosses 258 = .ok (.aload_n 0, 1) := by decide +kernel
theorem dX10_crosses_259 : decode cX10_crosses 259 = .ok (.iload 9, 2) := by decide +kernel
theorem dX10_crosses_261 : decode cX10_crosses 261 = .ok (.i2l, 1) := by decide +kernel
theorem dX10_crosses_262 : decode cX10_crosses 262 = .ok (.lconst 1, 1) := by decide +kernel
theorem dX10_crosses_263 : decode cX10_crosses 263 = .ok (.iload 10, 2) := by decide +kernel
theorem dX10_crosses_265 : decode cX10_crosses 265 = .ok (.i2l, 1) := by decide +kernel
theorem dX10_crosses_266 : decode cX10_crosses 266 = .ok (.lconst 1, 1) := by decide +kernel
theorem dX10_crosses_267 : decode cX10_crosses 267 = .ok (.invokevirtual 254, 3) := by decide +kernel
theorem dX10_crosses_270 : decode cX10_crosses 270 = .ok (.iinc 10 1, 3) := by decide +kernel
theorem dX10_crosses_273 : decode cX10_crosses 273 = .ok (.goto (-21), 3) := by decide +kernel
theorem dX10_crosses_276 : decode cX10_crosses 276 = .ok (.iinc 9 1, 3) := by decide +kernel
theorem dX10_crosses_279 : decode cX10_crosses 279 = .ok (.goto (-36), 3) := by decide +kernel
theorem dX10_crosses_282 : decode cX10_crosses 282 = .ok (.iconst 1, 1) := by decide +kernel
theorem dX10_crosses_283 : decode cX10_crosses 283 = .ok (.ireturn, 1) := by decide +kernel
theorem dX10_crosses_284 : decode cX10_crosses 284 = .ok (.iload 7, 2) := by decide +kernel
theorem dX10_crosses_286 : decode cX10_crosses 286 = .ok (.iconst (-1), 1) := by decide +kernel
theorem dX10_crosses_287 : decode cX10_crosses 287 = .ok (.if_icmp .ne 80, 3) := by decide +kernel
theorem dX10_crosses_290 : decode cX10_crosses 290 = .ok (.aload_n 0, 1) := by decide +kernel
theorem dX10_crosses_291 : decode cX10_crosses 291 = .ok (.getfield 76, 3) := by decide +kernel
theorem dX10_crosses_294 : decode cX10_crosses 294 = .ok (.aload_n 0, 1) := by decide +kernel
theorem dX10_crosses_295 : decode cX10_crosses 295 = .ok (.getfield 73, 3) := by decide +kernel
theorem dX10_crosses_298 : decode cX10_crosses 298 = .ok (.invokestatic 165, 3) := by decide +kernel
theorem dX10_crosses_301 : decode cX10_crosses 301 = .ok (.ifCond .eq 24, 3) := by decide +kernel
theorem dX10_crosses_304 : decode cX10_crosses 304 = .ok (.aload_n 0, 1) := by decide +kernel
theorem dX10_crosses_305 : decode cX10_crosses 305 = .ok (.getfield 76, 3) := by decide +kernel
theorem dX10_crosses_308 : decode cX10_crosses 308 = .ok (.iload 8, 2) := by decide +kernel
theorem dX10_crosses_310 : decode cX10_crosses 310 = .ok (.laload, 1) := by decide +kernel
theorem dX10_crosses_311 : decode cX10_crosses 311 = .ok (.lneg, 1) := by decide +kernel
theorem dX10_crosses_312 : decode cX10_crosses 312 = .ok (.aload_n 0, 1) := by decide +kernel
theorem dX10_crosses_313 : decode cX10_crosses 313 = .ok (.getfield 73, 3) := by decide +kernel
theorem dX10_crosses_316 : decode cX10_crosses 316 = .ok (.iload 8, 2) := by decide +kernel
theorem dX10_crosses_318 : decode cX10_crosses 318 = .ok (.laload, 1) := by decide +kernel
theorem dX10_crosses_319 : decode cX10_crosses 319 = .ok (.invokestatic 177, 3) := by decide +kernel
theorem dX10_crosses_322 : decode cX10_crosses 322 = .ok (.ifCond .ne 5, 3) := by decide +kernel
theorem dX10_crosses_325 : decode cX10_crosses 325 = .ok (.iconst 0, 1) := by decide +kernel
theorem dX10_crosses_326 : decode cX10_crosses 326 = .ok (.ireturn, 1) := by decide +kernel
theorem dX10_crosses_327 : decode cX10_crosses 327 = .ok (.iconst 0, 1) := by decide +kernel
theorem dX10_crosses_328 : decode cX10_crosses 328 = .ok (.istore 9, 2) := by decide +kernel
theorem dX10_crosses_330 : decode cX10_crosses 330 = .ok (.iload 9, 2) := by decide +kernel
theorem dX10_crosses_332 : decode cX10_crosses 332 = .ok (.iconst 2, 1) := by decide +kernel
theorem dX10_crosses_333 : decode cX10_crosses 333 = .ok (.if_icmp .ge 32, 3) := by decide +kernel
theorem dX10_crosses_336 : decode cX10_crosses 336 = .ok (.aload_n 0, 1) := by decide +kernel
theorem dX10_crosses_337 : decode cX10_crosses 337 = .ok (.iload 9, 2) := by decide +kernel
theorem dX10_crosses_339 : decode cX10_crosses 339 = .ok (.i2l, 1) := by decide +kernel
theorem dX10_crosses_340 : decode cX10_crosses 340 = .ok (.lconst 1, 1) := by decide +kernel
theorem dX10_crosses_341 : decode cX10_crosses 341 = .ok (.aload_n 0, 1) := by decide +kernel
theorem dX10_crosses_342 : decode cX10_crosses 342 = .ok (.getfield 76, 3) := by decide +kernel
theorem dX10_crosses_345 : decode cX10_crosses 345 = .ok (.iload 8, 2) := by decide +kernel
theorem dX10_crosses_347 : decode cX10_crosses 347 = .ok (.laload, 1) := by decide +kernel
theorem dX10_crosses_348 : decode cX10_crosses 348 = .ok (.lneg, 1) := by decide +kernel
theorem dX10_crosses_349 : decode cX10_crosses 349 = .ok (.aload_n 0, 1) := by decide +kernel
theorem dX10_crosses_350 : decode cX10_crosses 350 = .ok (.getfield 73, 3) := by decide +kernel
theorem dX10_crosses_353 : decode cX10_crosses 353 = .ok (.iload 8, 2) := by decide +kernel
theorem dX10_crosses_355 : decode cX10_crosses 355 = .ok (.laload, 1) := by decide +kernel
theorem dX10_crosses_356 : decode cX10_crosses 356 = .ok (.invokevirtual 254, 3) := by decide +kernel
theorem dX10_crosses_359 : decode cX10_crosses 359 = .ok (.iinc 9 1, 3) := by decide +kernel
theorem dX10_crosses_362 : decode cX10_crosses 362 = .ok (.goto (-32), 3) := by decide +kernel
theorem dX10_crosses_365 : decode cX10_crosses 365 = .ok (.iconst 1, 1) := by decide +kernel
theorem dX10_crosses_366 : decode cX10_crosses 366 = .ok (.ireturn, 1) := by decide +kernel
theorem dX10_crosses_367 : decode cX10_crosses 367 = .ok (.aload_n 0, 1) := by decide +kernel
theorem dX10_crosses_368 : decode cX10_crosses 368 = .ok (.getfield 76, 3) := by decide +kernel
theorem dX10_crosses_371 : decode cX10_crosses 371 = .ok (.aload_n 0, 1) := by decide +kernel
theorem dX10_crosses_372 : decode cX10_crosses 372 = .ok (.getfield 70, 3) := by decide +kernel
theorem dX10_crosses_375 : decode cX10_crosses 375 = .ok (.invokestatic 165, 3) := by decide +kernel
theorem dX10_crosses_378 : decode cX10_crosses 378 = .ok (.ifCond .ne 5, 3) := by decide +kernel
theorem dX10_crosses_381 : decode cX10_crosses 381 = .ok (.iconst 0, 1) := by decide +kernel
theorem dX10_crosses_382 : decode cX10_crosses 382 = .ok (.ireturn, 1) := by decide +kernel
theorem dX10_crosses_383 : decode cX10_crosses 383 = .ok (.iload 8, 2) := by decide +kernel
theorem dX10_crosses_385 : decode cX10_crosses 385 = .ok (.iconst (-1), 1) := by decide +kernel
theorem dX10_crosses_386 : decode cX10_crosses 386 = .ok (.if_icmp .ne 64, 3) := by decide +kernel
theorem dX10_crosses_389 : decode cX10_crosses 389 = .ok (.aload_n 0, 1) := by decide +kernel
theorem dX10_crosses_390 : decode cX10_crosses 390 = .ok (.getfield 76, 3) := by decide +kernel
theorem dX10_crosses_393 : decode cX10_crosses 393 = .ok (.iload 7, 2) := by decide +kernel
theorem dX10_crosses_395 : decode cX10_crosses 395 = .ok (.laload, 1) := by decide +kernel
theorem dX10_crosses_396 : decode cX10_crosses 396 = .ok (.aload_n 0, 1) := by decide +kernel
theorem dX10_crosses_397 : decode cX10_crosses 397 = .ok (.getfield 70, 3) := by decide +kernel
theorem dX10_crosses_400 : decode cX10_crosses 400 = .ok (.iload 7, 2) := by decide +kernel
theorem dX10_crosses_402 : decode cX10_crosses 402 = .ok (.laload, 1) := by decide +kernel
theorem dX10_crosses_403 : decode cX10_crosses 403 = .ok (.invokestatic 177, 3) := by decide +kernel
theorem dX10_crosses_406 : decode cX10_crosses 406 = .ok (.ifCond .ne 5, 3) := by decide +kernel
theorem dX10_crosses_409 : decode cX10_crosses 409 = .ok (.iconst 0, 1) := by decide +kernel
theorem dX10_crosses_410 : decode cX10_crosses 410 = .ok (.ireturn, 1) := by decide +kernel
theorem dX10_crosses_411 : decode cX10_crosses 411 = .ok (.iconst 0, 1) := by decide +kernel
theorem dX10_crosses_412 : decode cX10_crosses 412 = .ok (.istore 9, 2) := by decide +kernel
theorem dX10_crosses_414 : decode cX10_crosses 414 = .ok (.iload 9, 2) := by decide +kernel
theorem dX10_crosses_416 : decode cX10_crosses 416 = .ok (.iconst 2, 1) := by decide +kernel
theorem dX10_crosses_417 : decode cX10_crosses 417 = .ok (.if_icmp .ge 31, 3) := by decide +kernel
theorem dX10_crosses_420 : decode cX10_crosses 420 = .ok (.aload_n 0, 1) := by decide +kernel
theorem dX10_crosses_421 : decode cX10_crosses 421 = .ok (.aload_n 0, 1) := by decide +kernel
theorem dX10_crosses_422 : decode cX10_crosses 422 = .ok (.getfield 76, 3) := by decide +kernel
theorem dX10_crosses_425 : decode cX10_crosses 425 = .ok (.iload 7, 2) := by decide +kernel
theorem dX10_crosses_427 : decode cX10_crosses 427 = .ok (.laload, 1) := by decide +kernel
theorem dX10_crosses_428 : decode cX10_crosses 428 = .ok (.aload_n 0, 1) := by decide +kernel
theorem dX10_crosses_429 : decode cX10_crosses 429 = .ok (.getfield 70, 3) := by decide +kernel
theorem dX10_crosses_432 : decode cX10_crosses 432 = .ok (.iload 7, 2) := by decide +kernel
theorem dX10_crosses_434 : decode cX10_crosses 434 = .ok (.laload, 1) := by decide +kernel
theorem dX10_crosses_435 : decode cX10_crosses 435 = .ok (.iload 9, 2) := by decide +kernel
theorem dX10_crosses_437 : decode cX10_crosses 437 = .ok (.i2l, 1) := by decide +kernel
theorem dX10_crosses_438 : decode cX10_crosses 438 = .ok (.lconst 1, 1) := by decide +kernel
theorem dX10_crosses_439 : decode cX10_crosses 439 = .ok (.invokevirtual 254, 3) := by decide +kernel
theorem dX10_crosses_442 : decode cX10_crosses 442 = .ok (.iinc 9 1, 3) := by decide +kernel
theorem dX10_crosses_445 : decode cX10_crosses 445 = .ok (.goto (-31), 3) := by decide +kernel
theorem dX10_crosses_448 : decode cX10_crosses 448 = .ok (.iconst 1, 1) := by decide +kernel
theorem dX10_crosses_449 : decode cX10_crosses 449 = .ok (.ireturn, 1) := by decide +kernel
theorem dX10_crosses_450 : decode cX10_crosses 450 = .ok (.aload_n 0, 1) := by decide +kernel
theorem dX10_crosses_451 : decode cX10_crosses 451 = .ok (.getfield 70, 3) := by decide +kernel
theorem dX10_crosses_454 : decode cX10_crosses 454 = .ok (.iload 7, 2) := by decide +kernel
theorem dX10_crosses_456 : decode cX10_crosses 456 = .ok (.laload, 1) := by decide +kernel
theorem dX10_crosses_457 : decode cX10_crosses 457 = .ok (.lstore 9, 2) := by decide +kernel
theorem dX10_crosses_459 : decode cX10_crosses 459 = .ok (.aload_n 0, 1) := by decide +kernel
theorem dX10_crosses_460 : decode cX10_crosses 460 = .ok (.getfield 73, 3) := by decide +kernel
theorem dX10_crosses_463 : decode cX10_crosses 463 = .ok (.iload 7, 2) := by decide +kernel
theorem dX10_crosses_465 : decode cX10_crosses 465 = .ok (.laload, 1) := by decide +kernel
theorem dX10_crosses_466 : decode cX10_crosses 466 = .ok (.lstore 11, 2) := by decide +kernel
theorem dX10_crosses_468 : decode cX10_crosses 468 = .ok (.aload_n 0, 1) := by decide +kernel
theorem dX10_crosses_469 : decode cX10_crosses 469 = .ok (.getfield 76, 3) := by decide +kernel
theorem dX10_crosses_472 : decode cX10_crosses 472 = .ok (.iload 7, 2) := by decide +kernel
theorem dX10_crosses_474 : decode cX10_crosses 474 = .ok (.laload, 1) := by decide +kernel
theorem dX10_crosses_475 : decode cX10_crosses 475 = .ok (.lstore 13, 2) := by decide +kernel
theorem dX10_crosses_477 : decode cX10_crosses 477 = .ok (.iconst 0, 1) := by decide +kernel
theorem dX10_crosses_478 : decode cX10_crosses 478 = .ok (.istore 15, 2) := by decide +kernel
theorem dX10_crosses_480 : decode cX10_crosses 480 = .ok (.iload 15, 2) := by decide +kernel
theorem dX10_crosses_482 : decode cX10_crosses 482 = .ok (.iconst 2, 1) := by decide +kernel
theorem dX10_crosses_483 : decode cX10_crosses 483 = .ok (.if_icmp .ge 45, 3) := by decide +kernel
theorem dX10_crosses_486 : decode cX10_crosses 486 = .ok (.iload 15, 2) := by decide +kernel
theorem dX10_crosses_488 : decode cX10_crosses 488 = .ok (.i2l, 1) := by decide +kernel
theorem dX10_crosses_489 : decode cX10_crosses 489 = .ok (.lload 9, 2) := by decide +kernel
theorem dX10_crosses_491 : decode cX10_crosses 491 = .ok (.lmul, 1) := by decide +kernel
theorem dX10_crosses_492 : decode cX10_crosses 492 = .ok (.lload 13, 2) := by decide +kernel
theorem dX10_crosses_494 : decode cX10_crosses 494 = .ok (.lsub, 1) := by decide +kernel
theorem dX10_crosses_495 : decode cX10_crosses 495 = .ok (.lload 11, 2) := by decide +kernel
theorem dX10_crosses_497 : decode cX10_crosses 497 = .ok (.invokestatic 177, 3) := by decide +kernel
theorem dX10_crosses_500 : decode cX10_crosses 500 = .ok (.ifCond .eq 22, 3) := by decide +kernel
theorem dX10_crosses_503 : decode cX10_crosses 503 = .ok (.aload_n 0, 1) := by decide +kernel
theorem dX10_crosses_504 : decode cX10_crosses 504 = .ok (.iload 15, 2) := by decide +kernel
theorem dX10_crosses_506 : decode cX10_crosses 506 = .ok (.i2l, 1) := by decide +kernel
theorem dX10_crosses_507 : decode cX10_crosses 507 = .ok (.lconst 1, 1) := by decide +kernel
theorem dX10_crosses_508 : decode cX10_crosses 508 = .ok (.iload 15, 2) := by decide +kernel
theorem dX10_crosses_510 : decode cX10_crosses 510 = .ok (.i2l, 1) := by decide +kernel
theorem dX10_crosses_511 : decode cX10_crosses 511 = .ok (.lload 9, 2) := by decide +kernel
theorem dX10_crosses_513 : decode cX10_crosses 513 = .ok (.lmul, 1) := by decide +kernel
theorem dX10_crosses_514 : decode cX10_crosses 514 = .ok (.lload 13, 2) := by decide +kernel
theorem dX10_crosses_516 : decode cX10_crosses 516 = .ok (.lsub, 1) := by decide +kernel
theorem dX10_crosses_517 : decode cX10_crosses 517 = .ok (.lload 11, 2) := by decide +kernel
theorem dX10_crosses_519 : decode cX10_crosses 519 = .ok (.invokevirtual 254, 3) := by decide +kernel
theorem dX10_crosses_522 : decode cX10_crosses 522 = .ok (.iinc 15 1, 3) := by decide +kernel
theorem dX10_crosses_525 : decode cX10_crosses 525 = .ok (.goto (-45), 3) := by decide +kernel
theorem dX10_crosses_528 : decode cX10_crosses 528 = .ok (.iconst 0, 1) := by decide +kernel
theorem dX10_crosses_529 : decode cX10_crosses 529 = .ok (.istore 15, 2) := by decide +kernel
theorem dX10_crosses_531 : decode cX10_crosses 531 = .ok (.iload 15, 2) := by decide +kernel
theorem dX10_crosses_533 : decode cX10_crosses 533 = .ok (.iconst 2, 1) := by decide +kernel
theorem dX10_crosses_534 : decode cX10_crosses 534 = .ok (.if_icmp .ge 45, 3) := by decide +kernel
theorem dX10_crosses_537 : decode cX10_crosses 537 = .ok (.lload 13, 2) := by decide +kernel
theorem dX10_crosses_539 : decode cX10_crosses 539 = .ok (.iload 15, 2) := by decide +kernel
theorem dX10_crosses_541 : decode cX10_crosses 541 = .ok (.i2l, 1) := by decide +kernel
theorem dX10_crosses_542 : decode cX10_crosses 542 = .ok (.lload 11, 2) := by decide +kernel
theorem dX10_crosses_544 : decode cX10_crosses 544 = .ok (.lmul, 1) := by decide +kernel
theorem dX10_crosses_545 : decode cX10_crosses 545 = .ok (.ladd, 1) := by decide +kernel
theorem dX10_crosses_546 : decode cX10_crosses 546 = .ok (.lload 9, 2) := by decide +kernel
theorem dX10_crosses_548 : decode cX10_crosses 548 = .ok (.invokestatic 177, 3) := by decide +kernel
theorem dX10_crosses_551 : decode cX10_crosses 551 = .ok (.ifCond .eq 22, 3) := by decide +kernel
theorem dX10_crosses_554 : decode cX10_crosses 554 = .ok (.aload_n 0, 1) := by decide +kernel
theorem dX10_crosses_555 : decode cX10_crosses 555 = .ok (.lload 13, 2) := by decide +kernel
theorem dX10_crosses_557 : decode cX10_crosses 557 = .ok (.iload 15, 2) := by decide +kernel
theorem dX10_crosses_559 : decode cX10_crosses 559 = .ok (.i2l, 1) := by decide +kernel
theorem dX10_crosses_560 : decode cX10_crosses 560 = .ok (.lload 11, 2) := by decide +kernel
theorem dX10_crosses_562 : decode cX10_crosses 562 = .ok (.lmul, 1) := by decide +kernel
theorem dX10_crosses_563 : decode cX10_crosses 563 = .ok (.ladd, 1) := by decide +kernel
theorem dX10_crosses_564 : decode cX10_crosses 564 = .ok (.lload 9, 2) := by decide +kernel
theorem dX10_crosses_566 : decode cX10_crosses 566 = .ok (.iload 15, 2) := by decide +kernel
theorem dX10_crosses_568 : decode cX10_crosses 568 = .ok (.i2l, 1) := by decide +kernel
theorem dX10_crosses_569 : decode cX10_crosses 569 = .ok (.lconst 1, 1) := by decide +kernel
theorem dX10_crosses_570 : decode cX10_crosses 570 = .ok (.invokevirtual 254, 3) := by decide +kernel
theorem dX10_crosses_573 : decode cX10_crosses 573 = .ok (.iinc 15 1, 3) := by decide +kernel
theorem dX10_crosses_576 : decode cX10_crosses 576 = .ok (.goto (-45), 3) := by decide +kernel
theorem dX10_crosses_579 : decode cX10_crosses 579 = .ok (.aload_n 0, 1) := by decide +kernel
theorem dX10_crosses_580 : decode cX10_crosses 580 = .ok (.getfield 229, 3) := by decide +kernel
theorem dX10_crosses_583 : decode cX10_crosses 583 = .ok (.ifCond .ne 7, 3) := by decide +kernel
theorem dX10_crosses_586 : decode cX10_crosses 586 = .ok (.iconst 1, 1) := by decide +kernel
theorem dX10_crosses_587 : decode cX10_crosses 587 = .ok (.goto 4, 3) := by decide +kernel
theorem dX10_crosses_590 : decode cX10_crosses 590 = .ok (.iconst 0, 1) := by decide +kernel
theorem dX10_crosses_591 : decode cX10_crosses 591 = .ok (.ireturn, 1) := by decide +kernel
theorem dX10_axisOf_0 : decode cX10_axisOf 0 = .ok (.aload_n 0, 1) := by decide +kernel
theorem dX10_axisOf_1 : decode cX10_axisOf 1 = .ok (.iconst 0, 1) := by decide +kernel
theorem dX10_axisOf_2 : decode cX10_axisOf 2 = .ok (.laload, 1) := by decide +kernel
theorem dX10_axisOf_3 : decode cX10_axisOf 3 = .ok (.lconst 0, 1) := by decide +kernel
theorem dX10_axisOf_4 : decode cX10_axisOf 4 = .ok (.lcmp, 1) := by decide +kernel
theorem dX10_axisOf_5 : decode cX10_axisOf 5 = .ok (.ifCond .eq 7, 3) := by decide +kernel
theorem dX10_axisOf_8 : decode cX10_axisOf 8 = .ok (.iconst 0, 1) := by decide +kernel
theorem dX10_axisOf_9 : decode cX10_axisOf 9 = .ok (.goto 28, 3) := by decide +kernel
theorem dX10_axisOf_12 : decode cX10_axisOf 12 = .ok (.aload_n 0, 1) := by decide +kernel
theorem dX10_axisOf_13 : decode cX10_axisOf 13 = .ok (.iconst 1, 1) := by decide +kernel
theorem dX10_axisOf_14 : decode cX10_axisOf 14 = .ok (.laload, 1) := by decide +kernel
theorem dX10_axisOf_15 : decode cX10_axisOf 15 = .ok (.lconst 0, 1) := by decide +kernel
theorem dX10_axisOf_16 : decode cX10_axisOf 16 = .ok (.lcmp, 1) := by decide +kernel
theorem dX10_axisOf_17 : decode cX10_axisOf 17 = .ok (.ifCond .eq 7, 3) := by decide +kernel
theorem dX10_axisOf_20 : decode cX10_axisOf 20 = .ok (.iconst 1, 1) := by decide +kernel
theorem dX10_axisOf_21 : decode cX10_axisOf 21 = .ok (.goto 16, 3) := by decide +kernel
theorem dX10_axisOf_24 : decode cX10_axisOf 24 = .ok (.aload_n 0, 1) := by decide +kernel
theorem dX10_axisOf_25 : decode cX10_axisOf 25 = .ok (.iconst 2, 1) := by decide +kernel
theorem dX10_axisOf_26 : decode cX10_axisOf 26 = .ok (.laload, 1) := by decide +kernel
theorem dX10_axisOf_27 : decode cX10_axisOf 27 = .ok (.lconst 0, 1) := by decide +kernel
theorem dX10_axisOf_28 : decode cX10_axisOf 28 = .ok (.lcmp, 1) := by decide +kernel
theorem dX10_axisOf_29 : decode cX10_axisOf 29 = .ok (.ifCond .eq 7, 3) := by decide +kernel
theorem dX10_axisOf_32 : decode cX10_axisOf 32 = .ok (.iconst 2, 1) := by decide +kernel
theorem dX10_axisOf_33 : decode cX10_axisOf 33 = .ok (.goto 4, 3) := by decide +kernel
theorem dX10_axisOf_36 : decode cX10_axisOf 36 = .ok (.iconst (-1), 1) := by decide +kernel
theorem dX10_axisOf_37 : decode cX10_axisOf 37 = .ok (.ireturn, 1) := by decide +kernel
theorem dX10_isBar_0 : decode cX10_isBar 0 = .ok (.iload_n 1, 1) := by decide +kernel
theorem dX10_isBar_1 : decode cX10_isBar 1 = .ok (.iload_n 2, 1) := by decide +kernel
theorem dX10_isBar_2 : decode cX10_isBar 2 = .ok (.if_icmp .ne 5, 3) := by decide +kernel
theorem dX10_isBar_5 : decode cX10_isBar 5 = .ok (.iconst 0, 1) := by decide +kernel
theorem dX10_isBar_6 : decode cX10_isBar 6 = .ok (.ireturn, 1) := by decide +kernel
theorem dX10_isBar_7 : decode cX10_isBar 7 = .ok (.iconst 0, 1) := by decide +kernel
theorem dX10_isBar_8 : decode cX10_isBar 8 = .ok (.istore_n 3, 1) := by decide +kernel
theorem dX10_isBar_9 : decode cX10_isBar 9 = .ok (.iload_n 3, 1) := by decide +kernel
theorem dX10_isBar_10 : decode cX10_isBar 10 = .ok (.aload_n 0, 1) := by decide +kernel
theorem dX10_isBar_11 : decode cX10_isBar 11 = .ok (.iload_n 2, 1) := by decide +kernel
theorem dX10_isBar_12 : decode cX10_isBar 12 = .ok (.invokevirtual 184, 3) := by decide +kernel
theorem dX10_isBar_15 : decode cX10_isBar 15 = .ok (.if_icmp .ge 51, 3) := by decide +kernel
theorem dX10_isBar_18 : decode cX10_isBar 18 = .ok (.iconst 0, 1) := by decide +kernel
theorem dX10_isBar_19 : decode cX10_isBar 19 = .ok (.istore 4, 2) := by decide +kernel
theorem dX10_isBar_21 : decode cX10_isBar 21 = .ok (.iload 4, 2) := by decide +kernel
theorem dX10_isBar_23 : decode cX10_isBar 23 = .ok (.aload_n 0, 1) := by decide +kernel
theorem dX10_isBar_24 : decode cX10_isBar 24 = .ok (.iload_n 1, 1) := by decide +kernel
theorem dX10_isBar_25 : decode cX10_isBar 25 = .ok (.invokevirtual 184, 3) := by decide +kernel
theorem dX10_isBar_28 : decode cX10_isBar 28 = .ok (.if_icmp .ge 32, 3) := by decide +kernel
theorem dX10_isBar_31 : decode cX10_isBar 31 = .ok (.aload_n 0, 1) := by decide +kernel
theorem dX10_isBar_32 : decode cX10_isBar 32 = .ok (.iload_n 2, 1) := by decide +kernel
theorem dX10_isBar_33 : decode cX10_isBar 33 = .ok (.iload_n 3, 1) := by decide +kernel
theorem dX10_isBar_34 : decode cX10_isBar 34 = .ok (.iload_n 1, 1) := by decide +kernel
theorem dX10_isBar_35 : decode cX10_isBar 35 = .ok (.iload 4, 2) := by decide +kernel
theorem dX10_isBar_37 : decode cX10_isBar 37 = .ok (.invokevirtual 257, 3) := by decide +kernel
theorem dX10_isBar_40 : decode cX10_isBar 40 = .ok (.ifCond .eq 14, 3) := by decide +kernel
theorem dX10_isBar_43 : decode cX10_isBar 43 = .ok (.aload_n 0, 1) := by decide +kernel
theorem dX10_isBar_44 : decode cX10_isBar 44 = .ok (.getfield 240, 3) := by decide +kernel
theorem dX10_isBar_47 : decode cX10_isBar 47 = .ok (.lconst 0, 1) := by decide +kernel
theorem dX10_isBar_48 : decode cX10_isBar 48 = .ok (.lcmp, 1) := by decide +kernel
theorem dX10_isBar_49 : decode cX10_isBar 49 = .ok (.ifCond .le 5, 3) := by decide +kernel
theorem dX10_isBar_52 : decode cX10_isBar 52 = .ok (.iconst 1, 1) := by decide +kernel
theorem dX10_isBar_53 : decode cX10_isBar 53 = .ok (.ireturn, 1) := by decide +kernel
theorem dX10_isBar_54 : decode cX10_isBar 54 = .ok (.iinc 4 1, 3) := by decide +kernel
theorem dX10_isBar_57 : decode cX10_isBar 57 = .ok (.goto (-36), 3) := by decide +kernel
theorem dX10_isBar_60 : decode cX10_isBar 60 = .ok (.iinc 3 1, 3) := by decide +kernel
theorem dX10_isBar_63 : decode cX10_isBar 63 = .ok (.goto (-54), 3) := by decide +kernel
theorem dX10_isBar_66 : decode cX10_isBar 66 = .ok (.iconst 0, 1) := by decide +kernel
theorem dX10_isBar_67 : decode cX10_isBar 67 = .ok (.ireturn, 1) := by decide +kernel
theorem dX10_bars_0 : decode cX10_bars 0 = .ok (.aload_n 0, 1) := by decide +kernel
theorem dX10_bars_1 : decode cX10_bars 1 = .ok (.iconst 0, 1) := by decide +kernel
theorem dX10_bars_2 : decode cX10_bars 2 = .ok (.putfield 1, 3) := by decide +kernel
theorem dX10_bars_5 : decode cX10_bars 5 = .ok (.aload_n 0, 1) := by decide +kernel
theorem dX10_bars_6 : decode cX10_bars 6 = .ok (.iload_n 1, 1) := by decide +kernel
theorem dX10_bars_7 : decode cX10_bars 7 = .ok (.invokevirtual 213, 3) := by decide +kernel
theorem dX10_bars_10 : decode cX10_bars 10 = .ok (.ifCond .eq 24, 3) := by decide +kernel
theorem dX10_bars_13 : decode cX10_bars 13 = .ok (.aload_n 0, 1) := by decide +kernel
theorem dX10_bars_14 : decode cX10_bars 14 = .ok (.iload_n 2, 1) := by decide +kernel
theorem dX10_bars_15 : decode cX10_bars 15 = .ok (.invokevirtual 213, 3) := by decide +kernel
theorem dX10_bars_18 : decode cX10_bars 18 = .ok (.ifCond .eq 16, 3) := by decide +kernel
theorem dX10_bars_21 : decode cX10_bars 21 = .ok (.aload_n 0, 1) := by decide +kernel
theorem dX10_bars_22 : decode cX10_bars 22 = .ok (.iload_n 1, 1) := by decide +kernel
theorem dX10_bars_23 : decode cX10_bars 23 = .ok (.iload_n 2, 1) := by decide +kernel
theorem dX10_bars_24 : decode cX10_bars 24 = .ok (.invokevirtual 261, 3) := by decide +kernel
theorem dX10_bars_27 : decode cX10_bars 27 = .ok (.ifCond .eq 7, 3) := by decide +kernel
theorem dX10_bars_30 : decode cX10_bars 30 = .ok (.iconst 1, 1) := by decide +kernel
theorem dX10_bars_31 : decode cX10_bars 31 = .ok (.goto 4, 3) := by decide +kernel
theorem dX10_bars_34 : decode cX10_bars 34 = .ok (.iconst 0, 1) := by decide +kernel
theorem dX10_bars_35 : decode cX10_bars 35 = .ok (.ireturn, 1) := by decide +kernel
theorem dX10_findCrossings_0 : decode cX10_findCrossings 0 = .ok (.aload_n 0, 1) := by decide +kernel
theorem dX10_findCrossings_1 : decode cX10_findCrossings 1 = .ok (.iconst 0, 1) := by decide +kernel
theorem dX10_findCrossings_2 : decode cX10_findCrossings 2 = .ok (.putfield 264, 3) := by decide +kernel
theorem dX10_findCrossings_5 : decode cX10_findCrossings 5 = .ok (.iconst 0, 1) := by decide +kernel
theorem dX10_findCrossings_6 : decode cX10_findCrossings 6 = .ok (.istore_n 2, 1) := by decide +kernel
theorem dX10_findCrossings_7 : decode cX10_findCrossings 7 = .ok (.iload_n 2, 1) := by decide +kernel
theorem dX10_findCrossings_8 : decode cX10_findCrossings 8 = .ok (.aload_n 0, 1) := by decide +kernel
theorem dX10_findCrossings_9 : decode cX10_findCrossings 9 = .ok (.iload_n 1, 1) := by decide +kernel
theorem dX10_findCrossings_10 : decode cX10_findCrossings 10 = .ok (.invokevirtual 184, 3) := by decide +kernel
theorem dX10_findCrossings_13 : decode cX10_findCrossings 13 = .ok (.if_icmp .ge 78, 3) := by decide +kernel
theorem dX10_findCrossings_16 : decode cX10_findCrossings 16 = .ok (.iconst 0, 1) := by decide +kernel
theorem dX10_findCrossings_17 : decode cX10_findCrossings 17 = .ok (.istore_n 3, 1) := by decide +kernel
theorem dX10_findCrossings_18 : decode cX10_findCrossings 18 = .ok (.iload_n 3, 1) := by decide +kernel
theorem dX10_findCrossings_19 : decode cX10_findCrossings 19 = .ok (.aload_n 0, 1) := by decide +kernel
theorem dX10_findCrossings_20 : decode cX10_findCrossings 20 = .ok (.getfield 181, 3) := by decide +kernel
theorem dX10_findCrossings_23 : decode cX10_findCrossings 23 = .ok (.if_icmp .ge 62, 3) := by decide +kernel
theorem dX10_findCrossings_26 : decode cX10_findCrossings 26 = .ok (.aload_n 0, 1) := by decide +kernel
theorem dX10_findCrossings_27 : decode cX10_findCrossings 27 = .ok (.getfield 39, 3) := by decide +kernel
theorem dX10_findCrossings_30 : decode cX10_findCrossings 30 = .ok (.iload_n 3, 1) := by decide +kernel
theorem dX10_findCrossings_31 : decode cX10_findCrossings 31 = .ok (.baload, 1) := by decide +kernel
theorem dX10_findCrossings_32 : decode cX10_findCrossings 32 = .ok (.ifCond .eq 47, 3) := by decide +kernel
theorem dX10_findCrossings_35 : decode cX10_findCrossings 35 = .ok (.iload_n 3, 1) := by decide +kernel
theorem dX10_findCrossings_36 : decode cX10_findCrossings 36 = .ok (.iload_n 1, 1) := by decide +kernel
theorem dX10_findCrossings_37 : decode cX10_findCrossings 37 = .ok (.if_icmp .eq 42, 3) := by decide +kernel
theorem dX10_findCrossings_40 : decode cX10_findCrossings 40 = .ok (.iconst 0, 1) := by decide +kernel
theorem dX10_findCrossings_41 : decode cX10_findCrossings 41 = .ok (.istore 4, 2) := by decide +kernel
theorem dX10_findCrossings_43 : decode cX10_findCrossings 43 = .ok (.iload 4, 2) := by decide +kernel
theorem dX10_findCrossings_45 : decode cX10_findCrossings 45 = .ok (.aload_n 0, 1) := by decide +kernel
theorem dX10_findCrossings_46 : decode cX10_findCrossings 46 = .ok (.iload_n 3, 1) := by decide +kernel
theorem dX10_findCrossings_47 : decode cX10_findCrossings 47 = .ok (.invokevirtual 184, 3) := by decide +kernel
theorem dX10_findCrossings_50 : decode cX10_findCrossings 50 = .ok (.if_icmp .ge 29, 3) := by decide +kernel
theorem dX10_findCrossings_53 : decode cX10_findCrossings 53 = .ok (.aload_n 0, 1) := by decide +kernel
theorem dX10_findCrossings_54 : decode cX10_findCrossings 54 = .ok (.iload_n 1, 1) := by decide +kernel
theorem dX10_findCrossings_55 : decode cX10_findCrossings 55 = .ok (.iload_n 2, 1) := by decide +kernel
theorem dX10_findCrossings_56 : decode cX10_findCrossings 56 = .ok (.iload_n 3, 1) := by decide +kernel
theorem dX10_findCrossings_57 : decode cX10_findCrossings 57 = .ok (.iload 4, 2) := by decide +kernel
theorem dX10_findCrossings_59 : decode cX10_findCrossings 59 = .ok (.invokevirtual 257, 3) := by decide +kernel
theorem dX10_findCrossings_62 : decode cX10_findCrossings 62 = .ok (.ifCond .eq 11, 3) := by decide +kernel
theorem dX10_findCrossings_65 : decode cX10_findCrossings 65 = .ok (.aload_n 0, 1) := by decide +kernel
theorem dX10_findCrossings_66 : decode cX10_findCrossings 66 = .ok (.iload_n 2, 1) := by decide +kernel
theorem dX10_findCrossings_67 : decode cX10_findCrossings 67 = .ok (.iload_n 3, 1) := by decide +kernel
theorem dX10_findCrossings_68 : decode cX10_findCrossings 68 = .ok (.iload 4, 2) := by decide +kernel
theorem dX10_findCrossings_70 : decode cX10_findCrossings 70 = .ok (.invokevirtual 267, 3) := by decide +kernel
theorem dX10_findCrossings_73 : decode cX10_findCrossings 73 = .ok (.iinc 4 1, 3) := by decide +kernel
theorem dX10_findCrossings_76 : decode cX10_findCrossings 76 = .ok (.goto (-33), 3) := by decide +kernel
theorem dX10_findCrossings_79 : decode cX10_findCrossings 79 = .ok (.iinc 3 1, 3) := by decide +kernel
theorem dX10_findCrossings_82 : decode cX10_findCrossings 82 = .ok (.goto (-64), 3) := by decide +kernel
theorem dX10_findCrossings_85 : decode cX10_findCrossings 85 = .ok (.iinc 2 1, 3) := by decide +kernel
theorem dX10_findCrossings_88 : decode cX10_findCrossings 88 = .ok (.goto (-81), 3) := by decide +kernel
theorem dX10_findCrossings_91 : decode cX10_findCrossings 91 = .ok (.return_, 1) := by decide +kernel
theorem dX10_insert_0 : decode cX10_insert 0 = .ok (.aload_n 0, 1) := by decide +kernel
theorem dX10_insert_1 : decode cX10_insert 1 = .ok (.getfield 264, 3) := by decide +kernel
theorem dX10_insert_4 : decode cX10_insert 4 = .ok (.istore 4, 2) := by decide +kernel
theorem dX10_insert_6 : decode cX10_insert 6 = .ok (.iload 4, 2) := by decide +kernel
theorem dX10_insert_8 : decode cX10_insert 8 = .ok (.ifCond .le 166, 3) := by decide +kernel
theorem dX10_insert_11 : decode cX10_insert 11 = .ok (.aload_n 0, 1) := by decide +kernel
theorem dX10_insert_12 : decode cX10_insert 12 = .ok (.getfield 79, 3) := by decide +kernel
theorem dX10_insert_15 : decode cX10_insert 15 = .ok (.iload 4, 2) := by decide +kernel
theorem dX10_insert_17 : decode cX10_insert 17 = .ok (.iconst 1, 1) := by decide +kernel
theorem dX10_insert_18 : decode cX10_insert 18 = .ok (.isub, 1) := by decide +kernel
theorem dX10_insert_19 : decode cX10_insert 19 = .ok (.iaload, 1) := by decide +kernel
theorem dX10_insert_20 : decode cX10_insert 20 = .ok (.iload_n 1, 1) := by decide +kernel
theorem dX10_insert_21 : decode cX10_insert 21 = .ok (.if_icmp .ne 153, 3) := by decide +kernel
theorem dX10_insert_24 : decode cX10_insert 24 = .ok (.aload_n 0, 1) := by decide +kernel
theorem dX10_insert_25 : decode cX10_insert 25 = .ok (.getfield 237, 3) := by decide +kernel
theorem dX10_insert_28 : decode cX10_insert 28 = .ok (.aload_n 0, 1) := by decide +kernel
theorem dX10_insert_29 : decode cX10_insert 29 = .ok (.getfield 91, 3) := by decide +kernel
theorem dX10_insert_32 : decode cX10_insert 32 = .ok (.iload 4, 2) := by decide +kernel
theorem dX10_insert_34 : decode cX10_insert 34 = .ok (.iconst 1, 1) := by decide +kernel
theorem dX10_insert_35 : decode cX10_insert 35 = .ok (.isub, 1) := by decide +kernel
theorem dX10_insert_36 : decode cX10_insert 36 = .ok (.laload, 1) := by decide +kernel
theorem dX10_insert_37 : decode cX10_insert 37 = .ok (.lmul, 1) := by decide +kernel
theorem dX10_insert_38 : decode cX10_insert 38 = .ok (.aload_n 0, 1) := by decide +kernel
theorem dX10_insert_39 : decode cX10_insert 39 = .ok (.getfield 88, 3) := by decide +kernel
theorem dX10_insert_42 : decode cX10_insert 42 = .ok (.iload 4, 2) := by decide +kernel
theorem dX10_insert_44 : decode cX10_insert 44 = .ok (.iconst 1, 1) := by decide +kernel
theorem dX10_insert_45 : decode cX10_insert 45 = .ok (.isub, 1) := by decide +kernel
theorem dX10_insert_46 : decode cX10_insert 46 = .ok (.laload, 1) := by decide +kernel
theorem dX10_insert_47 : decode cX10_insert 47 = .ok (.aload_n 0, 1) := by decide +kernel
theorem dX10_insert_48 : decode cX10_insert 48 = .ok (.getfield 233, 3) := by decide +kernel
theorem dX10_insert_51 : decode cX10_insert 51 = .ok (.lmul, 1) := by decide +kernel
theorem dX10_insert_52 : decode cX10_insert 52 = .ok (.lcmp, 1) := by decide +kernel
theorem dX10_insert_53 : decode cX10_insert 53 = .ok (.ifCond .ge 121, 3) := by decide +kernel
theorem dX10_insert_56 : decode cX10_insert 56 = .ok (.aload_n 0, 1) := by decide +kernel
theorem dX10_insert_57 : decode cX10_insert 57 = .ok (.getfield 79, 3) := by decide +kernel
theorem dX10_insert_60 : decode cX10_insert 60 = .ok (.iload 4, 2) := by decide +kernel
theorem dX10_insert_62 : decode cX10_insert 62 = .ok (.aload_n 0, 1) := by decide +kernel
theorem dX10_insert_63 : decode cX10_insert 63 = .ok (.getfield 79, 3) := by decide +kernel
theorem dX10_insert_66 : decode cX10_insert 66 = .ok (.iload 4, 2) := by decide +kernel
theorem dX10_insert_68 : decode cX10_insert 68 = .ok (.iconst 1, 1) := by decide +kernel
theorem dX10_insert_69 : decode cX10_insert 69 = .ok (.isub, 1) := by decide +kernel
theorem dX10_insert_70 : decode cX10_insert 70 = .ok (.iaload, 1) := by decide +kernel
theorem dX10_insert_71 : decode cX10_insert 71 = .ok (.iastore, 1) := by decide +kernel
theorem dX10_insert_72 : decode cX10_insert 72 = .ok (.aload_n 0, 1) := by decide +kernel
theorem dX10_insert_73 : decode cX10_insert 73 = .ok (.getfield 82, 3) := by decide +kernel
theorem dX10_insert_76 : decode cX10_insert 76 = .ok (.iload 4, 2) := by decide +kernel
theorem dX10_insert_78 : decode cX10_insert 78 = .ok (.aload_n 0, 1) := by decide +kernel
theorem dX10_insert_79 : decode cX10_insert 79 = .ok (.getfield 82, 3) := by decide +kernel
theorem dX10_insert_82 : decode cX10_insert 82 = .ok (.iload 4, 2) := by decide +kernel
theorem dX10_insert_84 : decode cX10_insert 84 = .ok (.iconst 1, 1) := by decide +kernel
theorem dX10_insert_85 : decode cX10_insert 85 = .ok (.isub, 1) := by decide +kernel
theorem dX10_insert_86 : decode cX10_insert 86 = .ok (.iaload, 1) := by decide +kernel
theorem dX10_insert_87 : decode cX10_insert 87 = .ok (.iastore, 1) := by decide +kernel
theorem dX10_insert_88 : decode cX10_insert 88 = .ok (.aload_n 0, 1) := by decide +kernel
theorem dX10_insert_89 : decode cX10_insert 89 = .ok (.getfield 85, 3) := by decide +kernel
theorem dX10_insert_92 : decode cX10_insert 92 = .ok (.iload 4, 2) := by decide +kernel
theorem dX10_insert_94 : decode cX10_insert 94 = .ok (.aload_n 0, 1) := by decide +kernel
theorem dX10_insert_95 : decode cX10_insert 95 = .ok (.getfield 85, 3) := by decide +kernel
theorem dX10_insert_98 : decode cX10_insert 98 = .ok (.iload 4, 2) := by decide +kernel
theorem dX10_insert_100 : decode cX10_insert 100 = .ok (.iconst 1, 1) := by decide +kernel
theorem dX10_insert_101 : decode cX10_insert 101 = .ok (.isub, 1) := by decide +kernel
theorem dX10_insert_102 : decode cX10_insert 102 = .ok (.iaload, 1) := by decide +kernel
theorem dX10_insert_103 : decode cX10_insert 103 = .ok (.iastore, 1) := by decide +kernel
theorem dX10_insert_104 : decode cX10_insert 104 = .ok (.aload_n 0, 1) := by decide +kernel
theorem dX10_insert_105 : decode cX10_insert 105 = .ok (.getfield 88, 3) := by decide +kernel
theorem dX10_insert_108 : decode cX10_insert 108 = .ok (.iload 4, 2) := by decide +kernel
theorem dX10_insert_110 : decode cX10_insert 110 = .ok (.aload_n 0, 1) := by decide +kernel
theorem dX10_insert_111 : decode cX10_insert 111 = .ok (.getfield 88, 3) := by decide +kernel
theorem dX10_insert_114 : decode cX10_insert 114 = .ok (.iload 4, 2) := by decide +kernel
theorem dX10_insert_116 : decode cX10_insert 116 = .ok (.iconst 1, 1) := by decide +kernel
theorem dX10_insert_117 : decode cX10_insert 117 = .ok (.isub, 1) := by decide +kernel
theorem dX10_insert_118 : decode cX10_insert 118 = .ok (.laload, 1) := by decide +kernel
theorem dX10_insert_119 : decode cX10_insert 119 = .ok (.lastore, 1) := by decide +kernel
theorem dX10_insert_120 : decode cX10_insert 120 = .ok (.aload_n 0, 1) := by decide +kernel
theorem dX10_insert_121 : decode cX10_insert 121 = .ok (.getfield 91, 3) := by decide +kernel
theorem dX10_insert_124 : decode cX10_insert 124 = .ok (.iload 4, 2) := by decide +kernel
theorem dX10_insert_126 : decode cX10_insert 126 = .ok (.aload_n 0, 1) := by decide +kernel
theorem dX10_insert_127 : decode cX10_insert 127 = .ok (.getfield 91, 3) := by decide +kernel
theorem dX10_insert_130 : decode cX10_insert 130 = .ok (.iload 4, 2) := by decide +kernel
theorem dX10_insert_132 : decode cX10_insert 132 = .ok (.iconst 1, 1) := by decide +kernel
theorem dX10_insert_133 : decode cX10_insert 133 = .ok (.isub, 1) := by decide +kernel
theorem dX10_insert_134 : decode cX10_insert 134 = .ok (.laload, 1) := by decide +kernel
theorem dX10_insert_135 : decode cX10_insert 135 = .ok (.lastore, 1) := by decide +kernel
theorem dX10_insert_136 : decode cX10_insert 136 = .ok (.aload_n 0, 1) := by decide +kernel
theorem dX10_insert_137 : decode cX10_insert 137 = .ok (.getfield 94, 3) := by decide +kernel
theorem dX10_insert_140 : decode cX10_insert 140 = .ok (.iload 4, 2) := by decide +kernel
theorem dX10_insert_142 : decode cX10_insert 142 = .ok (.aload_n 0, 1) := by decide +kernel
theorem dX10_insert_143 : decode cX10_insert 143 = .ok (.getfield 94, 3) := by decide +kernel
theorem dX10_insert_146 : decode cX10_insert 146 = .ok (.iload 4, 2) := by decide +kernel
theorem dX10_insert_148 : decode cX10_insert 148 = .ok (.iconst 1, 1) := by decide +kernel
theorem dX10_insert_149 : decode cX10_insert 149 = .ok (.isub, 1) := by decide +kernel
theorem dX10_insert_150 : decode cX10_insert 150 = .ok (.laload, 1) := by decide +kernel
theorem dX10_insert_151 : decode cX10_insert 151 = .ok (.lastore, 1) := by decide +kernel
theorem dX10_insert_152 : decode cX10_insert 152 = .ok (.aload_n 0, 1) := by decide +kernel
theorem dX10_insert_153 : decode cX10_insert 153 = .ok (.getfield 97, 3) := by decide +kernel
theorem dX10_insert_156 : decode cX10_insert 156 = .ok (.iload 4, 2) := by decide +kernel
theorem dX10_insert_158 : decode cX10_insert 158 = .ok (.aload_n 0, 1) := by decide +kernel
theorem dX10_insert_159 : decode cX10_insert 159 = .ok (.getfield 97, 3) := by decide +kernel
theorem dX10_insert_162 : decode cX10_insert 162 = .ok (.iload 4, 2) := by decide +kernel
theorem dX10_insert_164 : decode cX10_insert 164 = .ok (.iconst 1, 1) := by decide +kernel
theorem dX10_insert_165 : decode cX10_insert 165 = .ok (.isub, 1) := by decide +kernel
theorem dX10_insert_166 : decode cX10_insert 166 = .ok (.laload, 1) := by decide +kernel
theorem dX10_insert_167 : decode cX10_insert 167 = .ok (.lastore, 1) := by decide +kernel
theorem dX10_insert_168 : decode cX10_insert 168 = .ok (.iinc 4 (-1), 3) := by decide +kernel
theorem dX10_insert_171 : decode cX10_insert 171 = .ok (.goto (-165), 3) := by decide +kernel
theorem dX10_insert_174 : decode cX10_insert 174 = .ok (.aload_n 0, 1) := by decide +kernel
theorem dX10_insert_175 : decode cX10_insert 175 = .ok (.getfield 79, 3) := by decide +kernel
theorem dX10_insert_178 : decode cX10_insert 178 = .ok (.iload 4, 2) := by decide +kernel
theorem dX10_insert_180 : decode cX10_insert 180 = .ok (.iload_n 1, 1) := by decide +kernel
theorem dX10_insert_181 : decode cX10_insert 181 = .ok (.iastore, 1) := by decide +kernel
theorem dX10_insert_182 : decode cX10_insert 182 = .ok (.aload_n 0, 1) := by decide +kernel
theorem dX10_insert_183 : decode cX10_insert 183 = .ok (.getfield 82, 3) := by decide +kernel
theorem dX10_insert_186 : decode cX10_insert 186 = .ok (.iload 4, 2) := by decide +kernel
theorem dX10_insert_188 : decode cX10_insert 188 = .ok (.iload_n 2, 1) := by decide +kernel
theorem dX10_insert_189 : decode cX10_insert 189 = .ok (.iastore, 1) := by decide +kernel
theorem dX10_insert_190 : decode cX10_insert 190 = .ok (.aload_n 0, 1) := by decide +kernel
theorem dX10_insert_191 : decode cX10_insert 191 = .ok (.getfield 85, 3) := by decide +kernel
theorem dX10_insert_194 : decode cX10_insert 194 = .ok (.iload 4, 2) := by decide +kernel
theorem dX10_insert_196 : decode cX10_insert 196 = .ok (.iload_n 3, 1) := by decide +kernel
theorem dX10_insert_197 : decode cX10_insert 197 = .ok (.iastore, 1) := by decide +kernel
theorem dX10_insert_198 : decode cX10_insert 198 = .ok (.aload_n 0, 1) := by decide +kernel
theorem dX10_insert_199 : decode cX10_insert 199 = .ok (.getfield 88, 3) := by decide +kernel
theorem dX10_insert_202 : decode cX10_insert 202 = .ok (.iload 4, 2) := by decide +kernel
theorem dX10_insert_204 : decode cX10_insert 204 = .ok (.aload_n 0, 1) := by decide +kernel
theorem dX10_insert_205 : decode cX10_insert 205 = .ok (.getfield 237, 3) := by decide +kernel
theorem dX10_insert_208 : decode cX10_insert 208 = .ok (.lastore, 1) := by decide +kernel
theorem dX10_insert_209 : decode cX10_insert 209 = .ok (.aload_n 0, 1) := by decide +kernel
theorem dX10_insert_210 : decode cX10_insert 210 = .ok (.getfield 91, 3) := by decide +kernel
theorem dX10_insert_213 : decode cX10_insert 213 = .ok (.iload 4, 2) := by decide +kernel
theorem dX10_insert_215 : decode cX10_insert 215 = .ok (.aload_n 0, 1) := by decide +kernel
theorem dX10_insert_216 : decode cX10_insert 216 = .ok (.getfield 233, 3) := by decide +kernel
theorem dX10_insert_219 : decode cX10_insert 219 = .ok (.lastore, 1) := by decide +kernel
theorem dX10_insert_220 : decode cX10_insert 220 = .ok (.aload_n 0, 1) := by decide +kernel
theorem dX10_insert_221 : decode cX10_insert 221 = .ok (.getfield 94, 3) := by decide +kernel
theorem dX10_insert_224 : decode cX10_insert 224 = .ok (.iload 4, 2) := by decide +kernel
theorem dX10_insert_226 : decode cX10_insert 226 = .ok (.aload_n 0, 1) := by decide +kernel
theorem dX10_insert_227 : decode cX10_insert 227 = .ok (.getfield 240, 3) := by decide +kernel
theorem dX10_insert_230 : decode cX10_insert 230 = .ok (.lastore, 1) := by decide +kernel
theorem dX10_insert_231 : decode cX10_insert 231 = .ok (.aload_n 0, 1) := by decide +kernel
theorem dX10_insert_232 : decode cX10_insert 232 = .ok (.getfield 97, 3) := by decide +kernel
theorem dX10_insert_235 : decode cX10_insert 235 = .ok (.iload 4, 2) := by decide +kernel
theorem dX10_insert_237 : decode cX10_insert 237 = .ok (.aload_n 0, 1) := by decide +kernel
theorem dX10_insert_238 : decode cX10_insert 238 = .ok (.getfield 247, 3) := by decide +kernel
theorem dX10_insert_241 : decode cX10_insert 241 = .ok (.lastore, 1) := by decide +kernel
theorem dX10_insert_242 : decode cX10_insert 242 = .ok (.aload_n 0, 1) := by decide +kernel
theorem dX10_insert_243 : decode cX10_insert 243 = .ok (.dup, 1) := by decide +kernel
theorem dX10_insert_244 : decode cX10_insert 244 = .ok (.getfield 264, 3) := by decide +kernel
theorem dX10_insert_247 : decode cX10_insert 247 = .ok (.iconst 1, 1) := by decide +kernel
theorem dX10_insert_248 : decode cX10_insert 248 = .ok (.iadd, 1) := by decide +kernel
theorem dX10_insert_249 : decode cX10_insert 249 = .ok (.putfield 264, 3) := by decide +kernel
theorem dX10_insert_252 : decode cX10_insert 252 = .ok (.return_, 1) := by decide +kernel
theorem dX10_crossings_0 : decode cX10_crossings 0 = .ok (.aload_n 0, 1) := by decide +kernel
theorem dX10_crossings_1 : decode cX10_crossings 1 = .ok (.iconst 0, 1) := by decide +kernel
theorem dX10_crossings_2 : decode cX10_crossings 2 = .ok (.putfield 1, 3) := by decide +kernel
theorem dX10_crossings_5 : decode cX10_crossings 5 = .ok (.aload_n 0, 1) := by decide +kernel
theorem dX10_crossings_6 : decode cX10_crossings 6 = .ok (.iload_n 1, 1) := by decide +kernel
theorem dX10_crossings_7 : decode cX10_crossings 7 = .ok (.invokevirtual 213, 3) := by decide +kernel
theorem dX10_crossings_10 : decode cX10_crossings 10 = .ok (.ifCond .ne 5, 3) := by decide +kernel
theorem dX10_crossings_13 : decode cX10_crossings 13 = .ok (.iconst 0, 1) := by decide +kernel
theorem dX10_crossings_14 : decode cX10_crossings 14 = .ok (.ireturn, 1) := by decide +kernel
theorem dX10_crossings_15 : decode cX10_crossings 15 = .ok (.aload_n 0, 1) := by decide +kernel
theorem dX10_crossings_16 : decode cX10_crossings 16 = .ok (.iload_n 1, 1) := by decide +kernel
theorem dX10_crossings_17 : decode cX10_crossings 17 = .ok (.invokevirtual 271, 3) := by decide +kernel
theorem dX10_crossings_20 : decode cX10_crossings 20 = .ok (.aload_n 0, 1) := by decide +kernel
theorem dX10_crossings_21 : decode cX10_crossings 21 = .ok (.getfield 264, 3) := by decide +kernel
theorem dX10_crossings_24 : decode cX10_crossings 24 = .ok (.ireturn, 1) := by decide +kernel
theorem dX10_crossing_0 : decode cX10_crossing 0 = .ok (.aload_n 0, 1) := by decide +kernel
theorem dX10_crossing_1 : decode cX10_crossing 1 = .ok (.iconst 0, 1) := by decide +kernel
theorem dX10_crossing_2 : decode cX10_crossing 2 = .ok (.putfield 1, 3) := by decide +kernel
theorem dX10_crossing_5 : decode cX10_crossing 5 = .ok (.aload_n 0, 1) := by decide +kernel
theorem dX10_crossing_6 : decode cX10_crossing 6 = .ok (.iload_n 1, 1) := by decide +kernel
theorem dX10_crossing_7 : decode cX10_crossing 7 = .ok (.invokevirtual 213, 3) := by decide +kernel
theorem dX10_crossing_10 : decode cX10_crossing 10 = .ok (.ifCond .ne 5, 3) := by decide +kernel
theorem dX10_crossing_13 : decode cX10_crossing 13 = .ok (.iconst 0, 1) := by decide +kernel
theorem dX10_crossing_14 : decode cX10_crossing 14 = .ok (.ireturn, 1) := by decide +kernel
theorem dX10_crossing_15 : decode cX10_crossing 15 = .ok (.aload_n 0, 1) := by decide +kernel
theorem dX10_crossing_16 : decode cX10_crossing 16 = .ok (.iload_n 1, 1) := by decide +kernel
theorem dX10_crossing_17 : decode cX10_crossing 17 = .ok (.invokevirtual 271, 3) := by decide +kernel
theorem dX10_crossing_20 : decode cX10_crossing 20 = .ok (.iload_n 2, 1) := by decide +kernel
theorem dX10_crossing_21 : decode cX10_crossing 21 = .ok (.ifCond .lt 11, 3) := by decide +kernel
theorem dX10_crossing_24 : decode cX10_crossing 24 = .ok (.iload_n 2, 1) := by decide +kernel
theorem dX10_crossing_25 : decode cX10_crossing 25 = .ok (.aload_n 0, 1) := by decide +kernel
theorem dX10_crossing_26 : decode cX10_crossing 26 = .ok (.getfield 264, 3) := by decide +kernel
theorem dX10_crossing_29 : decode cX10_crossing 29 = .ok (.if_icmp .lt 5, 3) := by decide +kernel
theorem dX10_crossing_32 : decode cX10_crossing 32 = .ok (.iconst (-1), 1) := by decide +kernel
theorem dX10_crossing_33 : decode cX10_crossing 33 = .ok (.ireturn, 1) := by decide +kernel
theorem dX10_crossing_34 : decode cX10_crossing 34 = .ok (.iload_n 3, 1) := by decide +kernel
theorem dX10_crossing_35 : decode cX10_crossing 35 = .ok (.tableswitch 67 0 3 #[29, 36, 43, 50], 29) := by decide +kernel
theorem dX10_crossing_64 : decode cX10_crossing 64 = .ok (.aload_n 0, 1) := by decide +kernel
theorem dX10_crossing_65 : decode cX10_crossing 65 = .ok (.getfield 79, 3) := by decide +kernel
theorem dX10_crossing_68 : decode cX10_crossing 68 = .ok (.iload_n 2, 1) := by decide +kernel
theorem dX10_crossing_69 : decode cX10_crossing 69 = .ok (.iaload, 1) := by decide +kernel
theorem dX10_crossing_70 : decode cX10_crossing 70 = .ok (.ireturn, 1) := by decide +kernel
theorem dX10_crossing_71 : decode cX10_crossing 71 = .ok (.aload_n 0, 1) := by decide +kernel
theorem dX10_crossing_72 : decode cX10_crossing 72 = .ok (.getfield 82, 3) := by decide +kernel
theorem dX10_crossing_75 : decode cX10_crossing 75 = .ok (.iload_n 2, 1) := by decide +kernel
theorem dX10_crossing_76 : decode cX10_crossing 76 = .ok (.iaload, 1) := by decide +kernel
theorem dX10_crossing_77 : decode cX10_crossing 77 = .ok (.ireturn, 1) := by decide +kernel
theorem dX10_crossing_78 : decode cX10_crossing 78 = .ok (.aload_n 0, 1) := by decide +kernel
theorem dX10_crossing_79 : decode cX10_crossing 79 = .ok (.getfield 85, 3) := by decide +kernel
theorem dX10_crossing_82 : decode cX10_crossing 82 = .ok (.iload_n 2, 1) := by decide +kernel
theorem dX10_crossing_83 : decode cX10_crossing 83 = .ok (.iaload, 1) := by decide +kernel
theorem dX10_crossing_84 : decode cX10_crossing 84 = .ok (.ireturn, 1) := by decide +kernel
theorem dX10_crossing_85 : decode cX10_crossing 85 = .ok (.aload_n 0, 1) := by decide +kernel
theorem dX10_crossing_86 : decode cX10_crossing 86 = .ok (.getfield 94, 3) := by decide +kernel
theorem dX10_crossing_89 : decode cX10_crossing 89 = .ok (.iload_n 2, 1) := by decide +kernel
theorem dX10_crossing_90 : decode cX10_crossing 90 = .ok (.laload, 1) := by decide +kernel
theorem dX10_crossing_91 : decode cX10_crossing 91 = .ok (.lconst 0, 1) := by decide +kernel
theorem dX10_crossing_92 : decode cX10_crossing 92 = .ok (.lcmp, 1) := by decide +kernel
theorem dX10_crossing_93 : decode cX10_crossing 93 = .ok (.ifCond .le 7, 3) := by decide +kernel
theorem dX10_crossing_96 : decode cX10_crossing 96 = .ok (.iconst 1, 1) := by decide +kernel
theorem dX10_crossing_97 : decode cX10_crossing 97 = .ok (.goto 4, 3) := by decide +kernel
theorem dX10_crossing_100 : decode cX10_crossing 100 = .ok (.iconst 0, 1) := by decide +kernel
theorem dX10_crossing_101 : decode cX10_crossing 101 = .ok (.ireturn, 1) := by decide +kernel
theorem dX10_crossing_102 : decode cX10_crossing 102 = .ok (.iconst (-1), 1) := by decide +kernel
theorem dX10_crossing_103 : decode cX10_crossing 103 = .ok (.ireturn, 1) := by decide +kernel
theorem dX10_sayWhole_0 : decode cX10_sayWhole 0 = .ok (.lconst 1, 1) := by decide +kernel
theorem dX10_sayWhole_1 : decode cX10_sayWhole 1 = .ok (.lstore_n 3, 1) := by decide +kernel
theorem dX10_sayWhole_2 : decode cX10_sayWhole 2 = .ok (.lload_n 1, 1) := by decide +kernel
theorem dX10_sayWhole_3 : decode cX10_sayWhole 3 = .ok (.lload_n 3, 1) := by decide +kernel
theorem dX10_sayWhole_4 : decode cX10_sayWhole 4 = .ok (.ldiv, 1) := by decide +kernel
theorem dX10_sayWhole_5 : decode cX10_sayWhole 5 = .ok (.ldc2_w 274, 3) := by decide +kernel
theorem dX10_sayWhole_8 : decode cX10_sayWhole 8 = .ok (.lcmp, 1) := by decide +kernel
theorem dX10_sayWhole_9 : decode cX10_sayWhole 9 = .ok (.ifCond .le 12, 3) := by decide +kernel
theorem dX10_sayWhole_12 : decode cX10_sayWhole 12 = .ok (.lload_n 3, 1) := by decide +kernel
theorem dX10_sayWhole_13 : decode cX10_sayWhole 13 = .ok (.ldc2_w 276, 3) := by decide +kernel
theorem dX10_sayWhole_16 : decode cX10_sayWhole 16 = .ok (.lmul, 1) := by decide +kernel
theorem dX10_sayWhole_17 : decode cX10_sayWhole 17 = .ok (.lstore_n 3, 1) := by decide +kernel
theorem dX10_sayWhole_18 : decode cX10_sayWhole 18 = .ok (.goto (-16), 3) := by decide +kernel
theorem dX10_sayWhole_21 : decode cX10_sayWhole 21 = .ok (.lload_n 3, 1) := by decide +kernel
theorem dX10_sayWhole_22 : decode cX10_sayWhole 22 = .ok (.lstore 5, 2) := by decide +kernel
theorem dX10_sayWhole_24 : decode cX10_sayWhole 24 = .ok (.lload 5, 2) := by decide +kernel
theorem dX10_sayWhole_26 : decode cX10_sayWhole 26 = .ok (.lconst 0, 1) := by decide +kernel
theorem dX10_sayWhole_27 : decode cX10_sayWhole 27 = .ok (.lcmp, 1) := by decide +kernel
theorem dX10_sayWhole_28 : decode cX10_sayWhole 28 = .ok (.ifCond .le 45, 3) := by decide +kernel
theorem dX10_sayWhole_31 : decode cX10_sayWhole 31 = .ok (.aload_n 0, 1) := by decide +kernel
theorem dX10_sayWhole_32 : decode cX10_sayWhole 32 = .ok (.getfield 100, 3) := by decide +kernel
theorem dX10_sayWhole_35 : decode cX10_sayWhole 35 = .ok (.aload_n 0, 1) := by decide +kernel
theorem dX10_sayWhole_36 : decode cX10_sayWhole 36 = .ok (.getfield 278, 3) := by decide +kernel
theorem dX10_sayWhole_39 : decode cX10_sayWhole 39 = .ok (.bipush 48, 2) := by decide +kernel
theorem dX10_sayWhole_41 : decode cX10_sayWhole 41 = .ok (.lload_n 1, 1) := by decide +kernel
theorem dX10_sayWhole_42 : decode cX10_sayWhole 42 = .ok (.lload 5, 2) := by decide +kernel
theorem dX10_sayWhole_44 : decode cX10_sayWhole 44 = .ok (.ldiv, 1) := by decide +kernel
theorem dX10_sayWhole_45 : decode cX10_sayWhole 45 = .ok (.ldc2_w 276, 3) := by decide +kernel
theorem dX10_sayWhole_48 : decode cX10_sayWhole 48 = .ok (.lrem, 1) := by decide +kernel
theorem dX10_sayWhole_49 : decode cX10_sayWhole 49 = .ok (.l2i, 1) := by decide +kernel
theorem dX10_sayWhole_50 : decode cX10_sayWhole 50 = .ok (.iadd, 1) := by decide +kernel
theorem dX10_sayWhole_51 : decode cX10_sayWhole 51 = .ok (.iastore, 1) := by decide +kernel
theorem dX10_sayWhole_52 : decode cX10_sayWhole 52 = .ok (.aload_n 0, 1) := by decide +kernel
theorem dX10_sayWhole_53 : decode cX10_sayWhole 53 = .ok (.dup, 1) := by decide +kernel
theorem dX10_sayWhole_54 : decode cX10_sayWhole 54 = .ok (.getfield 278, 3) := by decide +kernel
theorem dX10_sayWhole_57 : decode cX10_sayWhole 57 = .ok (.iconst 1, 1) := by decide +kernel
theorem dX10_sayWhole_58 : decode cX10_sayWhole 58 = .ok (.iadd, 1) := by decide +kernel
theorem dX10_sayWhole_59 : decode cX10_sayWhole 59 = .ok (.putfield 278, 3) := by decide +kernel
theorem dX10_sayWhole_62 : decode cX10_sayWhole 62 = .ok (.lload 5, 2) := by decide +kernel
theorem dX10_sayWhole_64 : decode cX10_sayWhole 64 = .ok (.ldc2_w 276, 3) := by decide +kernel
theorem dX10_sayWhole_67 : decode cX10_sayWhole 67 = .ok (.ldiv, 1) := by decide +kernel
theorem dX10_sayWhole_68 : decode cX10_sayWhole 68 = .ok (.lstore 5, 2) := by decide +kernel
theorem dX10_sayWhole_70 : decode cX10_sayWhole 70 = .ok (.goto (-46), 3) := by decide +kernel
theorem dX10_sayWhole_73 : decode cX10_sayWhole 73 = .ok (.return_, 1) := by decide +kernel
theorem dX10_print_0 : decode cX10_print 0 = .ok (.aload_n 0, 1) := by decide +kernel
theorem dX10_print_1 : decode cX10_print 1 = .ok (.iconst 0, 1) := by decide +kernel
theorem dX10_print_2 : decode cX10_print 2 = .ok (.putfield 1, 3) := by decide +kernel
theorem dX10_print_5 : decode cX10_print 5 = .ok (.aload_n 0, 1) := by decide +kernel
theorem dX10_print_6 : decode cX10_print 6 = .ok (.iload_n 1, 1) := by decide +kernel
theorem dX10_print_7 : decode cX10_print 7 = .ok (.invokevirtual 213, 3) := by decide +kernel
theorem dX10_print_10 : decode cX10_print 10 = .ok (.ifCond .ne 5, 3) := by decide +kernel
theorem dX10_print_13 : decode cX10_print 13 = .ok (.iconst 0, 1) := by decide +kernel
theorem dX10_print_14 : decode cX10_print 14 = .ok (.ireturn, 1) := by decide +kernel
theorem dX10_print_15 : decode cX10_print 15 = .ok (.aload_n 0, 1) := by decide +kernel
theorem dX10_print_16 : decode cX10_print 16 = .ok (.iload_n 1, 1) := by decide +kernel
theorem dX10_print_17 : decode cX10_print 17 = .ok (.invokevirtual 271, 3) := by decide +kernel
theorem dX10_print_20 : decode cX10_print 20 = .ok (.iload_n 2, 1) := by decide +kernel
theorem dX10_print_21 : decode cX10_print 21 = .ok (.ifCond .lt 20, 3) := by decide +kernel
theorem dX10_print_24 : decode cX10_print 24 = .ok (.iload_n 2, 1) := by decide +kernel
theorem dX10_print_25 : decode cX10_print 25 = .ok (.aload_n 0, 1) := by decide +kernel
theorem dX10_print_26 : decode cX10_print 26 = .ok (.getfield 264, 3) := by decide +kernel
theorem dX10_print_29 : decode cX10_print 29 = .ok (.if_icmp .ge 12, 3) := by decide +kernel
theorem dX10_print_32 : decode cX10_print 32 = .ok (.iload_n 3, 1) := by decide +kernel
theorem dX10_print_33 : decode cX10_print 33 = .ok (.ifCond .lt 8, 3) := by decide +kernel
theorem dX10_print_36 : decode cX10_print 36 = .ok (.iload_n 3, 1) := by decide +kernel
theorem dX10_print_37 : decode cX10_print 37 = .ok (.iconst 1, 1) := by decide +kernel
theorem dX10_print_38 : decode cX10_print 38 = .ok (.if_icmp .le 5, 3) := by decide +kernel
theorem dX10_print_41 : decode cX10_print 41 = .ok (.iconst (-1), 1) := by decide +kernel
theorem dX10_print_42 : decode cX10_print 42 = .ok (.ireturn, 1) := by decide +kernel
theorem dX10_print_43 : decode cX10_print 43 = .ok (.iload_n 3, 1) := by decide +kernel
theorem dX10_print_44 : decode cX10_print 44 = .ok (.ifCond .ne 12, 3) := by decide +kernel
theorem dX10_print_47 : decode cX10_print 47 = .ok (.aload_n 0, 1) := by decide +kernel
theorem dX10_print_48 : decode cX10_print 48 = .ok (.getfield 88, 3) := by decide +kernel
theorem dX10_print_51 : decode cX10_print 51 = .ok (.iload_n 2, 1) := by decide +kernel
theorem dX10_print_52 : decode cX10_print 52 = .ok (.laload, 1) := by decide +kernel
theorem dX10_print_53 : decode cX10_print 53 = .ok (.goto 9, 3) := by decide +kernel
theorem dX10_print_56 : decode cX10_print 56 = .ok (.aload_n 0, 1) := by decide +kernel
theorem dX10_print_57 : decode cX10_print 57 = .ok (.getfield 94, 3) := by decide +kernel
theorem dX10_print_60 : decode cX10_print 60 = .ok (.iload_n 2, 1) := by decide +kernel
theorem dX10_print_61 : decode cX10_print 61 = .ok (.laload, 1) := by decide +kernel
theorem dX10_print_62 : decode cX10_print 62 = .ok (.lstore 4, 2) := by decide +kernel
theorem dX10_print_64 : decode cX10_print 64 = .ok (.iload_n 3, 1) := by decide +kernel
theorem dX10_print_65 : decode cX10_print 65 = .ok (.ifCond .ne 12, 3) := by decide +kernel
theorem dX10_print_68 : decode cX10_print 68 = .ok (.aload_n 0, 1) := by decide +kernel
theorem dX10_print_69 : decode cX10_print 69 = .ok (.getfield 91, 3) := by decide +kernel
theorem dX10_print_72 : decode cX10_print 72 = .ok (.iload_n 2, 1) := by decide +kernel
theorem dX10_print_73 : decode cX10_print 73 = .ok (.laload, 1) := by decide +kernel
theorem dX10_print_74 : decode cX10_print 74 = .ok (.goto 9, 3) := by decide +kernel
theorem dX10_print_77 : decode cX10_print 77 = .ok (.aload_n 0, 1) := by decide +kernel
theorem dX10_print_78 : decode cX10_print 78 = .ok (.getfield 97, 3) := by decide +kernel
theorem dX10_print_81 : decode cX10_print 81 = .ok (.iload_n 2, 1) := by decide +kernel
theorem dX10_print_82 : decode cX10_print 82 = .ok (.laload, 1) := by decide +kernel
theorem dX10_print_83 : decode cX10_print 83 = .ok (.lstore 6, 2) := by decide +kernel
theorem dX10_print_85 : decode cX10_print 85 = .ok (.lload 4, 2) := by decide +kernel
theorem dX10_print_87 : decode cX10_print 87 = .ok (.lconst 0, 1) := by decide +kernel
theorem dX10_print_88 : decode cX10_print 88 = .ok (.lcmp, 1) := by decide +kernel
theorem dX10_print_89 : decode cX10_print 89 = .ok (.ifCond .ge 9, 3) := by decide +kernel
theorem dX10_print_92 : decode cX10_print 92 = .ok (.lload 4, 2) := by decide +kernel
theorem dX10_print_94 : decode cX10_print 94 = .ok (.lneg, 1) := by decide +kernel
theorem dX10_print_95 : decode cX10_print 95 = .ok (.goto 5, 3) := by decide +kernel
theorem dX10_print_98 : decode cX10_print 98 = .ok (.lload 4, 2) := by decide +kernel
theorem dX10_print_100 : decode cX10_print 100 = .ok (.lstore 8, 2) := by decide +kernel
theorem dX10_print_102 : decode cX10_print 102 = .ok (.lload 8, 2) := by decide +kernel
theorem dX10_print_104 : decode cX10_print 104 = .ok (.lload 6, 2) := by decide +kernel
theorem dX10_print_106 : decode cX10_print 106 = .ok (.invokestatic 243, 3) := by decide +kernel
theorem dX10_print_109 : decode cX10_print 109 = .ok (.lstore 10, 2) := by decide +kernel
theorem dX10_print_111 : decode cX10_print 111 = .ok (.aload_n 0, 1) := by decide +kernel
theorem dX10_print_112 : decode cX10_print 112 = .ok (.iconst 0, 1) := by decide +kernel
theorem dX10_print_113 : decode cX10_print 113 = .ok (.putfield 278, 3) := by decide +kernel
theorem dX10_print_116 : decode cX10_print 116 = .ok (.lload 4, 2) := by decide +kernel
theorem dX10_print_118 : decode cX10_print 118 = .ok (.lconst 0, 1) := by decide +kernel
theorem dX10_print_119 : decode cX10_print 119 = .ok (.lcmp, 1) := by decide +kernel
theorem dX10_print_120 : decode cX10_print 120 = .ok (.ifCond .ge 16, 3) := by decide +kernel
theorem dX10_print_123 : decode cX10_print 123 = .ok (.aload_n 0, 1) := by decide +kernel
theorem dX10_print_124 : decode cX10_print 124 = .ok (.getfield 100, 3) := by decide +kernel
theorem dX10_print_127 : decode cX10_print 127 = .ok (.iconst 0, 1) := by decide +kernel
theorem dX10_print_128 : decode cX10_print 128 = .ok (.bipush 45, 2) := by decide +kernel
theorem dX10_print_130 : decode cX10_print 130 = .ok (.iastore, 1) := by decide +kernel
theorem dX10_print_131 : decode cX10_print 131 = .ok (.aload_n 0, 1) := by decide +kernel
theorem dX10_print_132 : decode cX10_print 132 = .ok (.iconst 1, 1) := by decide +kernel
theorem dX10_print_133 : decode cX10_print 133 = .ok (.putfield 278, 3) := by decide +kernel
theorem dX10_print_136 : decode cX10_print 136 = .ok (.aload_n 0, 1) := by decide +kernel
theorem dX10_print_137 : decode cX10_print 137 = .ok (.lload 8, 2) := by decide +kernel
theorem dX10_print_139 : decode cX10_print 139 = .ok (.lload 10, 2) := by decide +kernel
theorem dX10_print_141 : decode cX10_print 141 = .ok (.ldiv, 1) := by decide +kernel
theorem dX10_print_142 : decode cX10_print 142 = .ok (.invokevirtual 281, 3) := by decide +kernel
theorem dX10_print_145 : decode cX10_print 145 = .ok (.lload 6, 2) := by decide +kernel
theorem dX10_print_147 : decode cX10_print 147 = .ok (.lload 10, 2) := by decide +kernel
theorem dX10_print_149 : decode cX10_print 149 = .ok (.lcmp, 1) := by decide +kernel
theorem dX10_print_150 : decode cX10_print 150 = .ok (.ifCond .ne 8, 3) := by decide +kernel
theorem dX10_print_153 : decode cX10_print 153 = .ok (.aload_n 0, 1) := by decide +kernel
theorem dX10_print_154 : decode cX10_print 154 = .ok (.getfield 278, 3) := by decide +kernel
theorem dX10_print_157 : decode cX10_print 157 = .ok (.ireturn, 1) := by decide +kernel
theorem dX10_print_158 : decode cX10_print 158 = .ok (.aload_n 0, 1) := by decide +kernel
theorem dX10_print_159 : decode cX10_print 159 = .ok (.getfield 100, 3) := by decide +kernel
theorem dX10_print_162 : decode cX10_print 162 = .ok (.aload_n 0, 1) := by decide +kernel
theorem dX10_print_163 : decode cX10_print 163 = .ok (.getfield 278, 3) := by decide +kernel
theorem dX10_print_166 : decode cX10_print 166 = .ok (.bipush 47, 2) := by decide +kernel
theorem dX10_print_168 : decode cX10_print 168 = .ok (.iastore, 1) := by decide +kernel
theorem dX10_print_169 : decode cX10_print 169 = .ok (.aload_n 0, 1) := by decide +kernel
theorem dX10_print_170 : decode cX10_print 170 = .ok (.dup, 1) := by decide +kernel
theorem dX10_print_171 : decode cX10_print 171 = .ok (.getfield 278, 3) := by decide +kernel
theorem dX10_print_174 : decode cX10_print 174 = .ok (.iconst 1, 1) := by decide +kernel
theorem dX10_print_175 : decode cX10_print 175 = .ok (.iadd, 1) := by decide +kernel
theorem dX10_print_176 : decode cX10_print 176 = .ok (.putfield 278, 3) := by decide +kernel
theorem dX10_print_179 : decode cX10_print 179 = .ok (.aload_n 0, 1) := by decide +kernel
theorem dX10_print_180 : decode cX10_print 180 = .ok (.lload 6, 2) := by decide +kernel
theorem dX10_print_182 : decode cX10_print 182 = .ok (.lload 10, 2) := by decide +kernel
theorem dX10_print_184 : decode cX10_print 184 = .ok (.ldiv, 1) := by decide +kernel
theorem dX10_print_185 : decode cX10_print 185 = .ok (.invokevirtual 281, 3) := by decide +kernel
theorem dX10_print_188 : decode cX10_print 188 = .ok (.aload_n 0, 1) := by decide +kernel
theorem dX10_print_189 : decode cX10_print 189 = .ok (.getfield 278, 3) := by decide +kernel
theorem dX10_print_192 : decode cX10_print 192 = .ok (.ireturn, 1) := by decide +kernel
theorem dX10_octet_0 : decode cX10_octet 0 = .ok (.aload_n 0, 1) := by decide +kernel
theorem dX10_octet_1 : decode cX10_octet 1 = .ok (.iconst 0, 1) := by decide +kernel
theorem dX10_octet_2 : decode cX10_octet 2 = .ok (.putfield 1, 3) := by decide +kernel
theorem dX10_octet_5 : decode cX10_octet 5 = .ok (.iload_n 1, 1) := by decide +kernel
theorem dX10_octet_6 : decode cX10_octet 6 = .ok (.ifCond .lt 20, 3) := by decide +kernel
theorem dX10_octet_9 : decode cX10_octet 9 = .ok (.iload_n 1, 1) := by decide +kernel
theorem dX10_octet_10 : decode cX10_octet 10 = .ok (.aload_n 0, 1) := by decide +kernel
theorem dX10_octet_11 : decode cX10_octet 11 = .ok (.getfield 278, 3) := by decide +kernel
theorem dX10_octet_14 : decode cX10_octet 14 = .ok (.if_icmp .ge 12, 3) := by decide +kernel
theorem dX10_octet_17 : decode cX10_octet 17 = .ok (.aload_n 0, 1) := by decide +kernel
theorem dX10_octet_18 : decode cX10_octet 18 = .ok (.getfield 100, 3) := by decide +kernel
theorem dX10_octet_21 : decode cX10_octet 21 = .ok (.iload_n 1, 1) := by decide +kernel
theorem dX10_octet_22 : decode cX10_octet 22 = .ok (.iaload, 1) := by decide +kernel
theorem dX10_octet_23 : decode cX10_octet 23 = .ok (.goto 4, 3) := by decide +kernel
theorem dX10_octet_26 : decode cX10_octet 26 = .ok (.iconst (-1), 1) := by decide +kernel
theorem dX10_octet_27 : decode cX10_octet 27 = .ok (.ireturn, 1) := by decide +kernel
theorem dX10_findBars_0 : decode cX10_findBars 0 = .ok (.aload_n 0, 1) := by decide +kernel
theorem dX10_findBars_1 : decode cX10_findBars 1 = .ok (.iconst 0, 1) := by decide +kernel
theorem dX10_findBars_2 : decode cX10_findBars 2 = .ok (.putfield 285, 3) := by decide +kernel
theorem dX10_findBars_5 : decode cX10_findBars 5 = .ok (.iconst 0, 1) := by decide +kernel
theorem dX10_findBars_6 : decode cX10_findBars 6 = .ok (.istore_n 1, 1) := by decide +kernel
theorem dX10_findBars_7 : decode cX10_findBars 7 = .ok (.iload_n 1, 1) := by decide +kernel
theorem dX10_findBars_8 : decode cX10_findBars 8 = .ok (.aload_n 0, 1) := by decide +kernel
theorem dX10_findBars_9 : decode cX10_findBars 9 = .ok (.getfield 181, 3) := by decide +kernel
theorem dX10_findBars_12 : decode cX10_findBars 12 = .ok (.if_icmp .ge 41, 3) := by decide +kernel
theorem dX10_findBars_15 : decode cX10_findBars 15 = .ok (.aload_n 0, 1) := by decide +kernel
theorem dX10_findBars_16 : decode cX10_findBars 16 = .ok (.getfield 39, 3) := by decide +kernel
theorem dX10_findBars_19 : decode cX10_findBars 19 = .ok (.iload_n 1, 1) := by decide +kernel
theorem dX10_findBars_20 : decode cX10_findBars 20 = .ok (.baload, 1) := by decide +kernel
theorem dX10_findBars_21 : decode cX10_findBars 21 = .ok (.ifCond .ne 6, 3) := by decide +kernel
theorem dX10_findBars_24 : decode cX10_findBars 24 = .ok (.goto 23, 3) := by decide +kernel
theorem dX10_findBars_27 : decode cX10_findBars 27 = .ok (.aload_n 0, 1) := by decide +kernel
theorem dX10_findBars_28 : decode cX10_findBars 28 = .ok (.getfield 112, 3) := by decide +kernel
theorem dX10_findBars_31 : decode cX10_findBars 31 = .ok (.aload_n 0, 1) := by decide +kernel
theorem dX10_findBars_32 : decode cX10_findBars 32 = .ok (.getfield 285, 3) := by decide +kernel
theorem dX10_findBars_35 : decode cX10_findBars 35 = .ok (.iload_n 1, 1) := by decide +kernel
theorem dX10_findBars_36 : decode cX10_findBars 36 = .ok (.iastore, 1) := by decide +kernel
theorem dX10_findBars_37 : decode cX10_findBars 37 = .ok (.aload_n 0, 1) := by decide +kernel
theorem dX10_findBars_38 : decode cX10_findBars 38 = .ok (.dup, 1) := by decide +kernel
theorem dX10_findBars_39 : decode cX10_findBars 39 = .ok (.getfield 285, 3) := by decide +kernel
theorem dX10_findBars_42 : decode cX10_findBars 42 = .ok (.iconst 1, 1) := by decide +kernel
theorem dX10_findBars_43 : decode cX10_findBars 43 = .ok (.iadd, 1) := by decide +kernel
theorem dX10_findBars_44 : decode cX10_findBars 44 = .ok (.putfield 285, 3) := by decide +kernel
theorem dX10_findBars_47 : decode cX10_findBars 47 = .ok (.iinc 1 1, 3) := by decide +kernel
theorem dX10_findBars_50 : decode cX10_findBars 50 = .ok (.goto (-43), 3) := by decide +kernel
theorem dX10_findBars_53 : decode cX10_findBars 53 = .ok (.iconst 0, 1) := by decide +kernel
theorem dX10_findBars_54 : decode cX10_findBars 54 = .ok (.istore_n 1, 1) := by decide +kernel
theorem dX10_findBars_55 : decode cX10_findBars 55 = .ok (.iload_n 1, 1) := by decide +kernel
theorem dX10_findBars_56 : decode cX10_findBars 56 = .ok (.aload_n 0, 1) := by decide +kernel
theorem dX10_findBars_57 : decode cX10_findBars 57 = .ok (.getfield 285, 3) := by decide +kernel
theorem dX10_findBars_60 : decode cX10_findBars 60 = .ok (.if_icmp .ge 62, 3) := by decide +kernel
theorem dX10_findBars_63 : decode cX10_findBars 63 = .ok (.iconst 0, 1) := by decide +kernel
theorem dX10_findBars_64 : decode cX10_findBars 64 = .ok (.istore_n 2, 1) := by decide +kernel
theorem dX10_findBars_65 : decode cX10_findBars 65 = .ok (.iload_n 2, 1) := by decide +kernel
theorem dX10_findBars_66 : decode cX10_findBars 66 = .ok (.aload_n 0, 1) := by decide +kernel
theorem dX10_findBars_67 : decode cX10_findBars 67 = .ok (.getfield 285, 3) := by decide +kernel
theorem dX10_findBars_70 : decode cX10_findBars 70 = .ok (.if_icmp .ge 46, 3) := by decide +kernel
theorem dX10_findBars_73 : decode cX10_findBars 73 = .ok (.aload_n 0, 1) := by decide +kernel
theorem dX10_findBars_74 : decode cX10_findBars 74 = .ok (.getfield 103, 3) := by decide +kernel
theorem dX10_findBars_77 : decode cX10_findBars 77 = .ok (.bipush 100, 2) := by decide +kernel
theorem dX10_findBars_79 : decode cX10_findBars 79 = .ok (.aload_n 0, 1) := by decide +kernel
theorem dX10_findBars_80 : decode cX10_findBars 80 = .ok (.getfield 112, 3) := by decide +kernel
theorem dX10_findBars_83 : decode cX10_findBars 83 = .ok (.iload_n 1, 1) := by decide +kernel
theorem dX10_findBars_84 : decode cX10_findBars 84 = .ok (.iaload, 1) := by decide +kernel
theorem dX10_findBars_85 : decode cX10_findBars 85 = .ok (.imul, 1) := by decide +kernel
theorem dX10_findBars_86 : decode cX10_findBars 86 = .ok (.aload_n 0, 1) := by decide +kernel
theorem dX10_findBars_87 : decode cX10_findBars 87 = .ok (.getfield 112, 3) := by decide +kernel
theorem dX10_findBars_90 : decode cX10_findBars 90 = .ok (.iload_n 2, 1) := by decide +kernel
theorem dX10_findBars_91 : decode cX10_findBars 91 = .ok (.iaload, 1) := by decide +kernel
theorem dX10_findBars_92 : decode cX10_findBars 92 = .ok (.iadd, 1) := by decide +kernel
theorem dX10_findBars_93 : decode cX10_findBars 93 = .ok (.aload_n 0, 1) := by decide +kernel
theorem dX10_findBars_94 : decode cX10_findBars 94 = .ok (.aload_n 0, 1) := by decide +kernel
theorem dX10_findBars_95 : decode cX10_findBars 95 = .ok (.getfield 112, 3) := by decide +kernel
theorem dX10_findBars_98 : decode cX10_findBars 98 = .ok (.iload_n 1, 1) := by decide +kernel
theorem dX10_findBars_99 : decode cX10_findBars 99 = .ok (.iaload, 1) := by decide +kernel
theorem dX10_findBars_100 : decode cX10_findBars 100 = .ok (.aload_n 0, 1) := by decide +kernel
theorem dX10_findBars_101 : decode cX10_findBars 101 = .ok (.getfield 112, 3) := by decide +kernel
theorem dX10_findBars_104 : decode cX10_findBars 104 = .ok (.iload_n 2, 1) := by decide +kernel
theorem dX10_findBars_105 : decode cX10_findBars 105 = .ok (.iaload, 1) := by decide +kernel
theorem dX10_findBars_106 : decode cX10_findBars 106 = .ok (.invokevirtual 261, 3) := by decide +kernel
theorem dX10_findBars_109 : decode cX10_findBars 109 = .ok (.bastore, 1) := by decide +kernel
theorem dX10_findBars_110 : decode cX10_findBars 110 = .ok (.iinc 2 1, 3) := by decide +kernel
theorem dX10_findBars_113 : decode cX10_findBars 113 = .ok (.goto (-48), 3) := by decide +kernel
theorem dX10_findBars_116 : decode cX10_findBars 116 = .ok (.iinc 1 1, 3) := by decide +kernel
theorem dX10_findBars_119 : decode cX10_findBars 119 = .ok (.goto (-64), 3) := by decide +kernel
theorem dX10_findBars_122 : decode cX10_findBars 122 = .ok (.return_, 1) := by decide +kernel
