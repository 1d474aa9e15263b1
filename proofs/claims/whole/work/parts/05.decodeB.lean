theorem dX10_init_0 : decode cX10_init 0 = .ok (.aload_n 0, 1) := by decide +kernel
theorem dX10_init_1 : decode cX10_init 1 = .ok (.invokespecial 1, 3) := by decide +kernel
theorem dX10_init_4 : decode cX10_init 4 = .ok (.aload_n 0, 1) := by decide +kernel
theorem dX10_init_5 : decode cX10_init 5 = .ok (.bipush 24, 2) := by decide +kernel
theorem dX10_init_7 : decode cX10_init 7 = .ok (.newarray .int, 2) := by decide +kernel
theorem dX10_init_9 : decode cX10_init 9 = .ok (.putfield 7, 3) := by decide +kernel
theorem dX10_init_12 : decode cX10_init 12 = .ok (.aload_n 0, 1) := by decide +kernel
theorem dX10_init_13 : decode cX10_init 13 = .ok (.sipush 192, 3) := by decide +kernel
theorem dX10_init_16 : decode cX10_init 16 = .ok (.newarray .int, 2) := by decide +kernel
theorem dX10_init_18 : decode cX10_init 18 = .ok (.putfield 13, 3) := by decide +kernel
theorem dX10_init_21 : decode cX10_init 21 = .ok (.aload_n 0, 1) := by decide +kernel
theorem dX10_init_22 : decode cX10_init 22 = .ok (.sipush 192, 3) := by decide +kernel
theorem dX10_init_25 : decode cX10_init 25 = .ok (.newarray .int, 2) := by decide +kernel
theorem dX10_init_27 : decode cX10_init 27 = .ok (.putfield 16, 3) := by decide +kernel
theorem dX10_init_30 : decode cX10_init 30 = .ok (.aload_n 0, 1) := by decide +kernel
theorem dX10_init_31 : decode cX10_init 31 = .ok (.sipush 192, 3) := by decide +kernel
theorem dX10_init_34 : decode cX10_init 34 = .ok (.newarray .int, 2) := by decide +kernel
theorem dX10_init_36 : decode cX10_init 36 = .ok (.putfield 19, 3) := by decide +kernel
theorem dX10_init_39 : decode cX10_init 39 = .ok (.aload_n 0, 1) := by decide +kernel
theorem dX10_init_40 : decode cX10_init 40 = .ok (.bipush 8, 2) := by decide +kernel
theorem dX10_init_42 : decode cX10_init 42 = .ok (.newarray .int, 2) := by decide +kernel
theorem dX10_init_44 : decode cX10_init 44 = .ok (.putfield 22, 3) := by decide +kernel
theorem dX10_init_47 : decode cX10_init 47 = .ok (.aload_n 0, 1) := by decide +kernel
theorem dX10_init_48 : decode cX10_init 48 = .ok (.bipush 8, 2) := by decide +kernel
theorem dX10_init_50 : decode cX10_init 50 = .ok (.newarray .int, 2) := by decide +kernel
theorem dX10_init_52 : decode cX10_init 52 = .ok (.putfield 25, 3) := by decide +kernel
theorem dX10_init_55 : decode cX10_init 55 = .ok (.aload_n 0, 1) := by decide +kernel
theorem dX10_init_56 : decode cX10_init 56 = .ok (.bipush 8, 2) := by decide +kernel
theorem dX10_init_58 : decode cX10_init 58 = .ok (.newarray .int, 2) := by decide +kernel
theorem dX10_init_60 : decode cX10_init 60 = .ok (.putfield 28, 3) := by decide +kernel
theorem dX10_init_63 : decode cX10_init 63 = .ok (.aload_n 0, 1) := by decide +kernel
theorem dX10_init_64 : decode cX10_init 64 = .ok (.sipush 192, 3) := by decide +kernel
theorem dX10_init_67 : decode cX10_init 67 = .ok (.newarray .int, 2) := by decide +kernel
theorem dX10_init_69 : decode cX10_init 69 = .ok (.putfield 31, 3) := by decide +kernel
theorem dX10_init_72 : decode cX10_init 72 = .ok (.aload_n 0, 1) := by decide +kernel
theorem dX10_init_73 : decode cX10_init 73 = .ok (.sipush 192, 3) := by decide +kernel
theorem dX10_init_76 : decode cX10_init 76 = .ok (.newarray .int, 2) := by decide +kernel
theorem dX10_init_78 : decode cX10_init 78 = .ok (.putfield 34, 3) := by decide +kernel
theorem dX10_init_81 : decode cX10_init 81 = .ok (.aload_n 0, 1) := by decide +kernel
theorem dX10_init_82 : decode cX10_init 82 = .ok (.sipush 192, 3) := by decide +kernel
theorem dX10_init_85 : decode cX10_init 85 = .ok (.newarray .int, 2) := by decide +kernel
theorem dX10_init_87 : decode cX10_init 87 = .ok (.putfield 37, 3) := by decide +kernel
theorem dX10_init_90 : decode cX10_init 90 = .ok (.aload_n 0, 1) := by decide +kernel
theorem dX10_init_91 : decode cX10_init 91 = .ok (.bipush 8, 2) := by decide +kernel
theorem dX10_init_93 : decode cX10_init 93 = .ok (.newarray .boolean, 2) := by decide +kernel
theorem dX10_init_95 : decode cX10_init 95 = .ok (.putfield 40, 3) := by decide +kernel
theorem dX10_init_98 : decode cX10_init 98 = .ok (.aload_n 0, 1) := by decide +kernel
theorem dX10_init_99 : decode cX10_init 99 = .ok (.bipush 8, 2) := by decide +kernel
theorem dX10_init_101 : decode cX10_init 101 = .ok (.newarray .int, 2) := by decide +kernel
theorem dX10_init_103 : decode cX10_init 103 = .ok (.putfield 44, 3) := by decide +kernel
theorem dX10_init_106 : decode cX10_init 106 = .ok (.aload_n 0, 1) := by decide +kernel
theorem dX10_init_107 : decode cX10_init 107 = .ok (.bipush 8, 2) := by decide +kernel
theorem dX10_init_109 : decode cX10_init 109 = .ok (.newarray .int, 2) := by decide +kernel
theorem dX10_init_111 : decode cX10_init 111 = .ok (.putfield 47, 3) := by decide +kernel
theorem dX10_init_114 : decode cX10_init 114 = .ok (.aload_n 0, 1) := by decide +kernel
theorem dX10_init_115 : decode cX10_init 115 = .ok (.bipush 8, 2) := by decide +kernel
theorem dX10_init_117 : decode cX10_init 117 = .ok (.newarray .int, 2) := by decide +kernel
theorem dX10_init_119 : decode cX10_init 119 = .ok (.putfield 50, 3) := by decide +kernel
theorem dX10_init_122 : decode cX10_init 122 = .ok (.aload_n 0, 1) := by decide +kernel
theorem dX10_init_123 : decode cX10_init 123 = .ok (.bipush 8, 2) := by decide +kernel
theorem dX10_init_125 : decode cX10_init 125 = .ok (.newarray .long, 2) := by decide +kernel
theorem dX10_init_127 : decode cX10_init 127 = .ok (.putfield 53, 3) := by decide +kernel
theorem dX10_init_130 : decode cX10_init 130 = .ok (.aload_n 0, 1) := by decide +kernel
theorem dX10_init_131 : decode cX10_init 131 = .ok (.bipush 8, 2) := by decide +kernel
theorem dX10_init_133 : decode cX10_init 133 = .ok (.newarray .long, 2) := by decide +kernel
theorem dX10_init_135 : decode cX10_init 135 = .ok (.putfield 57, 3) := by decide +kernel
theorem dX10_init_138 : decode cX10_init 138 = .ok (.aload_n 0, 1) := by decide +kernel
theorem dX10_init_139 : decode cX10_init 139 = .ok (.bipush 8, 2) := by decide +kernel
theorem dX10_init_141 : decode cX10_init 141 = .ok (.newarray .long, 2) := by decide +kernel
theorem dX10_init_143 : decode cX10_init 143 = .ok (.putfield 60, 3) := by decide +kernel
theorem dX10_init_146 : decode cX10_init 146 = .ok (.aload_n 0, 1) := by decide +kernel
theorem dX10_init_147 : decode cX10_init 147 = .ok (.bipush 8, 2) := by decide +kernel
theorem dX10_init_149 : decode cX10_init 149 = .ok (.newarray .long, 2) := by decide +kernel
theorem dX10_init_151 : decode cX10_init 151 = .ok (.putfield 63, 3) := by decide +kernel
theorem dX10_init_154 : decode cX10_init 154 = .ok (.aload_n 0, 1) := by decide +kernel
theorem dX10_init_155 : decode cX10_init 155 = .ok (.sipush 400, 3) := by decide +kernel
theorem dX10_init_158 : decode cX10_init 158 = .ok (.newarray .int, 2) := by decide +kernel
theorem dX10_init_160 : decode cX10_init 160 = .ok (.putfield 66, 3) := by decide +kernel
theorem dX10_init_163 : decode cX10_init 163 = .ok (.aload_n 0, 1) := by decide +kernel
theorem dX10_init_164 : decode cX10_init 164 = .ok (.sipush 400, 3) := by decide +kernel
theorem dX10_init_167 : decode cX10_init 167 = .ok (.newarray .long, 2) := by decide +kernel
theorem dX10_init_169 : decode cX10_init 169 = .ok (.putfield 69, 3) := by decide +kernel
theorem dX10_init_172 : decode cX10_init 172 = .ok (.aload_n 0, 1) := by decide +kernel
theorem dX10_init_173 : decode cX10_init 173 = .ok (.sipush 400, 3) := by decide +kernel
theorem dX10_init_176 : decode cX10_init 176 = .ok (.newarray .int, 2) := by decide +kernel
theorem dX10_init_178 : decode cX10_init 178 = .ok (.putfield 72, 3) := by decide +kernel
theorem dX10_init_181 : decode cX10_init 181 = .ok (.aload_n 0, 1) := by decide +kernel
theorem dX10_init_182 : decode cX10_init 182 = .ok (.bipush 32, 2) := by decide +kernel
theorem dX10_init_184 : decode cX10_init 184 = .ok (.newarray .int, 2) := by decide +kernel
theorem dX10_init_186 : decode cX10_init 186 = .ok (.putfield 75, 3) := by decide +kernel
theorem dX10_init_189 : decode cX10_init 189 = .ok (.aload_n 0, 1) := by decide +kernel
theorem dX10_init_190 : decode cX10_init 190 = .ok (.bipush 32, 2) := by decide +kernel
theorem dX10_init_192 : decode cX10_init 192 = .ok (.newarray .int, 2) := by decide +kernel
theorem dX10_init_194 : decode cX10_init 194 = .ok (.putfield 78, 3) := by decide +kernel
theorem dX10_init_197 : decode cX10_init 197 = .ok (.aload_n 0, 1) := by decide +kernel
theorem dX10_init_198 : decode cX10_init 198 = .ok (.bipush 32, 2) := by decide +kernel
theorem dX10_init_200 : decode cX10_init 200 = .ok (.newarray .int, 2) := by decide +kernel
theorem dX10_init_202 : decode cX10_init 202 = .ok (.putfield 81, 3) := by decide +kernel
theorem dX10_init_205 : decode cX10_init 205 = .ok (.aload_n 0, 1) := by decide +kernel
theorem dX10_init_206 : decode cX10_init 206 = .ok (.bipush 32, 2) := by decide +kernel
theorem dX10_init_208 : decode cX10_init 208 = .ok (.newarray .boolean, 2) := by decide +kernel
theorem dX10_init_210 : decode cX10_init 210 = .ok (.putfield 84, 3) := by decide +kernel
theorem dX10_init_213 : decode cX10_init 213 = .ok (.aload_n 0, 1) := by decide +kernel
theorem dX10_init_214 : decode cX10_init 214 = .ok (.bipush 32, 2) := by decide +kernel
theorem dX10_init_216 : decode cX10_init 216 = .ok (.newarray .int, 2) := by decide +kernel
theorem dX10_init_218 : decode cX10_init 218 = .ok (.putfield 87, 3) := by decide +kernel
theorem dX10_init_221 : decode cX10_init 221 = .ok (.aload_n 0, 1) := by decide +kernel
theorem dX10_init_222 : decode cX10_init 222 = .ok (.sipush 192, 3) := by decide +kernel
theorem dX10_init_225 : decode cX10_init 225 = .ok (.newarray .int, 2) := by decide +kernel
theorem dX10_init_227 : decode cX10_init 227 = .ok (.putfield 90, 3) := by decide +kernel
theorem dX10_init_230 : decode cX10_init 230 = .ok (.aload_n 0, 1) := by decide +kernel
theorem dX10_init_231 : decode cX10_init 231 = .ok (.bipush 16, 2) := by decide +kernel
theorem dX10_init_233 : decode cX10_init 233 = .ok (.newarray .int, 2) := by decide +kernel
theorem dX10_init_235 : decode cX10_init 235 = .ok (.putfield 93, 3) := by decide +kernel
theorem dX10_init_238 : decode cX10_init 238 = .ok (.aload_n 0, 1) := by decide +kernel
theorem dX10_init_239 : decode cX10_init 239 = .ok (.bipush 16, 2) := by decide +kernel
theorem dX10_init_241 : decode cX10_init 241 = .ok (.newarray .int, 2) := by decide +kernel
theorem dX10_init_243 : decode cX10_init 243 = .ok (.putfield 96, 3) := by decide +kernel
theorem dX10_init_246 : decode cX10_init 246 = .ok (.aload_n 0, 1) := by decide +kernel
theorem dX10_init_247 : decode cX10_init 247 = .ok (.bipush 96, 2) := by decide +kernel
theorem dX10_init_249 : decode cX10_init 249 = .ok (.newarray .int, 2) := by decide +kernel
theorem dX10_init_251 : decode cX10_init 251 = .ok (.putfield 99, 3) := by decide +kernel
theorem dX10_init_254 : decode cX10_init 254 = .ok (.aload_n 0, 1) := by decide +kernel
theorem dX10_init_255 : decode cX10_init 255 = .ok (.bipush 96, 2) := by decide +kernel
theorem dX10_init_257 : decode cX10_init 257 = .ok (.newarray .int, 2) := by decide +kernel
theorem dX10_init_259 : decode cX10_init 259 = .ok (.putfield 102, 3) := by decide +kernel
theorem dX10_init_262 : decode cX10_init 262 = .ok (.aload_n 0, 1) := by decide +kernel
theorem dX10_init_263 : decode cX10_init 263 = .ok (.bipush 96, 2) := by decide +kernel
theorem dX10_init_265 : decode cX10_init 265 = .ok (.newarray .int, 2) := by decide +kernel
theorem dX10_init_267 : decode cX10_init 267 = .ok (.putfield 105, 3) := by decide +kernel
theorem dX10_init_270 : decode cX10_init 270 = .ok (.aload_n 0, 1) := by decide +kernel
theorem dX10_init_271 : decode cX10_init 271 = .ok (.sipush 300, 3) := by decide +kernel
theorem dX10_init_274 : decode cX10_init 274 = .ok (.newarray .int, 2) := by decide +kernel
theorem dX10_init_276 : decode cX10_init 276 = .ok (.putfield 108, 3) := by decide +kernel
theorem dX10_init_279 : decode cX10_init 279 = .ok (.aload_n 0, 1) := by decide +kernel
theorem dX10_init_280 : decode cX10_init 280 = .ok (.sipush 300, 3) := by decide +kernel
theorem dX10_init_283 : decode cX10_init 283 = .ok (.newarray .int, 2) := by decide +kernel
theorem dX10_init_285 : decode cX10_init 285 = .ok (.putfield 111, 3) := by decide +kernel
theorem dX10_init_288 : decode cX10_init 288 = .ok (.aload_n 0, 1) := by decide +kernel
theorem dX10_init_289 : decode cX10_init 289 = .ok (.sipush 300, 3) := by decide +kernel
theorem dX10_init_292 : decode cX10_init 292 = .ok (.newarray .int, 2) := by decide +kernel
theorem dX10_init_294 : decode cX10_init 294 = .ok (.putfield 114, 3) := by decide +kernel
theorem dX10_init_297 : decode cX10_init 297 = .ok (.aload_n 0, 1) := by decide +kernel
theorem dX10_init_298 : decode cX10_init 298 = .ok (.bipush 80, 2) := by decide +kernel
theorem dX10_init_300 : decode cX10_init 300 = .ok (.newarray .int, 2) := by decide +kernel
theorem dX10_init_302 : decode cX10_init 302 = .ok (.putfield 117, 3) := by decide +kernel
theorem dX10_init_305 : decode cX10_init 305 = .ok (.aload_n 0, 1) := by decide +kernel
theorem dX10_init_306 : decode cX10_init 306 = .ok (.bipush 80, 2) := by decide +kernel
theorem dX10_init_308 : decode cX10_init 308 = .ok (.newarray .int, 2) := by decide +kernel
theorem dX10_init_310 : decode cX10_init 310 = .ok (.putfield 120, 3) := by decide +kernel
theorem dX10_init_313 : decode cX10_init 313 = .ok (.aload_n 0, 1) := by decide +kernel
theorem dX10_init_314 : decode cX10_init 314 = .ok (.bipush 80, 2) := by decide +kernel
theorem dX10_init_316 : decode cX10_init 316 = .ok (.newarray .int, 2) := by decide +kernel
theorem dX10_init_318 : decode cX10_init 318 = .ok (.putfield 123, 3) := by decide +kernel
theorem dX10_init_321 : decode cX10_init 321 = .ok (.aload_n 0, 1) := by decide +kernel
theorem dX10_init_322 : decode cX10_init 322 = .ok (.bipush 80, 2) := by decide +kernel
theorem dX10_init_324 : decode cX10_init 324 = .ok (.newarray .int, 2) := by decide +kernel
theorem dX10_init_326 : decode cX10_init 326 = .ok (.putfield 126, 3) := by decide +kernel
theorem dX10_init_329 : decode cX10_init 329 = .ok (.aload_n 0, 1) := by decide +kernel
theorem dX10_init_330 : decode cX10_init 330 = .ok (.bipush 80, 2) := by decide +kernel
theorem dX10_init_332 : decode cX10_init 332 = .ok (.newarray .boolean, 2) := by decide +kernel
theorem dX10_init_334 : decode cX10_init 334 = .ok (.putfield 129, 3) := by decide +kernel
theorem dX10_init_337 : decode cX10_init 337 = .ok (.aload_n 0, 1) := by decide +kernel
theorem dX10_init_338 : decode cX10_init 338 = .ok (.iload_n 1, 1) := by decide +kernel
theorem dX10_init_339 : decode cX10_init 339 = .ok (.iconst 1, 1) := by decide +kernel
theorem dX10_init_340 : decode cX10_init 340 = .ok (.if_icmp .lt 9, 3) := by decide +kernel
theorem dX10_init_343 : decode cX10_init 343 = .ok (.iload_n 1, 1) := by decide +kernel
theorem dX10_init_344 : decode cX10_init 344 = .ok (.bipush 8, 2) := by decide +kernel
theorem dX10_init_346 : decode cX10_init 346 = .ok (.if_icmp .le 7, 3) := by decide +kernel
theorem dX10_init_349 : decode cX10_init 349 = .ok (.iconst 1, 1) := by decide +kernel
theorem dX10_init_350 : decode cX10_init 350 = .ok (.goto 4, 3) := by decide +kernel
theorem dX10_init_353 : decode cX10_init 353 = .ok (.iload_n 1, 1) := by decide +kernel
theorem dX10_init_354 : decode cX10_init 354 = .ok (.putfield 132, 3) := by decide +kernel
theorem dX10_init_357 : decode cX10_init 357 = .ok (.iconst 0, 1) := by decide +kernel
theorem dX10_init_358 : decode cX10_init 358 = .ok (.istore_n 2, 1) := by decide +kernel
theorem dX10_init_359 : decode cX10_init 359 = .ok (.iload_n 2, 1) := by decide +kernel
theorem dX10_init_360 : decode cX10_init 360 = .ok (.bipush 8, 2) := by decide +kernel
theorem dX10_init_362 : decode cX10_init 362 = .ok (.if_icmp .ge 16, 3) := by decide +kernel
theorem dX10_init_365 : decode cX10_init 365 = .ok (.aload_n 0, 1) := by decide +kernel
theorem dX10_init_366 : decode cX10_init 366 = .ok (.getfield 22, 3) := by decide +kernel
theorem dX10_init_369 : decode cX10_init 369 = .ok (.iload_n 2, 1) := by decide +kernel
theorem dX10_init_370 : decode cX10_init 370 = .ok (.iconst 1, 1) := by decide +kernel
theorem dX10_init_371 : decode cX10_init 371 = .ok (.iastore, 1) := by decide +kernel
theorem dX10_init_372 : decode cX10_init 372 = .ok (.iinc 2 1, 3) := by decide +kernel
theorem dX10_init_375 : decode cX10_init 375 = .ok (.goto (-16), 3) := by decide +kernel
theorem dX10_init_378 : decode cX10_init 378 = .ok (.return_, 1) := by decide +kernel
theorem dX10_thrown_0 : decode cX10_thrown 0 = .ok (.aload_n 0, 1) := by decide +kernel
theorem dX10_thrown_1 : decode cX10_thrown 1 = .ok (.getfield 136, 3) := by decide +kernel
theorem dX10_thrown_4 : decode cX10_thrown 4 = .ok (.ireturn, 1) := by decide +kernel
theorem dX10_throwing_0 : decode cX10_throwing 0 = .ok (.aload_n 0, 1) := by decide +kernel
theorem dX10_throwing_1 : decode cX10_throwing 1 = .ok (.iload_n 1, 1) := by decide +kernel
theorem dX10_throwing_2 : decode cX10_throwing 2 = .ok (.ifCond .eq 7, 3) := by decide +kernel
theorem dX10_throwing_5 : decode cX10_throwing 5 = .ok (.iconst 1, 1) := by decide +kernel
theorem dX10_throwing_6 : decode cX10_throwing 6 = .ok (.goto 12, 3) := by decide +kernel
theorem dX10_throwing_9 : decode cX10_throwing 9 = .ok (.iload_n 2, 1) := by decide +kernel
theorem dX10_throwing_10 : decode cX10_throwing 10 = .ok (.ifCond .eq 7, 3) := by decide +kernel
theorem dX10_throwing_13 : decode cX10_throwing 13 = .ok (.iconst 2, 1) := by decide +kernel
theorem dX10_throwing_14 : decode cX10_throwing 14 = .ok (.goto 4, 3) := by decide +kernel
theorem dX10_throwing_17 : decode cX10_throwing 17 = .ok (.iconst 0, 1) := by decide +kernel
theorem dX10_throwing_18 : decode cX10_throwing 18 = .ok (.putfield 136, 3) := by decide +kernel
theorem dX10_throwing_21 : decode cX10_throwing 21 = .ok (.aload_n 0, 1) := by decide +kernel
theorem dX10_throwing_22 : decode cX10_throwing 22 = .ok (.getfield 136, 3) := by decide +kernel
theorem dX10_throwing_25 : decode cX10_throwing 25 = .ok (.ifCond .le 7, 3) := by decide +kernel
theorem dX10_throwing_28 : decode cX10_throwing 28 = .ok (.iconst 1, 1) := by decide +kernel
theorem dX10_throwing_29 : decode cX10_throwing 29 = .ok (.goto 4, 3) := by decide +kernel
theorem dX10_throwing_32 : decode cX10_throwing 32 = .ok (.iconst 0, 1) := by decide +kernel
theorem dX10_throwing_33 : decode cX10_throwing 33 = .ok (.ireturn, 1) := by decide +kernel
theorem dX10_in_0 : decode cX10_in 0 = .ok (.lload_n 0, 1) := by decide +kernel
theorem dX10_in_1 : decode cX10_in 1 = .ok (.lload_n 2, 1) := by decide +kernel
theorem dX10_in_2 : decode cX10_in 2 = .ok (.lcmp, 1) := by decide +kernel
theorem dX10_in_3 : decode cX10_in 3 = .ok (.ifCond .lt 14, 3) := by decide +kernel
theorem dX10_in_6 : decode cX10_in 6 = .ok (.lload_n 0, 1) := by decide +kernel
theorem dX10_in_7 : decode cX10_in 7 = .ok (.lload 4, 2) := by decide +kernel
theorem dX10_in_9 : decode cX10_in 9 = .ok (.lcmp, 1) := by decide +kernel
theorem dX10_in_10 : decode cX10_in 10 = .ok (.ifCond .gt 7, 3) := by decide +kernel
theorem dX10_in_13 : decode cX10_in 13 = .ok (.iconst 1, 1) := by decide +kernel
theorem dX10_in_14 : decode cX10_in 14 = .ok (.goto 4, 3) := by decide +kernel
theorem dX10_in_17 : decode cX10_in 17 = .ok (.iconst 0, 1) := by decide +kernel
theorem dX10_in_18 : decode cX10_in 18 = .ok (.ireturn, 1) := by decide +kernel
theorem dX10_isTask_0 : decode cX10_isTask 0 = .ok (.iload_n 1, 1) := by decide +kernel
theorem dX10_isTask_1 : decode cX10_isTask 1 = .ok (.i2l, 1) := by decide +kernel
theorem dX10_isTask_2 : decode cX10_isTask 2 = .ok (.lconst 0, 1) := by decide +kernel
theorem dX10_isTask_3 : decode cX10_isTask 3 = .ok (.aload_n 0, 1) := by decide +kernel
theorem dX10_isTask_4 : decode cX10_isTask 4 = .ok (.getfield 139, 3) := by decide +kernel
theorem dX10_isTask_7 : decode cX10_isTask 7 = .ok (.iconst 1, 1) := by decide +kernel
theorem dX10_isTask_8 : decode cX10_isTask 8 = .ok (.isub, 1) := by decide +kernel
theorem dX10_isTask_9 : decode cX10_isTask 9 = .ok (.i2l, 1) := by decide +kernel
theorem dX10_isTask_10 : decode cX10_isTask 10 = .ok (.invokestatic 142, 3) := by decide +kernel
theorem dX10_isTask_13 : decode cX10_isTask 13 = .ok (.ireturn, 1) := by decide +kernel
theorem dX10_isLoop_0 : decode cX10_isLoop 0 = .ok (.iload_n 1, 1) := by decide +kernel
theorem dX10_isLoop_1 : decode cX10_isLoop 1 = .ok (.i2l, 1) := by decide +kernel
theorem dX10_isLoop_2 : decode cX10_isLoop 2 = .ok (.lconst 0, 1) := by decide +kernel
theorem dX10_isLoop_3 : decode cX10_isLoop 3 = .ok (.aload_n 0, 1) := by decide +kernel
theorem dX10_isLoop_4 : decode cX10_isLoop 4 = .ok (.getfield 132, 3) := by decide +kernel
theorem dX10_isLoop_7 : decode cX10_isLoop 7 = .ok (.iconst 1, 1) := by decide +kernel
theorem dX10_isLoop_8 : decode cX10_isLoop 8 = .ok (.isub, 1) := by decide +kernel
theorem dX10_isLoop_9 : decode cX10_isLoop 9 = .ok (.i2l, 1) := by decide +kernel
theorem dX10_isLoop_10 : decode cX10_isLoop 10 = .ok (.invokestatic 142, 3) := by decide +kernel
theorem dX10_isLoop_13 : decode cX10_isLoop 13 = .ok (.ireturn, 1) := by decide +kernel
theorem dX10_isPromise_0 : decode cX10_isPromise 0 = .ok (.iload_n 1, 1) := by decide +kernel
theorem dX10_isPromise_1 : decode cX10_isPromise 1 = .ok (.i2l, 1) := by decide +kernel
theorem dX10_isPromise_2 : decode cX10_isPromise 2 = .ok (.lconst 0, 1) := by decide +kernel
theorem dX10_isPromise_3 : decode cX10_isPromise 3 = .ok (.aload_n 0, 1) := by decide +kernel
theorem dX10_isPromise_4 : decode cX10_isPromise 4 = .ok (.getfield 146, 3) := by decide +kernel
theorem dX10_isPromise_7 : decode cX10_isPromise 7 = .ok (.iconst 1, 1) := by decide +kernel
theorem dX10_isPromise_8 : decode cX10_isPromise 8 = .ok (.isub, 1) := by decide +kernel
theorem dX10_isPromise_9 : decode cX10_isPromise 9 = .ok (.i2l, 1) := by decide +kernel
theorem dX10_isPromise_10 : decode cX10_isPromise 10 = .ok (.invokestatic 142, 3) := by decide +kernel
theorem dX10_isPromise_13 : decode cX10_isPromise 13 = .ok (.ireturn, 1) := by decide +kernel
theorem dX10_isChannel_0 : decode cX10_isChannel 0 = .ok (.iload_n 1, 1) := by decide +kernel
theorem dX10_isChannel_1 : decode cX10_isChannel 1 = .ok (.i2l, 1) := by decide +kernel
theorem dX10_isChannel_2 : decode cX10_isChannel 2 = .ok (.lconst 0, 1) := by decide +kernel
theorem dX10_isChannel_3 : decode cX10_isChannel 3 = .ok (.aload_n 0, 1) := by decide +kernel
theorem dX10_isChannel_4 : decode cX10_isChannel 4 = .ok (.getfield 149, 3) := by decide +kernel
theorem dX10_isChannel_7 : decode cX10_isChannel 7 = .ok (.iconst 1, 1) := by decide +kernel
theorem dX10_isChannel_8 : decode cX10_isChannel 8 = .ok (.isub, 1) := by decide +kernel
theorem dX10_isChannel_9 : decode cX10_isChannel 9 = .ok (.i2l, 1) := by decide +kernel
theorem dX10_isChannel_10 : decode cX10_isChannel 10 = .ok (.invokestatic 142, 3) := by decide +kernel
theorem dX10_isChannel_13 : decode cX10_isChannel 13 = .ok (.ireturn, 1) := by decide +kernel
theorem dX10_log_0 : decode cX10_log 0 = .ok (.aload_n 0, 1) := by decide +kernel
theorem dX10_log_1 : decode cX10_log 1 = .ok (.getfield 108, 3) := by decide +kernel
theorem dX10_log_4 : decode cX10_log 4 = .ok (.aload_n 0, 1) := by decide +kernel
theorem dX10_log_5 : decode cX10_log 5 = .ok (.getfield 152, 3) := by decide +kernel
theorem dX10_log_8 : decode cX10_log 8 = .ok (.sipush 300, 3) := by decide +kernel
theorem dX10_log_11 : decode cX10_log 11 = .ok (.irem, 1) := by decide +kernel
theorem dX10_log_12 : decode cX10_log 12 = .ok (.iload_n 1, 1) := by decide +kernel
theorem dX10_log_13 : decode cX10_log 13 = .ok (.iastore, 1) := by decide +kernel
theorem dX10_log_14 : decode cX10_log 14 = .ok (.aload_n 0, 1) := by decide +kernel
theorem dX10_log_15 : decode cX10_log 15 = .ok (.getfield 111, 3) := by decide +kernel
theorem dX10_log_18 : decode cX10_log 18 = .ok (.aload_n 0, 1) := by decide +kernel
theorem dX10_log_19 : decode cX10_log 19 = .ok (.getfield 152, 3) := by decide +kernel
theorem dX10_log_22 : decode cX10_log 22 = .ok (.sipush 300, 3) := by decide +kernel
theorem dX10_log_25 : decode cX10_log 25 = .ok (.irem, 1) := by decide +kernel
theorem dX10_log_26 : decode cX10_log 26 = .ok (.iload_n 2, 1) := by decide +kernel
theorem dX10_log_27 : decode cX10_log 27 = .ok (.iastore, 1) := by decide +kernel
theorem dX10_log_28 : decode cX10_log 28 = .ok (.aload_n 0, 1) := by decide +kernel
theorem dX10_log_29 : decode cX10_log 29 = .ok (.getfield 114, 3) := by decide +kernel
theorem dX10_log_32 : decode cX10_log 32 = .ok (.aload_n 0, 1) := by decide +kernel
theorem dX10_log_33 : decode cX10_log 33 = .ok (.getfield 152, 3) := by decide +kernel
theorem dX10_log_36 : decode cX10_log 36 = .ok (.sipush 300, 3) := by decide +kernel
theorem dX10_log_39 : decode cX10_log 39 = .ok (.irem, 1) := by decide +kernel
theorem dX10_log_40 : decode cX10_log 40 = .ok (.iload_n 3, 1) := by decide +kernel
theorem dX10_log_41 : decode cX10_log 41 = .ok (.iastore, 1) := by decide +kernel
theorem dX10_log_42 : decode cX10_log 42 = .ok (.aload_n 0, 1) := by decide +kernel
theorem dX10_log_43 : decode cX10_log 43 = .ok (.dup, 1) := by decide +kernel
theorem dX10_log_44 : decode cX10_log 44 = .ok (.getfield 152, 3) := by decide +kernel
theorem dX10_log_47 : decode cX10_log 47 = .ok (.iconst 1, 1) := by decide +kernel
theorem dX10_log_48 : decode cX10_log 48 = .ok (.iadd, 1) := by decide +kernel
theorem dX10_log_49 : decode cX10_log 49 = .ok (.putfield 152, 3) := by decide +kernel
theorem dX10_log_52 : decode cX10_log 52 = .ok (.return_, 1) := by decide +kernel
theorem dX10_become_0 : decode cX10_become 0 = .ok (.aload_n 0, 1) := by decide +kernel
theorem dX10_become_1 : decode cX10_become 1 = .ok (.getfield 22, 3) := by decide +kernel
theorem dX10_become_4 : decode cX10_become 4 = .ok (.iload_n 1, 1) := by decide +kernel
theorem dX10_become_5 : decode cX10_become 5 = .ok (.iload_n 2, 1) := by decide +kernel
theorem dX10_become_6 : decode cX10_become 6 = .ok (.iastore, 1) := by decide +kernel
theorem dX10_become_7 : decode cX10_become 7 = .ok (.aload_n 0, 1) := by decide +kernel
theorem dX10_become_8 : decode cX10_become 8 = .ok (.iload_n 1, 1) := by decide +kernel
theorem dX10_become_9 : decode cX10_become 9 = .ok (.bipush 7, 2) := by decide +kernel
theorem dX10_become_11 : decode cX10_become 11 = .ok (.iload_n 2, 1) := by decide +kernel
theorem dX10_become_12 : decode cX10_become 12 = .ok (.invokevirtual 155, 3) := by decide +kernel
theorem dX10_become_15 : decode cX10_become 15 = .ok (.return_, 1) := by decide +kernel
theorem dX10_task_0 : decode cX10_task 0 = .ok (.aload_n 0, 1) := by decide +kernel
theorem dX10_task_1 : decode cX10_task 1 = .ok (.aload_n 0, 1) := by decide +kernel
theorem dX10_task_2 : decode cX10_task 2 = .ok (.getfield 139, 3) := by decide +kernel
theorem dX10_task_5 : decode cX10_task 5 = .ok (.bipush 24, 2) := by decide +kernel
theorem dX10_task_7 : decode cX10_task 7 = .ok (.if_icmp .ne 7, 3) := by decide +kernel
theorem dX10_task_10 : decode cX10_task 10 = .ok (.iconst 1, 1) := by decide +kernel
theorem dX10_task_11 : decode cX10_task 11 = .ok (.goto 4, 3) := by decide +kernel
theorem dX10_task_14 : decode cX10_task 14 = .ok (.iconst 0, 1) := by decide +kernel
theorem dX10_task_15 : decode cX10_task 15 = .ok (.iconst 0, 1) := by decide +kernel
theorem dX10_task_16 : decode cX10_task 16 = .ok (.invokevirtual 159, 3) := by decide +kernel
theorem dX10_task_19 : decode cX10_task 19 = .ok (.ifCond .eq 5, 3) := by decide +kernel
theorem dX10_task_22 : decode cX10_task 22 = .ok (.iconst 0, 1) := by decide +kernel
theorem dX10_task_23 : decode cX10_task 23 = .ok (.ireturn, 1) := by decide +kernel
theorem dX10_task_24 : decode cX10_task 24 = .ok (.aload_n 0, 1) := by decide +kernel
theorem dX10_task_25 : decode cX10_task 25 = .ok (.dup, 1) := by decide +kernel
theorem dX10_task_26 : decode cX10_task 26 = .ok (.getfield 139, 3) := by decide +kernel
theorem dX10_task_29 : decode cX10_task 29 = .ok (.iconst 1, 1) := by decide +kernel
theorem dX10_task_30 : decode cX10_task 30 = .ok (.iadd, 1) := by decide +kernel
theorem dX10_task_31 : decode cX10_task 31 = .ok (.putfield 139, 3) := by decide +kernel
theorem dX10_task_34 : decode cX10_task 34 = .ok (.aload_n 0, 1) := by decide +kernel
theorem dX10_task_35 : decode cX10_task 35 = .ok (.getfield 139, 3) := by decide +kernel
theorem dX10_task_38 : decode cX10_task 38 = .ok (.iconst 1, 1) := by decide +kernel
theorem dX10_task_39 : decode cX10_task 39 = .ok (.isub, 1) := by decide +kernel
theorem dX10_task_40 : decode cX10_task 40 = .ok (.ireturn, 1) := by decide +kernel
theorem dX10_order_0 : decode cX10_order 0 = .ok (.aload_n 0, 1) := by decide +kernel
theorem dX10_order_1 : decode cX10_order 1 = .ok (.iload_n 1, 1) := by decide +kernel
theorem dX10_order_2 : decode cX10_order 2 = .ok (.invokevirtual 163, 3) := by decide +kernel
theorem dX10_order_5 : decode cX10_order 5 = .ok (.ifCond .eq 15, 3) := by decide +kernel
theorem dX10_order_8 : decode cX10_order 8 = .ok (.iload_n 2, 1) := by decide +kernel
theorem dX10_order_9 : decode cX10_order 9 = .ok (.i2l, 1) := by decide +kernel
theorem dX10_order_10 : decode cX10_order 10 = .ok (.lconst 0, 1) := by decide +kernel
theorem dX10_order_11 : decode cX10_order 11 = .ok (.ldc2_w 167, 3) := by decide +kernel
theorem dX10_order_14 : decode cX10_order 14 = .ok (.invokestatic 142, 3) := by decide +kernel
theorem dX10_order_17 : decode cX10_order 17 = .ok (.ifCond .ne 7, 3) := by decide +kernel
theorem dX10_order_20 : decode cX10_order 20 = .ok (.iconst 1, 1) := by decide +kernel
theorem dX10_order_21 : decode cX10_order 21 = .ok (.goto 4, 3) := by decide +kernel
theorem dX10_order_24 : decode cX10_order 24 = .ok (.iconst 0, 1) := by decide +kernel
theorem dX10_order_25 : decode cX10_order 25 = .ok (.istore 5, 2) := by decide +kernel
theorem dX10_order_27 : decode cX10_order 27 = .ok (.aload_n 0, 1) := by decide +kernel
theorem dX10_order_28 : decode cX10_order 28 = .ok (.iload 5, 2) := by decide +kernel
theorem dX10_order_30 : decode cX10_order 30 = .ok (.iload 5, 2) := by decide +kernel
theorem dX10_order_32 : decode cX10_order 32 = .ok (.ifCond .ne 18, 3) := by decide +kernel
theorem dX10_order_35 : decode cX10_order 35 = .ok (.aload_n 0, 1) := by decide +kernel
theorem dX10_order_36 : decode cX10_order 36 = .ok (.getfield 7, 3) := by decide +kernel
theorem dX10_order_39 : decode cX10_order 39 = .ok (.iload_n 1, 1) := by decide +kernel
theorem dX10_order_40 : decode cX10_order 40 = .ok (.iaload, 1) := by decide +kernel
theorem dX10_order_41 : decode cX10_order 41 = .ok (.bipush 8, 2) := by decide +kernel
theorem dX10_order_43 : decode cX10_order 43 = .ok (.if_icmp .ne 7, 3) := by decide +kernel
theorem dX10_order_46 : decode cX10_order 46 = .ok (.iconst 1, 1) := by decide +kernel
theorem dX10_order_47 : decode cX10_order 47 = .ok (.goto 4, 3) := by decide +kernel
theorem dX10_order_50 : decode cX10_order 50 = .ok (.iconst 0, 1) := by decide +kernel
theorem dX10_order_51 : decode cX10_order 51 = .ok (.invokevirtual 159, 3) := by decide +kernel
theorem dX10_order_54 : decode cX10_order 54 = .ok (.ifCond .eq 5, 3) := by decide +kernel
theorem dX10_order_57 : decode cX10_order 57 = .ok (.iconst 0, 1) := by decide +kernel
theorem dX10_order_58 : decode cX10_order 58 = .ok (.ireturn, 1) := by decide +kernel
theorem dX10_order_59 : decode cX10_order 59 = .ok (.bipush 8, 2) := by decide +kernel
theorem dX10_order_61 : decode cX10_order 61 = .ok (.iload_n 1, 1) := by decide +kernel
theorem dX10_order_62 : decode cX10_order 62 = .ok (.imul, 1) := by decide +kernel
theorem dX10_order_63 : decode cX10_order 63 = .ok (.aload_n 0, 1) := by decide +kernel
theorem dX10_order_64 : decode cX10_order 64 = .ok (.getfield 7, 3) := by decide +kernel
theorem dX10_order_67 : decode cX10_order 67 = .ok (.iload_n 1, 1) := by decide +kernel
theorem dX10_order_68 : decode cX10_order 68 = .ok (.iaload, 1) := by decide +kernel
theorem dX10_order_69 : decode cX10_order 69 = .ok (.iadd, 1) := by decide +kernel
theorem dX10_order_70 : decode cX10_order 70 = .ok (.istore 6, 2) := by decide +kernel
theorem dX10_order_72 : decode cX10_order 72 = .ok (.aload_n 0, 1) := by decide +kernel
theorem dX10_order_73 : decode cX10_order 73 = .ok (.getfield 13, 3) := by decide +kernel
theorem dX10_order_76 : decode cX10_order 76 = .ok (.iload 6, 2) := by decide +kernel
theorem dX10_order_78 : decode cX10_order 78 = .ok (.iload_n 2, 1) := by decide +kernel
theorem dX10_order_79 : decode cX10_order 79 = .ok (.iastore, 1) := by decide +kernel
theorem dX10_order_80 : decode cX10_order 80 = .ok (.aload_n 0, 1) := by decide +kernel
theorem dX10_order_81 : decode cX10_order 81 = .ok (.getfield 16, 3) := by decide +kernel
theorem dX10_order_84 : decode cX10_order 84 = .ok (.iload 6, 2) := by decide +kernel
theorem dX10_order_86 : decode cX10_order 86 = .ok (.iload_n 3, 1) := by decide +kernel
theorem dX10_order_87 : decode cX10_order 87 = .ok (.iastore, 1) := by decide +kernel
theorem dX10_order_88 : decode cX10_order 88 = .ok (.aload_n 0, 1) := by decide +kernel
theorem dX10_order_89 : decode cX10_order 89 = .ok (.getfield 19, 3) := by decide +kernel
theorem dX10_order_92 : decode cX10_order 92 = .ok (.iload 6, 2) := by decide +kernel
theorem dX10_order_94 : decode cX10_order 94 = .ok (.iload 4, 2) := by decide +kernel
theorem dX10_order_96 : decode cX10_order 96 = .ok (.iastore, 1) := by decide +kernel
theorem dX10_order_97 : decode cX10_order 97 = .ok (.aload_n 0, 1) := by decide +kernel
theorem dX10_order_98 : decode cX10_order 98 = .ok (.getfield 7, 3) := by decide +kernel
theorem dX10_order_101 : decode cX10_order 101 = .ok (.iload_n 1, 1) := by decide +kernel
theorem dX10_order_102 : decode cX10_order 102 = .ok (.dup2, 1) := by decide +kernel
theorem dX10_order_103 : decode cX10_order 103 = .ok (.iaload, 1) := by decide +kernel
theorem dX10_order_104 : decode cX10_order 104 = .ok (.iconst 1, 1) := by decide +kernel
theorem dX10_order_105 : decode cX10_order 105 = .ok (.iadd, 1) := by decide +kernel
theorem dX10_order_106 : decode cX10_order 106 = .ok (.iastore, 1) := by decide +kernel
theorem dX10_order_107 : decode cX10_order 107 = .ok (.aload_n 0, 1) := by decide +kernel
theorem dX10_order_108 : decode cX10_order 108 = .ok (.getfield 7, 3) := by decide +kernel
theorem dX10_order_111 : decode cX10_order 111 = .ok (.iload_n 1, 1) := by decide +kernel
theorem dX10_order_112 : decode cX10_order 112 = .ok (.iaload, 1) := by decide +kernel
theorem dX10_order_113 : decode cX10_order 113 = .ok (.ireturn, 1) := by decide +kernel
theorem dX10_promise_0 : decode cX10_promise 0 = .ok (.aload_n 0, 1) := by decide +kernel
theorem dX10_promise_1 : decode cX10_promise 1 = .ok (.iload_n 1, 1) := by decide +kernel
theorem dX10_promise_2 : decode cX10_promise 2 = .ok (.invokevirtual 169, 3) := by decide +kernel
theorem dX10_promise_5 : decode cX10_promise 5 = .ok (.ifCond .ne 7, 3) := by decide +kernel
theorem dX10_promise_8 : decode cX10_promise 8 = .ok (.iconst 1, 1) := by decide +kernel
theorem dX10_promise_9 : decode cX10_promise 9 = .ok (.goto 4, 3) := by decide +kernel
theorem dX10_promise_12 : decode cX10_promise 12 = .ok (.iconst 0, 1) := by decide +kernel
theorem dX10_promise_13 : decode cX10_promise 13 = .ok (.istore_n 2, 1) := by decide +kernel
theorem dX10_promise_14 : decode cX10_promise 14 = .ok (.aload_n 0, 1) := by decide +kernel
theorem dX10_promise_15 : decode cX10_promise 15 = .ok (.iload_n 2, 1) := by decide +kernel
theorem dX10_promise_16 : decode cX10_promise 16 = .ok (.iload_n 2, 1) := by decide +kernel
theorem dX10_promise_17 : decode cX10_promise 17 = .ok (.ifCond .ne 16, 3) := by decide +kernel
theorem dX10_promise_20 : decode cX10_promise 20 = .ok (.aload_n 0, 1) := by decide +kernel
theorem dX10_promise_21 : decode cX10_promise 21 = .ok (.getfield 146, 3) := by decide +kernel
theorem dX10_promise_24 : decode cX10_promise 24 = .ok (.bipush 32, 2) := by decide +kernel
theorem dX10_promise_26 : decode cX10_promise 26 = .ok (.if_icmp .ne 7, 3) := by decide +kernel
theorem dX10_promise_29 : decode cX10_promise 29 = .ok (.iconst 1, 1) := by decide +kernel
theorem dX10_promise_30 : decode cX10_promise 30 = .ok (.goto 4, 3) := by decide +kernel
theorem dX10_promise_33 : decode cX10_promise 33 = .ok (.iconst 0, 1) := by decide +kernel
theorem dX10_promise_34 : decode cX10_promise 34 = .ok (.invokevirtual 159, 3) := by decide +kernel
theorem dX10_promise_37 : decode cX10_promise 37 = .ok (.ifCond .eq 5, 3) := by decide +kernel
theorem dX10_promise_40 : decode cX10_promise 40 = .ok (.iconst 0, 1) := by decide +kernel
theorem dX10_promise_41 : decode cX10_promise 41 = .ok (.ireturn, 1) := by decide +kernel
theorem dX10_promise_42 : decode cX10_promise 42 = .ok (.aload_n 0, 1) := by decide +kernel
theorem dX10_promise_43 : decode cX10_promise 43 = .ok (.getfield 75, 3) := by decide +kernel
theorem dX10_promise_46 : decode cX10_promise 46 = .ok (.aload_n 0, 1) := by decide +kernel
theorem dX10_promise_47 : decode cX10_promise 47 = .ok (.getfield 146, 3) := by decide +kernel
theorem dX10_promise_50 : decode cX10_promise 50 = .ok (.iload_n 1, 1) := by decide +kernel
theorem dX10_promise_51 : decode cX10_promise 51 = .ok (.iastore, 1) := by decide +kernel
theorem dX10_promise_52 : decode cX10_promise 52 = .ok (.aload_n 0, 1) := by decide +kernel
theorem dX10_promise_53 : decode cX10_promise 53 = .ok (.dup, 1) := by decide +kernel
theorem dX10_promise_54 : decode cX10_promise 54 = .ok (.getfield 146, 3) := by decide +kernel
theorem dX10_promise_57 : decode cX10_promise 57 = .ok (.iconst 1, 1) := by decide +kernel
theorem dX10_promise_58 : decode cX10_promise 58 = .ok (.iadd, 1) := by decide +kernel
theorem dX10_promise_59 : decode cX10_promise 59 = .ok (.putfield 146, 3) := by decide +kernel
theorem dX10_promise_62 : decode cX10_promise 62 = .ok (.aload_n 0, 1) := by decide +kernel
theorem dX10_promise_63 : decode cX10_promise 63 = .ok (.getfield 146, 3) := by decide +kernel
theorem dX10_promise_66 : decode cX10_promise 66 = .ok (.iconst 1, 1) := by decide +kernel
theorem dX10_promise_67 : decode cX10_promise 67 = .ok (.isub, 1) := by decide +kernel
theorem dX10_promise_68 : decode cX10_promise 68 = .ok (.ireturn, 1) := by decide +kernel
theorem dX10_channels_0 : decode cX10_channels 0 = .ok (.aload_n 0, 1) := by decide +kernel
theorem dX10_channels_1 : decode cX10_channels 1 = .ok (.iload_n 1, 1) := by decide +kernel
theorem dX10_channels_2 : decode cX10_channels 2 = .ok (.invokevirtual 169, 3) := by decide +kernel
theorem dX10_channels_5 : decode cX10_channels 5 = .ok (.ifCond .eq 11, 3) := by decide +kernel
theorem dX10_channels_8 : decode cX10_channels 8 = .ok (.aload_n 0, 1) := by decide +kernel
theorem dX10_channels_9 : decode cX10_channels 9 = .ok (.iload_n 2, 1) := by decide +kernel
theorem dX10_channels_10 : decode cX10_channels 10 = .ok (.invokevirtual 169, 3) := by decide +kernel
theorem dX10_channels_13 : decode cX10_channels 13 = .ok (.ifCond .ne 7, 3) := by decide +kernel
theorem dX10_channels_16 : decode cX10_channels 16 = .ok (.iconst 1, 1) := by decide +kernel
theorem dX10_channels_17 : decode cX10_channels 17 = .ok (.goto 4, 3) := by decide +kernel
theorem dX10_channels_20 : decode cX10_channels 20 = .ok (.iconst 0, 1) := by decide +kernel
theorem dX10_channels_21 : decode cX10_channels 21 = .ok (.istore_n 3, 1) := by decide +kernel
theorem dX10_channels_22 : decode cX10_channels 22 = .ok (.aload_n 0, 1) := by decide +kernel
theorem dX10_channels_23 : decode cX10_channels 23 = .ok (.iload_n 3, 1) := by decide +kernel
theorem dX10_channels_24 : decode cX10_channels 24 = .ok (.iload_n 3, 1) := by decide +kernel
theorem dX10_channels_25 : decode cX10_channels 25 = .ok (.ifCond .ne 16, 3) := by decide +kernel
theorem dX10_channels_28 : decode cX10_channels 28 = .ok (.aload_n 0, 1) := by decide +kernel
theorem dX10_channels_29 : decode cX10_channels 29 = .ok (.getfield 149, 3) := by decide +kernel
theorem dX10_channels_32 : decode cX10_channels 32 = .ok (.bipush 16, 2) := by decide +kernel
theorem dX10_channels_34 : decode cX10_channels 34 = .ok (.if_icmp .ne 7, 3) := by decide +kernel
theorem dX10_channels_37 : decode cX10_channels 37 = .ok (.iconst 1, 1) := by decide +kernel
theorem dX10_channels_38 : decode cX10_channels 38 = .ok (.goto 4, 3) := by decide +kernel
theorem dX10_channels_41 : decode cX10_channels 41 = .ok (.iconst 0, 1) := by decide +kernel
theorem dX10_channels_42 : decode cX10_channels 42 = .ok (.invokevirtual 159, 3) := by decide +kernel
theorem dX10_channels_45 : decode cX10_channels 45 = .ok (.ifCond .eq 5, 3) := by decide +kernel
theorem dX10_channels_48 : decode cX10_channels 48 = .ok (.iconst 0, 1) := by decide +kernel
theorem dX10_channels_49 : decode cX10_channels 49 = .ok (.ireturn, 1) := by decide +kernel
theorem dX10_channels_50 : decode cX10_channels 50 = .ok (.aload_n 0, 1) := by decide +kernel
theorem dX10_channels_51 : decode cX10_channels 51 = .ok (.getfield 93, 3) := by decide +kernel
theorem dX10_channels_54 : decode cX10_channels 54 = .ok (.aload_n 0, 1) := by decide +kernel
theorem dX10_channels_55 : decode cX10_channels 55 = .ok (.getfield 149, 3) := by decide +kernel
theorem dX10_channels_58 : decode cX10_channels 58 = .ok (.iload_n 1, 1) := by decide +kernel
theorem dX10_channels_59 : decode cX10_channels 59 = .ok (.iastore, 1) := by decide +kernel
theorem dX10_channels_60 : decode cX10_channels 60 = .ok (.aload_n 0, 1) := by decide +kernel
theorem dX10_channels_61 : decode cX10_channels 61 = .ok (.getfield 93, 3) := by decide +kernel
theorem dX10_channels_64 : decode cX10_channels 64 = .ok (.aload_n 0, 1) := by decide +kernel
theorem dX10_channels_65 : decode cX10_channels 65 = .ok (.getfield 149, 3) := by decide +kernel
theorem dX10_channels_68 : decode cX10_channels 68 = .ok (.iconst 1, 1) := by decide +kernel
theorem dX10_channels_69 : decode cX10_channels 69 = .ok (.iadd, 1) := by decide +kernel
theorem dX10_channels_70 : decode cX10_channels 70 = .ok (.iload_n 2, 1) := by decide +kernel
theorem dX10_channels_71 : decode cX10_channels 71 = .ok (.iastore, 1) := by decide +kernel
theorem dX10_channels_72 : decode cX10_channels 72 = .ok (.aload_n 0, 1) := by decide +kernel
theorem dX10_channels_73 : decode cX10_channels 73 = .ok (.dup, 1) := by decide +kernel
theorem dX10_channels_74 : decode cX10_channels 74 = .ok (.getfield 149, 3) := by decide +kernel
theorem dX10_channels_77 : decode cX10_channels 77 = .ok (.iconst 2, 1) := by decide +kernel
theorem dX10_channels_78 : decode cX10_channels 78 = .ok (.iadd, 1) := by decide +kernel
theorem dX10_channels_79 : decode cX10_channels 79 = .ok (.putfield 149, 3) := by decide +kernel
theorem dX10_channels_82 : decode cX10_channels 82 = .ok (.aload_n 0, 1) := by decide +kernel
theorem dX10_channels_83 : decode cX10_channels 83 = .ok (.getfield 149, 3) := by decide +kernel
theorem dX10_channels_86 : decode cX10_channels 86 = .ok (.iconst 2, 1) := by decide +kernel
theorem dX10_channels_87 : decode cX10_channels 87 = .ok (.isub, 1) := by decide +kernel
theorem dX10_channels_88 : decode cX10_channels 88 = .ok (.ireturn, 1) := by decide +kernel
theorem dX10_handler_0 : decode cX10_handler 0 = .ok (.aload_n 0, 1) := by decide +kernel
theorem dX10_handler_1 : decode cX10_handler 1 = .ok (.iload_n 1, 1) := by decide +kernel
theorem dX10_handler_2 : decode cX10_handler 2 = .ok (.invokevirtual 172, 3) := by decide +kernel
theorem dX10_handler_5 : decode cX10_handler 5 = .ok (.ifCond .eq 68, 3) := by decide +kernel
theorem dX10_handler_8 : decode cX10_handler 8 = .ok (.iload 4, 2) := by decide +kernel
theorem dX10_handler_10 : decode cX10_handler 10 = .ok (.iconst (-1), 1) := by decide +kernel
theorem dX10_handler_11 : decode cX10_handler 11 = .ok (.if_icmp .ne 31, 3) := by decide +kernel
theorem dX10_handler_14 : decode cX10_handler 14 = .ok (.iload_n 2, 1) := by decide +kernel
theorem dX10_handler_15 : decode cX10_handler 15 = .ok (.i2l, 1) := by decide +kernel
theorem dX10_handler_16 : decode cX10_handler 16 = .ok (.lconst 0, 1) := by decide +kernel
theorem dX10_handler_17 : decode cX10_handler 17 = .ok (.ldc2_w 175, 3) := by decide +kernel
theorem dX10_handler_20 : decode cX10_handler 20 = .ok (.invokestatic 142, 3) := by decide +kernel
theorem dX10_handler_23 : decode cX10_handler 23 = .ok (.ifCond .eq 50, 3) := by decide +kernel
theorem dX10_handler_26 : decode cX10_handler 26 = .ok (.iload_n 2, 1) := by decide +kernel
theorem dX10_handler_27 : decode cX10_handler 27 = .ok (.iconst 4, 1) := by decide +kernel
theorem dX10_handler_28 : decode cX10_handler 28 = .ok (.if_icmp .ne 49, 3) := by decide +kernel
theorem dX10_handler_31 : decode cX10_handler 31 = .ok (.aload_n 0, 1) := by decide +kernel
theorem dX10_handler_32 : decode cX10_handler 32 = .ok (.iload_n 3, 1) := by decide +kernel
theorem dX10_handler_33 : decode cX10_handler 33 = .ok (.invokevirtual 163, 3) := by decide +kernel
theorem dX10_handler_36 : decode cX10_handler 36 = .ok (.ifCond .eq 37, 3) := by decide +kernel
theorem dX10_handler_39 : decode cX10_handler 39 = .ok (.goto 38, 3) := by decide +kernel
theorem dX10_handler_42 : decode cX10_handler 42 = .ok (.iload 4, 2) := by decide +kernel
theorem dX10_handler_44 : decode cX10_handler 44 = .ok (.i2l, 1) := by decide +kernel
theorem dX10_handler_45 : decode cX10_handler 45 = .ok (.lconst 0, 1) := by decide +kernel
theorem dX10_handler_46 : decode cX10_handler 46 = .ok (.aload_n 0, 1) := by decide +kernel
theorem dX10_handler_47 : decode cX10_handler 47 = .ok (.getfield 96, 3) := by decide +kernel
theorem dX10_handler_50 : decode cX10_handler 50 = .ok (.aload_n 0, 1) := by decide +kernel
theorem dX10_handler_51 : decode cX10_handler 51 = .ok (.iload_n 1, 1) := by decide +kernel
theorem dX10_handler_52 : decode cX10_handler 52 = .ok (.invokevirtual 172, 3) := by decide +kernel
theorem dX10_handler_55 : decode cX10_handler 55 = .ok (.ifCond .eq 7, 3) := by decide +kernel
theorem dX10_handler_58 : decode cX10_handler 58 = .ok (.iload_n 1, 1) := by decide +kernel
theorem dX10_handler_59 : decode cX10_handler 59 = .ok (.goto 4, 3) := by decide +kernel
theorem dX10_handler_62 : decode cX10_handler 62 = .ok (.iconst 0, 1) := by decide +kernel
theorem dX10_handler_63 : decode cX10_handler 63 = .ok (.iaload, 1) := by decide +kernel
theorem dX10_handler_64 : decode cX10_handler 64 = .ok (.iconst 1, 1) := by decide +kernel
theorem dX10_handler_65 : decode cX10_handler 65 = .ok (.isub, 1) := by decide +kernel
theorem dX10_handler_66 : decode cX10_handler 66 = .ok (.i2l, 1) := by decide +kernel
theorem dX10_handler_67 : decode cX10_handler 67 = .ok (.invokestatic 142, 3) := by decide +kernel
theorem dX10_handler_70 : decode cX10_handler 70 = .ok (.ifCond .ne 7, 3) := by decide +kernel
theorem dX10_handler_73 : decode cX10_handler 73 = .ok (.iconst 1, 1) := by decide +kernel
theorem dX10_handler_74 : decode cX10_handler 74 = .ok (.goto 4, 3) := by decide +kernel
theorem dX10_handler_77 : decode cX10_handler 77 = .ok (.iconst 0, 1) := by decide +kernel
theorem dX10_handler_78 : decode cX10_handler 78 = .ok (.istore 5, 2) := by decide +kernel
theorem dX10_handler_80 : decode cX10_handler 80 = .ok (.aload_n 0, 1) := by decide +kernel
theorem dX10_handler_81 : decode cX10_handler 81 = .ok (.iload 5, 2) := by decide +kernel
theorem dX10_handler_83 : decode cX10_handler 83 = .ok (.iload 5, 2) := by decide +kernel
theorem dX10_handler_85 : decode cX10_handler 85 = .ok (.ifCond .ne 24, 3) := by decide +kernel
theorem dX10_handler_88 : decode cX10_handler 88 = .ok (.iload 4, 2) := by decide +kernel
theorem dX10_handler_90 : decode cX10_handler 90 = .ok (.iconst (-1), 1) := by decide +kernel
theorem dX10_handler_91 : decode cX10_handler 91 = .ok (.if_icmp .ne 18, 3) := by decide +kernel
theorem dX10_handler_94 : decode cX10_handler 94 = .ok (.aload_n 0, 1) := by decide +kernel
theorem dX10_handler_95 : decode cX10_handler 95 = .ok (.getfield 96, 3) := by decide +kernel
theorem dX10_handler_98 : decode cX10_handler 98 = .ok (.iload_n 1, 1) := by decide +kernel
theorem dX10_handler_99 : decode cX10_handler 99 = .ok (.iaload, 1) := by decide +kernel
theorem dX10_handler_100 : decode cX10_handler 100 = .ok (.bipush 6, 2) := by decide +kernel
theorem dX10_handler_102 : decode cX10_handler 102 = .ok (.if_icmp .ne 7, 3) := by decide +kernel
theorem dX10_handler_105 : decode cX10_handler 105 = .ok (.iconst 1, 1) := by decide +kernel
theorem dX10_handler_106 : decode cX10_handler 106 = .ok (.goto 4, 3) := by decide +kernel
theorem dX10_handler_109 : decode cX10_handler 109 = .ok (.iconst 0, 1) := by decide +kernel
theorem dX10_handler_110 : decode cX10_handler 110 = .ok (.invokevirtual 159, 3) := by decide +kernel
theorem dX10_handler_113 : decode cX10_handler 113 = .ok (.ifCond .eq 5, 3) := by decide +kernel
theorem dX10_handler_116 : decode cX10_handler 116 = .ok (.iconst 0, 1) := by decide +kernel
theorem dX10_handler_117 : decode cX10_handler 117 = .ok (.ireturn, 1) := by decide +kernel
theorem dX10_handler_118 : decode cX10_handler 118 = .ok (.iload 4, 2) := by decide +kernel
theorem dX10_handler_120 : decode cX10_handler 120 = .ok (.iconst (-1), 1) := by decide +kernel
theorem dX10_handler_121 : decode cX10_handler 121 = .ok (.if_icmp .ne 70, 3) := by decide +kernel
theorem dX10_handler_124 : decode cX10_handler 124 = .ok (.bipush 6, 2) := by decide +kernel
theorem dX10_handler_126 : decode cX10_handler 126 = .ok (.iload_n 1, 1) := by decide +kernel
theorem dX10_handler_127 : decode cX10_handler 127 = .ok (.imul, 1) := by decide +kernel
theorem dX10_handler_128 : decode cX10_handler 128 = .ok (.aload_n 0, 1) := by decide +kernel
theorem dX10_handler_129 : decode cX10_handler 129 = .ok (.getfield 96, 3) := by decide +kernel
theorem dX10_handler_132 : decode cX10_handler 132 = .ok (.iload_n 1, 1) := by decide +kernel
theorem dX10_handler_133 : decode cX10_handler 133 = .ok (.iaload, 1) := by decide +kernel
theorem dX10_handler_134 : decode cX10_handler 134 = .ok (.iadd, 1) := by decide +kernel
theorem dX10_handler_135 : decode cX10_handler 135 = .ok (.istore 6, 2) := by decide +kernel
theorem dX10_handler_137 : decode cX10_handler 137 = .ok (.aload_n 0, 1) := by decide +kernel
theorem dX10_handler_138 : decode cX10_handler 138 = .ok (.getfield 99, 3) := by decide +kernel
theorem dX10_handler_141 : decode cX10_handler 141 = .ok (.iload 6, 2) := by decide +kernel
theorem dX10_handler_143 : decode cX10_handler 143 = .ok (.iload_n 2, 1) := by decide +kernel
theorem dX10_handler_144 : decode cX10_handler 144 = .ok (.iastore, 1) := by decide +kernel
theorem dX10_handler_145 : decode cX10_handler 145 = .ok (.aload_n 0, 1) := by decide +kernel
theorem dX10_handler_146 : decode cX10_handler 146 = .ok (.getfield 102, 3) := by decide +kernel
theorem dX10_handler_149 : decode cX10_handler 149 = .ok (.iload 6, 2) := by decide +kernel
theorem dX10_handler_151 : decode cX10_handler 151 = .ok (.iload_n 3, 1) := by decide +kernel
theorem dX10_handler_152 : decode cX10_handler 152 = .ok (.iastore, 1) := by decide +kernel
theorem dX10_handler_153 : decode cX10_handler 153 = .ok (.aload_n 0, 1) := by decide +kernel
theorem dX10_handler_154 : decode cX10_handler 154 = .ok (.getfield 105, 3) := by decide +kernel
theorem dX10_handler_157 : decode cX10_handler 157 = .ok (.iload 6, 2) := by decide +kernel
theorem dX10_handler_159 : decode cX10_handler 159 = .ok (.aload_n 0, 1) := by decide +kernel
theorem dX10_handler_160 : decode cX10_handler 160 = .ok (.getfield 177, 3) := by decide +kernel
theorem dX10_handler_163 : decode cX10_handler 163 = .ok (.iastore, 1) := by decide +kernel
theorem dX10_handler_164 : decode cX10_handler 164 = .ok (.aload_n 0, 1) := by decide +kernel
theorem dX10_handler_165 : decode cX10_handler 165 = .ok (.getfield 96, 3) := by decide +kernel
theorem dX10_handler_168 : decode cX10_handler 168 = .ok (.iload_n 1, 1) := by decide +kernel
theorem dX10_handler_169 : decode cX10_handler 169 = .ok (.dup2, 1) := by decide +kernel
theorem dX10_handler_170 : decode cX10_handler 170 = .ok (.iaload, 1) := by decide +kernel
theorem dX10_handler_171 : decode cX10_handler 171 = .ok (.iconst 1, 1) := by decide +kernel
theorem dX10_handler_172 : decode cX10_handler 172 = .ok (.iadd, 1) := by decide +kernel
theorem dX10_handler_173 : decode cX10_handler 173 = .ok (.iastore, 1) := by decide +kernel
theorem dX10_handler_174 : decode cX10_handler 174 = .ok (.aload_n 0, 1) := by decide +kernel
theorem dX10_handler_175 : decode cX10_handler 175 = .ok (.dup, 1) := by decide +kernel
theorem dX10_handler_176 : decode cX10_handler 176 = .ok (.getfield 177, 3) := by decide +kernel
theorem dX10_handler_179 : decode cX10_handler 179 = .ok (.iconst 1, 1) := by decide +kernel
theorem dX10_handler_180 : decode cX10_handler 180 = .ok (.iadd, 1) := by decide +kernel
theorem dX10_handler_181 : decode cX10_handler 181 = .ok (.putfield 177, 3) := by decide +kernel
theorem dX10_handler_184 : decode cX10_handler 184 = .ok (.aload_n 0, 1) := by decide +kernel
theorem dX10_handler_185 : decode cX10_handler 185 = .ok (.getfield 177, 3) := by decide +kernel
theorem dX10_handler_188 : decode cX10_handler 188 = .ok (.iconst 1, 1) := by decide +kernel
theorem dX10_handler_189 : decode cX10_handler 189 = .ok (.isub, 1) := by decide +kernel
theorem dX10_handler_190 : decode cX10_handler 190 = .ok (.ireturn, 1) := by decide +kernel
theorem dX10_handler_191 : decode cX10_handler 191 = .ok (.aload_n 0, 1) := by decide +kernel
theorem dX10_handler_192 : decode cX10_handler 192 = .ok (.getfield 105, 3) := by decide +kernel
theorem dX10_handler_195 : decode cX10_handler 195 = .ok (.bipush 6, 2) := by decide +kernel
theorem dX10_handler_197 : decode cX10_handler 197 = .ok (.iload_n 1, 1) := by decide +kernel
theorem dX10_handler_198 : decode cX10_handler 198 = .ok (.imul, 1) := by decide +kernel
theorem dX10_handler_199 : decode cX10_handler 199 = .ok (.iload 4, 2) := by decide +kernel
theorem dX10_handler_201 : decode cX10_handler 201 = .ok (.iadd, 1) := by decide +kernel
theorem dX10_handler_202 : decode cX10_handler 202 = .ok (.iaload, 1) := by decide +kernel
theorem dX10_handler_203 : decode cX10_handler 203 = .ok (.istore 6, 2) := by decide +kernel
theorem dX10_handler_205 : decode cX10_handler 205 = .ok (.aload_n 0, 1) := by decide +kernel
theorem dX10_handler_206 : decode cX10_handler 206 = .ok (.getfield 96, 3) := by decide +kernel
theorem dX10_handler_209 : decode cX10_handler 209 = .ok (.iload_n 1, 1) := by decide +kernel
theorem dX10_handler_210 : decode cX10_handler 210 = .ok (.dup2, 1) := by decide +kernel
theorem dX10_handler_211 : decode cX10_handler 211 = .ok (.iaload, 1) := by decide +kernel
theorem dX10_handler_212 : decode cX10_handler 212 = .ok (.iconst 1, 1) := by decide +kernel
theorem dX10_handler_213 : decode cX10_handler 213 = .ok (.isub, 1) := by decide +kernel
theorem dX10_handler_214 : decode cX10_handler 214 = .ok (.iastore, 1) := by decide +kernel
theorem dX10_handler_215 : decode cX10_handler 215 = .ok (.bipush 6, 2) := by decide +kernel
theorem dX10_handler_217 : decode cX10_handler 217 = .ok (.iload_n 1, 1) := by decide +kernel
theorem dX10_handler_218 : decode cX10_handler 218 = .ok (.imul, 1) := by decide +kernel
theorem dX10_handler_219 : decode cX10_handler 219 = .ok (.iload 4, 2) := by decide +kernel
theorem dX10_handler_221 : decode cX10_handler 221 = .ok (.iadd, 1) := by decide +kernel
theorem dX10_handler_222 : decode cX10_handler 222 = .ok (.istore 7, 2) := by decide +kernel
theorem dX10_handler_224 : decode cX10_handler 224 = .ok (.iload 7, 2) := by decide +kernel
theorem dX10_handler_226 : decode cX10_handler 226 = .ok (.bipush 6, 2) := by decide +kernel
theorem dX10_handler_228 : decode cX10_handler 228 = .ok (.iload_n 1, 1) := by decide +kernel
theorem dX10_handler_229 : decode cX10_handler 229 = .ok (.imul, 1) := by decide +kernel
theorem dX10_handler_230 : decode cX10_handler 230 = .ok (.aload_n 0, 1) := by decide +kernel
theorem dX10_handler_231 : decode cX10_handler 231 = .ok (.getfield 96, 3) := by decide +kernel
theorem dX10_handler_234 : decode cX10_handler 234 = .ok (.iload_n 1, 1) := by decide +kernel
theorem dX10_handler_235 : decode cX10_handler 235 = .ok (.iaload, 1) := by decide +kernel
theorem dX10_handler_236 : decode cX10_handler 236 = .ok (.iadd, 1) := by decide +kernel
theorem dX10_handler_237 : decode cX10_handler 237 = .ok (.if_icmp .ge 57, 3) := by decide +kernel
theorem dX10_handler_240 : decode cX10_handler 240 = .ok (.aload_n 0, 1) := by decide +kernel
theorem dX10_handler_241 : decode cX10_handler 241 = .ok (.getfield 99, 3) := by decide +kernel
theorem dX10_handler_244 : decode cX10_handler 244 = .ok (.iload 7, 2) := by decide +kernel
theorem dX10_handler_246 : decode cX10_handler 246 = .ok (.aload_n 0, 1) := by decide +kernel
theorem dX10_handler_247 : decode cX10_handler 247 = .ok (.getfield 99, 3) := by decide +kernel
theorem dX10_handler_250 : decode cX10_handler 250 = .ok (.iload 7, 2) := by decide +kernel
theorem dX10_handler_252 : decode cX10_handler 252 = .ok (.iconst 1, 1) := by decide +kernel
theorem dX10_handler_253 : decode cX10_handler 253 = .ok (.iadd, 1) := by decide +kernel
theorem dX10_handler_254 : decode cX10_handler 254 = .ok (.iaload, 1) := by decide +kernel
theorem dX10_handler_255 : decode cX10_handler 255 = .ok (.iastore, 1) := by decide +kernel
theorem dX10_handler_256 : decode cX10_handler 256 = .ok (.aload_n 0, 1) := by decide +kernel
theorem dX10_handler_257 : decode cX10_handler 257 = .ok (.getfield 102, 3) := by decide +kernel
theorem dX10_handler_260 : decode cX10_handler 260 = .ok (.iload 7, 2) := by decide +kernel
theorem dX10_handler_262 : decode cX10_handler 262 = .ok (.aload_n 0, 1) := by decide +kernel
theorem dX10_handler_263 : decode cX10_handler 263 = .ok (.getfield 102, 3) := by decide +kernel
theorem dX10_handler_266 : decode cX10_handler 266 = .ok (.iload 7, 2) := by decide +kernel
theorem dX10_handler_268 : decode cX10_handler 268 = .ok (.iconst 1, 1) := by decide +kernel
theorem dX10_handler_269 : decode cX10_handler 269 = .ok (.iadd, 1) := by decide +kernel
theorem dX10_handler_270 : decode cX10_handler 270 = .ok (.iaload, 1) := by decide +kernel
theorem dX10_handler_271 : decode cX10_handler 271 = .ok (.iastore, 1) := by decide +kernel
theorem dX10_handler_272 : decode cX10_handler 272 = .ok (.aload_n 0, 1) := by decide +kernel
theorem dX10_handler_273 : decode cX10_handler 273 = .ok (.getfield 105, 3) := by decide +kernel
theorem dX10_handler_276 : decode cX10_handler 276 = .ok (.iload 7, 2) := by decide +kernel
theorem dX10_handler_278 : decode cX10_handler 278 = .ok (.aload_n 0, 1) := by decide +kernel
theorem dX10_handler_279 : decode cX10_handler 279 = .ok (.getfield 105, 3) := by decide +kernel
theorem dX10_handler_282 : decode cX10_handler 282 = .ok (.iload 7, 2) := by decide +kernel
theorem dX10_handler_284 : decode cX10_handler 284 = .ok (.iconst 1, 1) := by decide +kernel
theorem dX10_handler_285 : decode cX10_handler 285 = .ok (.iadd, 1) := by decide +kernel
theorem dX10_handler_286 : decode cX10_handler 286 = .ok (.iaload, 1) := by decide +kernel
theorem dX10_handler_287 : decode cX10_handler 287 = .ok (.iastore, 1) := by decide +kernel
theorem dX10_handler_288 : decode cX10_handler 288 = .ok (.iinc 7 1, 3) := by decide +kernel
theorem dX10_handler_291 : decode cX10_handler 291 = .ok (.goto (-67), 3) := by decide +kernel
theorem dX10_handler_294 : decode cX10_handler 294 = .ok (.iload 6, 2) := by decide +kernel
theorem dX10_handler_296 : decode cX10_handler 296 = .ok (.ireturn, 1) := by decide +kernel
theorem dX10_advance_0 : decode cX10_advance 0 = .ok (.aload_n 0, 1) := by decide +kernel
theorem dX10_advance_1 : decode cX10_advance 1 = .ok (.iload_n 1, 1) := by decide +kernel
theorem dX10_advance_2 : decode cX10_advance 2 = .ok (.i2l, 1) := by decide +kernel
theorem dX10_advance_3 : decode cX10_advance 3 = .ok (.lconst 0, 1) := by decide +kernel
theorem dX10_advance_4 : decode cX10_advance 4 = .ok (.ldc2_w 180, 3) := by decide +kernel
theorem dX10_advance_7 : decode cX10_advance 7 = .ok (.invokestatic 142, 3) := by decide +kernel
theorem dX10_advance_10 : decode cX10_advance 10 = .ok (.ifCond .ne 7, 3) := by decide +kernel
theorem dX10_advance_13 : decode cX10_advance 13 = .ok (.iconst 1, 1) := by decide +kernel
theorem dX10_advance_14 : decode cX10_advance 14 = .ok (.goto 4, 3) := by decide +kernel
theorem dX10_advance_17 : decode cX10_advance 17 = .ok (.iconst 0, 1) := by decide +kernel
theorem dX10_advance_18 : decode cX10_advance 18 = .ok (.iconst 0, 1) := by decide +kernel
theorem dX10_advance_19 : decode cX10_advance 19 = .ok (.invokevirtual 159, 3) := by decide +kernel
theorem dX10_advance_22 : decode cX10_advance 22 = .ok (.ifCond .eq 5, 3) := by decide +kernel
theorem dX10_advance_25 : decode cX10_advance 25 = .ok (.lconst 0, 1) := by decide +kernel
theorem dX10_advance_26 : decode cX10_advance 26 = .ok (.lreturn, 1) := by decide +kernel
theorem dX10_advance_27 : decode cX10_advance 27 = .ok (.aload_n 0, 1) := by decide +kernel
theorem dX10_advance_28 : decode cX10_advance 28 = .ok (.dup, 1) := by decide +kernel
theorem dX10_advance_29 : decode cX10_advance 29 = .ok (.getfield 182, 3) := by decide +kernel
theorem dX10_advance_32 : decode cX10_advance 32 = .ok (.iload_n 1, 1) := by decide +kernel
theorem dX10_advance_33 : decode cX10_advance 33 = .ok (.i2l, 1) := by decide +kernel
theorem dX10_advance_34 : decode cX10_advance 34 = .ok (.ladd, 1) := by decide +kernel
theorem dX10_advance_35 : decode cX10_advance 35 = .ok (.putfield 182, 3) := by decide +kernel
theorem dX10_advance_38 : decode cX10_advance 38 = .ok (.aload_n 0, 1) := by decide +kernel
theorem dX10_advance_39 : decode cX10_advance 39 = .ok (.getfield 182, 3) := by decide +kernel
theorem dX10_advance_42 : decode cX10_advance 42 = .ok (.lreturn, 1) := by decide +kernel
theorem dX10_choose_0 : decode cX10_choose 0 = .ok (.aload_n 0, 1) := by decide +kernel
theorem dX10_choose_1 : decode cX10_choose 1 = .ok (.getfield 186, 3) := by decide +kernel
theorem dX10_choose_4 : decode cX10_choose 4 = .ok (.istore_n 1, 1) := by decide +kernel
theorem dX10_choose_5 : decode cX10_choose 5 = .ok (.aload_n 0, 1) := by decide +kernel
theorem dX10_choose_6 : decode cX10_choose 6 = .ok (.dup, 1) := by decide +kernel
theorem dX10_choose_7 : decode cX10_choose 7 = .ok (.getfield 186, 3) := by decide +kernel
theorem dX10_choose_10 : decode cX10_choose 10 = .ok (.iconst 1, 1) := by decide +kernel
theorem dX10_choose_11 : decode cX10_choose 11 = .ok (.iadd, 1) := by decide +kernel
theorem dX10_choose_12 : decode cX10_choose 12 = .ok (.putfield 186, 3) := by decide +kernel
theorem dX10_choose_15 : decode cX10_choose 15 = .ok (.aload_n 0, 1) := by decide +kernel
theorem dX10_choose_16 : decode cX10_choose 16 = .ok (.getfield 132, 3) := by decide +kernel
theorem dX10_choose_19 : decode cX10_choose 19 = .ok (.aload_n 0, 1) := by decide +kernel
theorem dX10_choose_20 : decode cX10_choose 20 = .ok (.getfield 132, 3) := by decide +kernel
theorem dX10_choose_23 : decode cX10_choose 23 = .ok (.iconst 1, 1) := by decide +kernel
theorem dX10_choose_24 : decode cX10_choose 24 = .ok (.isub, 1) := by decide +kernel
theorem dX10_choose_25 : decode cX10_choose 25 = .ok (.iand, 1) := by decide +kernel
theorem dX10_choose_26 : decode cX10_choose 26 = .ok (.ifCond .ne 12, 3) := by decide +kernel
theorem dX10_choose_29 : decode cX10_choose 29 = .ok (.iload_n 1, 1) := by decide +kernel
theorem dX10_choose_30 : decode cX10_choose 30 = .ok (.aload_n 0, 1) := by decide +kernel
theorem dX10_choose_31 : decode cX10_choose 31 = .ok (.getfield 132, 3) := by decide +kernel
theorem dX10_choose_34 : decode cX10_choose 34 = .ok (.iconst 1, 1) := by decide +kernel
theorem dX10_choose_35 : decode cX10_choose 35 = .ok (.isub, 1) := by decide +kernel
theorem dX10_choose_36 : decode cX10_choose 36 = .ok (.iand, 1) := by decide +kernel
theorem dX10_choose_37 : decode cX10_choose 37 = .ok (.ireturn, 1) := by decide +kernel
theorem dX10_choose_38 : decode cX10_choose 38 = .ok (.iload_n 1, 1) := by decide +kernel
theorem dX10_choose_39 : decode cX10_choose 39 = .ok (.aload_n 0, 1) := by decide +kernel
theorem dX10_choose_40 : decode cX10_choose 40 = .ok (.getfield 132, 3) := by decide +kernel
theorem dX10_choose_43 : decode cX10_choose 43 = .ok (.irem, 1) := by decide +kernel
theorem dX10_choose_44 : decode cX10_choose 44 = .ok (.istore_n 2, 1) := by decide +kernel
theorem dX10_choose_45 : decode cX10_choose 45 = .ok (.iload_n 2, 1) := by decide +kernel
theorem dX10_choose_46 : decode cX10_choose 46 = .ok (.ifCond .ge 8, 3) := by decide +kernel
theorem dX10_choose_49 : decode cX10_choose 49 = .ok (.iload_n 2, 1) := by decide +kernel
theorem dX10_choose_50 : decode cX10_choose 50 = .ok (.ineg, 1) := by decide +kernel
theorem dX10_choose_51 : decode cX10_choose 51 = .ok (.goto 4, 3) := by decide +kernel
theorem dX10_choose_54 : decode cX10_choose 54 = .ok (.iload_n 2, 1) := by decide +kernel
theorem dX10_choose_55 : decode cX10_choose 55 = .ok (.ireturn, 1) := by decide +kernel
theorem dX10_put_0 : decode cX10_put 0 = .ok (.aload_n 0, 1) := by decide +kernel
theorem dX10_put_1 : decode cX10_put 1 = .ok (.getfield 22, 3) := by decide +kernel
theorem dX10_put_4 : decode cX10_put 4 = .ok (.iload_n 1, 1) := by decide +kernel
theorem dX10_put_5 : decode cX10_put 5 = .ok (.iaload, 1) := by decide +kernel
theorem dX10_put_6 : decode cX10_put 6 = .ok (.iconst 3, 1) := by decide +kernel
theorem dX10_put_7 : decode cX10_put 7 = .ok (.if_icmp .gt 14, 3) := by decide +kernel
theorem dX10_put_10 : decode cX10_put 10 = .ok (.aload_n 0, 1) := by decide +kernel
theorem dX10_put_11 : decode cX10_put 11 = .ok (.getfield 25, 3) := by decide +kernel
theorem dX10_put_14 : decode cX10_put 14 = .ok (.iload_n 1, 1) := by decide +kernel
theorem dX10_put_15 : decode cX10_put 15 = .ok (.iaload, 1) := by decide +kernel
theorem dX10_put_16 : decode cX10_put 16 = .ok (.bipush 24, 2) := by decide +kernel
theorem dX10_put_18 : decode cX10_put 18 = .ok (.if_icmp .ne 16, 3) := by decide +kernel
theorem dX10_put_21 : decode cX10_put 21 = .ok (.aload_n 0, 1) := by decide +kernel
theorem dX10_put_22 : decode cX10_put 22 = .ok (.aload_n 0, 1) := by decide +kernel
theorem dX10_put_23 : decode cX10_put 23 = .ok (.getfield 189, 3) := by decide +kernel
theorem dX10_put_26 : decode cX10_put 26 = .ok (.iconst 4, 1) := by decide +kernel
theorem dX10_put_27 : decode cX10_put 27 = .ok (.iload 5, 2) := by decide +kernel
theorem dX10_put_29 : decode cX10_put 29 = .ok (.invokevirtual 155, 3) := by decide +kernel
theorem dX10_put_32 : decode cX10_put 32 = .ok (.iconst 0, 1) := by decide +kernel
theorem dX10_put_33 : decode cX10_put 33 = .ok (.ireturn, 1) := by decide +kernel
theorem dX10_put_34 : decode cX10_put 34 = .ok (.bipush 24, 2) := by decide +kernel
theorem dX10_put_36 : decode cX10_put 36 = .ok (.iload_n 1, 1) := by decide +kernel
theorem dX10_put_37 : decode cX10_put 37 = .ok (.imul, 1) := by decide +kernel
theorem dX10_put_38 : decode cX10_put 38 = .ok (.aload_n 0, 1) := by decide +kernel
theorem dX10_put_39 : decode cX10_put 39 = .ok (.getfield 25, 3) := by decide +kernel
theorem dX10_put_42 : decode cX10_put 42 = .ok (.iload_n 1, 1) := by decide +kernel
theorem dX10_put_43 : decode cX10_put 43 = .ok (.iaload, 1) := by decide +kernel
theorem dX10_put_44 : decode cX10_put 44 = .ok (.iadd, 1) := by decide +kernel
theorem dX10_put_45 : decode cX10_put 45 = .ok (.istore 6, 2) := by decide +kernel
theorem dX10_put_47 : decode cX10_put 47 = .ok (.aload_n 0, 1) := by decide +kernel
theorem dX10_put_48 : decode cX10_put 48 = .ok (.getfield 31, 3) := by decide +kernel
theorem dX10_put_51 : decode cX10_put 51 = .ok (.iload 6, 2) := by decide +kernel
theorem dX10_put_53 : decode cX10_put 53 = .ok (.iload_n 2, 1) := by decide +kernel
theorem dX10_put_54 : decode cX10_put 54 = .ok (.iastore, 1) := by decide +kernel
theorem dX10_put_55 : decode cX10_put 55 = .ok (.aload_n 0, 1) := by decide +kernel
theorem dX10_put_56 : decode cX10_put 56 = .ok (.getfield 34, 3) := by decide +kernel
theorem dX10_put_59 : decode cX10_put 59 = .ok (.iload 6, 2) := by decide +kernel
theorem dX10_put_61 : decode cX10_put 61 = .ok (.iload_n 3, 1) := by decide +kernel
theorem dX10_put_62 : decode cX10_put 62 = .ok (.iastore, 1) := by decide +kernel
theorem dX10_put_63 : decode cX10_put 63 = .ok (.aload_n 0, 1) := by decide +kernel
theorem dX10_put_64 : decode cX10_put 64 = .ok (.getfield 37, 3) := by decide +kernel
theorem dX10_put_67 : decode cX10_put 67 = .ok (.iload 6, 2) := by decide +kernel
theorem dX10_put_69 : decode cX10_put 69 = .ok (.iload 4, 2) := by decide +kernel
theorem dX10_put_71 : decode cX10_put 71 = .ok (.iastore, 1) := by decide +kernel
theorem dX10_put_72 : decode cX10_put 72 = .ok (.aload_n 0, 1) := by decide +kernel
theorem dX10_put_73 : decode cX10_put 73 = .ok (.getfield 25, 3) := by decide +kernel
theorem dX10_put_76 : decode cX10_put 76 = .ok (.iload_n 1, 1) := by decide +kernel
theorem dX10_put_77 : decode cX10_put 77 = .ok (.dup2, 1) := by decide +kernel
theorem dX10_put_78 : decode cX10_put 78 = .ok (.iaload, 1) := by decide +kernel
theorem dX10_put_79 : decode cX10_put 79 = .ok (.iconst 1, 1) := by decide +kernel
theorem dX10_put_80 : decode cX10_put 80 = .ok (.iadd, 1) := by decide +kernel
theorem dX10_put_81 : decode cX10_put 81 = .ok (.iastore, 1) := by decide +kernel
theorem dX10_put_82 : decode cX10_put 82 = .ok (.aload_n 0, 1) := by decide +kernel
theorem dX10_put_83 : decode cX10_put 83 = .ok (.getfield 22, 3) := by decide +kernel
theorem dX10_put_86 : decode cX10_put 86 = .ok (.iload_n 1, 1) := by decide +kernel
theorem dX10_put_87 : decode cX10_put 87 = .ok (.iaload, 1) := by decide +kernel
theorem dX10_put_88 : decode cX10_put 88 = .ok (.iconst 1, 1) := by decide +kernel
theorem dX10_put_89 : decode cX10_put 89 = .ok (.if_icmp .ne 9, 3) := by decide +kernel
theorem dX10_put_92 : decode cX10_put 92 = .ok (.aload_n 0, 1) := by decide +kernel
theorem dX10_put_93 : decode cX10_put 93 = .ok (.iload_n 1, 1) := by decide +kernel
theorem dX10_put_94 : decode cX10_put 94 = .ok (.iconst 2, 1) := by decide +kernel
theorem dX10_put_95 : decode cX10_put 95 = .ok (.invokevirtual 192, 3) := by decide +kernel
theorem dX10_put_98 : decode cX10_put 98 = .ok (.iconst 1, 1) := by decide +kernel
theorem dX10_put_99 : decode cX10_put 99 = .ok (.ireturn, 1) := by decide +kernel
theorem dX10_waiting_0 : decode cX10_waiting 0 = .ok (.iconst 0, 1) := by decide +kernel
theorem dX10_waiting_1 : decode cX10_waiting 1 = .ok (.istore_n 2, 1) := by decide +kernel
theorem dX10_waiting_2 : decode cX10_waiting 2 = .ok (.iconst 0, 1) := by decide +kernel
theorem dX10_waiting_3 : decode cX10_waiting 3 = .ok (.istore_n 3, 1) := by decide +kernel
theorem dX10_waiting_4 : decode cX10_waiting 4 = .ok (.iload_n 3, 1) := by decide +kernel
theorem dX10_waiting_5 : decode cX10_waiting 5 = .ok (.aload_n 0, 1) := by decide +kernel
theorem dX10_waiting_6 : decode cX10_waiting 6 = .ok (.getfield 196, 3) := by decide +kernel
theorem dX10_waiting_9 : decode cX10_waiting 9 = .ok (.if_icmp .ge 27, 3) := by decide +kernel
theorem dX10_waiting_12 : decode cX10_waiting 12 = .ok (.iload_n 2, 1) := by decide +kernel
theorem dX10_waiting_13 : decode cX10_waiting 13 = .ok (.aload_n 0, 1) := by decide +kernel
theorem dX10_waiting_14 : decode cX10_waiting 14 = .ok (.getfield 72, 3) := by decide +kernel
theorem dX10_waiting_17 : decode cX10_waiting 17 = .ok (.iload_n 3, 1) := by decide +kernel
theorem dX10_waiting_18 : decode cX10_waiting 18 = .ok (.iaload, 1) := by decide +kernel
theorem dX10_waiting_19 : decode cX10_waiting 19 = .ok (.iload_n 1, 1) := by decide +kernel
theorem dX10_waiting_20 : decode cX10_waiting 20 = .ok (.if_icmp .ne 7, 3) := by decide +kernel
theorem dX10_waiting_23 : decode cX10_waiting 23 = .ok (.iconst 1, 1) := by decide +kernel
theorem dX10_waiting_24 : decode cX10_waiting 24 = .ok (.goto 4, 3) := by decide +kernel
theorem dX10_waiting_27 : decode cX10_waiting 27 = .ok (.iconst 0, 1) := by decide +kernel
theorem dX10_waiting_28 : decode cX10_waiting 28 = .ok (.iadd, 1) := by decide +kernel
theorem dX10_waiting_29 : decode cX10_waiting 29 = .ok (.istore_n 2, 1) := by decide +kernel
theorem dX10_waiting_30 : decode cX10_waiting 30 = .ok (.iinc 3 1, 3) := by decide +kernel
theorem dX10_waiting_33 : decode cX10_waiting 33 = .ok (.goto (-29), 3) := by decide +kernel
theorem dX10_waiting_36 : decode cX10_waiting 36 = .ok (.iload_n 2, 1) := by decide +kernel
theorem dX10_waiting_37 : decode cX10_waiting 37 = .ok (.ireturn, 1) := by decide +kernel
theorem dX10_schedule_0 : decode cX10_schedule 0 = .ok (.aload_n 0, 1) := by decide +kernel
theorem dX10_schedule_1 : decode cX10_schedule 1 = .ok (.getfield 22, 3) := by decide +kernel
theorem dX10_schedule_4 : decode cX10_schedule 4 = .ok (.iload 4, 2) := by decide +kernel
theorem dX10_schedule_6 : decode cX10_schedule 6 = .ok (.iaload, 1) := by decide +kernel
theorem dX10_schedule_7 : decode cX10_schedule 7 = .ok (.iconst 2, 1) := by decide +kernel
theorem dX10_schedule_8 : decode cX10_schedule 8 = .ok (.if_icmp .gt 24, 3) := by decide +kernel
theorem dX10_schedule_11 : decode cX10_schedule 11 = .ok (.aload_n 0, 1) := by decide +kernel
theorem dX10_schedule_12 : decode cX10_schedule 12 = .ok (.getfield 196, 3) := by decide +kernel
theorem dX10_schedule_15 : decode cX10_schedule 15 = .ok (.sipush 400, 3) := by decide +kernel
theorem dX10_schedule_18 : decode cX10_schedule 18 = .ok (.if_icmp .eq 14, 3) := by decide +kernel
theorem dX10_schedule_21 : decode cX10_schedule 21 = .ok (.aload_n 0, 1) := by decide +kernel
theorem dX10_schedule_22 : decode cX10_schedule 22 = .ok (.iload 4, 2) := by decide +kernel
theorem dX10_schedule_24 : decode cX10_schedule 24 = .ok (.invokevirtual 199, 3) := by decide +kernel
theorem dX10_schedule_27 : decode cX10_schedule 27 = .ok (.bipush 24, 2) := by decide +kernel
theorem dX10_schedule_29 : decode cX10_schedule 29 = .ok (.if_icmp .ne 15, 3) := by decide +kernel
theorem dX10_schedule_32 : decode cX10_schedule 32 = .ok (.aload_n 0, 1) := by decide +kernel
theorem dX10_schedule_33 : decode cX10_schedule 33 = .ok (.aload_n 0, 1) := by decide +kernel
theorem dX10_schedule_34 : decode cX10_schedule 34 = .ok (.getfield 189, 3) := by decide +kernel
theorem dX10_schedule_37 : decode cX10_schedule 37 = .ok (.iconst 4, 1) := by decide +kernel
theorem dX10_schedule_38 : decode cX10_schedule 38 = .ok (.iload_n 1, 1) := by decide +kernel
theorem dX10_schedule_39 : decode cX10_schedule 39 = .ok (.invokevirtual 155, 3) := by decide +kernel
theorem dX10_schedule_42 : decode cX10_schedule 42 = .ok (.iconst 0, 1) := by decide +kernel
theorem dX10_schedule_43 : decode cX10_schedule 43 = .ok (.ireturn, 1) := by decide +kernel
theorem dX10_schedule_44 : decode cX10_schedule 44 = .ok (.aload_n 0, 1) := by decide +kernel
theorem dX10_schedule_45 : decode cX10_schedule 45 = .ok (.getfield 66, 3) := by decide +kernel
theorem dX10_schedule_48 : decode cX10_schedule 48 = .ok (.aload_n 0, 1) := by decide +kernel
theorem dX10_schedule_49 : decode cX10_schedule 49 = .ok (.getfield 196, 3) := by decide +kernel
theorem dX10_schedule_52 : decode cX10_schedule 52 = .ok (.iload_n 1, 1) := by decide +kernel
theorem dX10_schedule_53 : decode cX10_schedule 53 = .ok (.iastore, 1) := by decide +kernel
theorem dX10_schedule_54 : decode cX10_schedule 54 = .ok (.aload_n 0, 1) := by decide +kernel
theorem dX10_schedule_55 : decode cX10_schedule 55 = .ok (.getfield 69, 3) := by decide +kernel
theorem dX10_schedule_58 : decode cX10_schedule 58 = .ok (.aload_n 0, 1) := by decide +kernel
theorem dX10_schedule_59 : decode cX10_schedule 59 = .ok (.getfield 196, 3) := by decide +kernel
theorem dX10_schedule_62 : decode cX10_schedule 62 = .ok (.aload_n 0, 1) := by decide +kernel
theorem dX10_schedule_63 : decode cX10_schedule 63 = .ok (.getfield 182, 3) := by decide +kernel
theorem dX10_schedule_66 : decode cX10_schedule 66 = .ok (.lload_n 2, 1) := by decide +kernel
theorem dX10_schedule_67 : decode cX10_schedule 67 = .ok (.ladd, 1) := by decide +kernel
theorem dX10_schedule_68 : decode cX10_schedule 68 = .ok (.lastore, 1) := by decide +kernel
theorem dX10_schedule_69 : decode cX10_schedule 69 = .ok (.aload_n 0, 1) := by decide +kernel
theorem dX10_schedule_70 : decode cX10_schedule 70 = .ok (.getfield 72, 3) := by decide +kernel
theorem dX10_schedule_73 : decode cX10_schedule 73 = .ok (.aload_n 0, 1) := by decide +kernel
theorem dX10_schedule_74 : decode cX10_schedule 74 = .ok (.getfield 196, 3) := by decide +kernel
theorem dX10_schedule_77 : decode cX10_schedule 77 = .ok (.iload 4, 2) := by decide +kernel
theorem dX10_schedule_79 : decode cX10_schedule 79 = .ok (.iastore, 1) := by decide +kernel
theorem dX10_schedule_80 : decode cX10_schedule 80 = .ok (.aload_n 0, 1) := by decide +kernel
theorem dX10_schedule_81 : decode cX10_schedule 81 = .ok (.dup, 1) := by decide +kernel
theorem dX10_schedule_82 : decode cX10_schedule 82 = .ok (.getfield 196, 3) := by decide +kernel
theorem dX10_schedule_85 : decode cX10_schedule 85 = .ok (.iconst 1, 1) := by decide +kernel
theorem dX10_schedule_86 : decode cX10_schedule 86 = .ok (.iadd, 1) := by decide +kernel
theorem dX10_schedule_87 : decode cX10_schedule 87 = .ok (.putfield 196, 3) := by decide +kernel
theorem dX10_schedule_90 : decode cX10_schedule 90 = .ok (.aload_n 0, 1) := by decide +kernel
theorem dX10_schedule_91 : decode cX10_schedule 91 = .ok (.getfield 22, 3) := by decide +kernel
theorem dX10_schedule_94 : decode cX10_schedule 94 = .ok (.iload 4, 2) := by decide +kernel
theorem dX10_schedule_96 : decode cX10_schedule 96 = .ok (.iaload, 1) := by decide +kernel
theorem dX10_schedule_97 : decode cX10_schedule 97 = .ok (.iconst 1, 1) := by decide +kernel
theorem dX10_schedule_98 : decode cX10_schedule 98 = .ok (.if_icmp .ne 10, 3) := by decide +kernel
theorem dX10_schedule_101 : decode cX10_schedule 101 = .ok (.aload_n 0, 1) := by decide +kernel
theorem dX10_schedule_102 : decode cX10_schedule 102 = .ok (.iload 4, 2) := by decide +kernel
theorem dX10_schedule_104 : decode cX10_schedule 104 = .ok (.iconst 2, 1) := by decide +kernel
theorem dX10_schedule_105 : decode cX10_schedule 105 = .ok (.invokevirtual 192, 3) := by decide +kernel
theorem dX10_schedule_108 : decode cX10_schedule 108 = .ok (.aload_n 0, 1) := by decide +kernel
theorem dX10_schedule_109 : decode cX10_schedule 109 = .ok (.aload_n 0, 1) := by decide +kernel
theorem dX10_schedule_110 : decode cX10_schedule 110 = .ok (.getfield 189, 3) := by decide +kernel
theorem dX10_schedule_113 : decode cX10_schedule 113 = .ok (.bipush 9, 2) := by decide +kernel
theorem dX10_schedule_115 : decode cX10_schedule 115 = .ok (.aload_n 0, 1) := by decide +kernel
theorem dX10_schedule_116 : decode cX10_schedule 116 = .ok (.getfield 196, 3) := by decide +kernel
theorem dX10_schedule_119 : decode cX10_schedule 119 = .ok (.iconst 1, 1) := by decide +kernel
theorem dX10_schedule_120 : decode cX10_schedule 120 = .ok (.isub, 1) := by decide +kernel
theorem dX10_schedule_121 : decode cX10_schedule 121 = .ok (.invokevirtual 155, 3) := by decide +kernel
theorem dX10_schedule_124 : decode cX10_schedule 124 = .ok (.iconst 1, 1) := by decide +kernel
theorem dX10_schedule_125 : decode cX10_schedule 125 = .ok (.ireturn, 1) := by decide +kernel
theorem dX10_push_0 : decode cX10_push 0 = .ok (.aload_n 0, 1) := by decide +kernel
theorem dX10_push_1 : decode cX10_push 1 = .ok (.getfield 117, 3) := by decide +kernel
theorem dX10_push_4 : decode cX10_push 4 = .ok (.aload_n 0, 1) := by decide +kernel
theorem dX10_push_5 : decode cX10_push 5 = .ok (.getfield 203, 3) := by decide +kernel
theorem dX10_push_8 : decode cX10_push 8 = .ok (.iload_n 1, 1) := by decide +kernel
theorem dX10_push_9 : decode cX10_push 9 = .ok (.iastore, 1) := by decide +kernel
theorem dX10_push_10 : decode cX10_push 10 = .ok (.aload_n 0, 1) := by decide +kernel
theorem dX10_push_11 : decode cX10_push 11 = .ok (.getfield 120, 3) := by decide +kernel
theorem dX10_push_14 : decode cX10_push 14 = .ok (.aload_n 0, 1) := by decide +kernel
theorem dX10_push_15 : decode cX10_push 15 = .ok (.getfield 203, 3) := by decide +kernel
theorem dX10_push_18 : decode cX10_push 18 = .ok (.iload_n 2, 1) := by decide +kernel
theorem dX10_push_19 : decode cX10_push 19 = .ok (.iastore, 1) := by decide +kernel
theorem dX10_push_20 : decode cX10_push 20 = .ok (.aload_n 0, 1) := by decide +kernel
theorem dX10_push_21 : decode cX10_push 21 = .ok (.getfield 123, 3) := by decide +kernel
theorem dX10_push_24 : decode cX10_push 24 = .ok (.aload_n 0, 1) := by decide +kernel
theorem dX10_push_25 : decode cX10_push 25 = .ok (.getfield 203, 3) := by decide +kernel
theorem dX10_push_28 : decode cX10_push 28 = .ok (.iconst 0, 1) := by decide +kernel
theorem dX10_push_29 : decode cX10_push 29 = .ok (.iastore, 1) := by decide +kernel
theorem dX10_push_30 : decode cX10_push 30 = .ok (.aload_n 0, 1) := by decide +kernel
theorem dX10_push_31 : decode cX10_push 31 = .ok (.getfield 126, 3) := by decide +kernel
theorem dX10_push_34 : decode cX10_push 34 = .ok (.aload_n 0, 1) := by decide +kernel
theorem dX10_push_35 : decode cX10_push 35 = .ok (.getfield 203, 3) := by decide +kernel
theorem dX10_push_38 : decode cX10_push 38 = .ok (.iload_n 3, 1) := by decide +kernel
theorem dX10_push_39 : decode cX10_push 39 = .ok (.iastore, 1) := by decide +kernel
theorem dX10_push_40 : decode cX10_push 40 = .ok (.aload_n 0, 1) := by decide +kernel
theorem dX10_push_41 : decode cX10_push 41 = .ok (.getfield 129, 3) := by decide +kernel
theorem dX10_push_44 : decode cX10_push 44 = .ok (.aload_n 0, 1) := by decide +kernel
theorem dX10_push_45 : decode cX10_push 45 = .ok (.getfield 203, 3) := by decide +kernel
theorem dX10_push_48 : decode cX10_push 48 = .ok (.iconst 0, 1) := by decide +kernel
theorem dX10_push_49 : decode cX10_push 49 = .ok (.bastore, 1) := by decide +kernel
theorem dX10_push_50 : decode cX10_push 50 = .ok (.aload_n 0, 1) := by decide +kernel
theorem dX10_push_51 : decode cX10_push 51 = .ok (.dup, 1) := by decide +kernel
theorem dX10_push_52 : decode cX10_push 52 = .ok (.getfield 203, 3) := by decide +kernel
theorem dX10_push_55 : decode cX10_push 55 = .ok (.iconst 1, 1) := by decide +kernel
theorem dX10_push_56 : decode cX10_push 56 = .ok (.iadd, 1) := by decide +kernel
theorem dX10_push_57 : decode cX10_push 57 = .ok (.putfield 203, 3) := by decide +kernel
theorem dX10_push_60 : decode cX10_push 60 = .ok (.return_, 1) := by decide +kernel
theorem dX10_frames_0 : decode cX10_frames 0 = .ok (.iconst 0, 1) := by decide +kernel
theorem dX10_frames_1 : decode cX10_frames 1 = .ok (.istore_n 2, 1) := by decide +kernel
theorem dX10_frames_2 : decode cX10_frames 2 = .ok (.iconst 0, 1) := by decide +kernel
theorem dX10_frames_3 : decode cX10_frames 3 = .ok (.istore_n 3, 1) := by decide +kernel
theorem dX10_frames_4 : decode cX10_frames 4 = .ok (.iload_n 3, 1) := by decide +kernel
theorem dX10_frames_5 : decode cX10_frames 5 = .ok (.aload_n 0, 1) := by decide +kernel
theorem dX10_frames_6 : decode cX10_frames 6 = .ok (.getfield 203, 3) := by decide +kernel
theorem dX10_frames_9 : decode cX10_frames 9 = .ok (.if_icmp .ge 27, 3) := by decide +kernel
theorem dX10_frames_12 : decode cX10_frames 12 = .ok (.iload_n 2, 1) := by decide +kernel
theorem dX10_frames_13 : decode cX10_frames 13 = .ok (.aload_n 0, 1) := by decide +kernel
theorem dX10_frames_14 : decode cX10_frames 14 = .ok (.getfield 117, 3) := by decide +kernel
theorem dX10_frames_17 : decode cX10_frames 17 = .ok (.iload_n 3, 1) := by decide +kernel
theorem dX10_frames_18 : decode cX10_frames 18 = .ok (.iaload, 1) := by decide +kernel
theorem dX10_frames_19 : decode cX10_frames 19 = .ok (.iload_n 1, 1) := by decide +kernel
theorem dX10_frames_20 : decode cX10_frames 20 = .ok (.if_icmp .ne 7, 3) := by decide +kernel
theorem dX10_frames_23 : decode cX10_frames 23 = .ok (.iconst 1, 1) := by decide +kernel
theorem dX10_frames_24 : decode cX10_frames 24 = .ok (.goto 4, 3) := by decide +kernel
theorem dX10_frames_27 : decode cX10_frames 27 = .ok (.iconst 0, 1) := by decide +kernel
theorem dX10_frames_28 : decode cX10_frames 28 = .ok (.iadd, 1) := by decide +kernel
theorem dX10_frames_29 : decode cX10_frames 29 = .ok (.istore_n 2, 1) := by decide +kernel
theorem dX10_frames_30 : decode cX10_frames 30 = .ok (.iinc 3 1, 3) := by decide +kernel
theorem dX10_frames_33 : decode cX10_frames 33 = .ok (.goto (-29), 3) := by decide +kernel
theorem dX10_frames_36 : decode cX10_frames 36 = .ok (.iload_n 2, 1) := by decide +kernel
theorem dX10_frames_37 : decode cX10_frames 37 = .ok (.ireturn, 1) := by decide +kernel
theorem dX10_notify_0 : decode cX10_notify 0 = .ok (.aload_n 0, 1) := by decide +kernel
theorem dX10_notify_1 : decode cX10_notify 1 = .ok (.getfield 189, 3) := by decide +kernel
theorem dX10_notify_4 : decode cX10_notify 4 = .ok (.aload_n 0, 1) := by decide +kernel
theorem dX10_notify_5 : decode cX10_notify 5 = .ok (.getfield 75, 3) := by decide +kernel
theorem dX10_notify_8 : decode cX10_notify 8 = .ok (.iload_n 1, 1) := by decide +kernel
theorem dX10_notify_9 : decode cX10_notify 9 = .ok (.iaload, 1) := by decide +kernel
theorem dX10_notify_10 : decode cX10_notify 10 = .ok (.if_icmp .ne 32, 3) := by decide +kernel
theorem dX10_notify_13 : decode cX10_notify 13 = .ok (.aload_n 0, 1) := by decide +kernel
theorem dX10_notify_14 : decode cX10_notify 14 = .ok (.iconst 1, 1) := by decide +kernel
theorem dX10_notify_15 : decode cX10_notify 15 = .ok (.invokevirtual 206, 3) := by decide +kernel
theorem dX10_notify_18 : decode cX10_notify 18 = .ok (.iconst 4, 1) := by decide +kernel
theorem dX10_notify_19 : decode cX10_notify 19 = .ok (.if_icmp .ge 23, 3) := by decide +kernel
theorem dX10_notify_22 : decode cX10_notify 22 = .ok (.aload_n 0, 1) := by decide +kernel
theorem dX10_notify_23 : decode cX10_notify 23 = .ok (.aload_n 0, 1) := by decide +kernel
theorem dX10_notify_24 : decode cX10_notify 24 = .ok (.getfield 189, 3) := by decide +kernel
theorem dX10_notify_27 : decode cX10_notify 27 = .ok (.iconst 5, 1) := by decide +kernel
theorem dX10_notify_28 : decode cX10_notify 28 = .ok (.iload_n 2, 1) := by decide +kernel
theorem dX10_notify_29 : decode cX10_notify 29 = .ok (.invokevirtual 155, 3) := by decide +kernel
theorem dX10_notify_32 : decode cX10_notify 32 = .ok (.aload_n 0, 1) := by decide +kernel
theorem dX10_notify_33 : decode cX10_notify 33 = .ok (.iconst 1, 1) := by decide +kernel
theorem dX10_notify_34 : decode cX10_notify 34 = .ok (.iload_n 2, 1) := by decide +kernel
theorem dX10_notify_35 : decode cX10_notify 35 = .ok (.iconst 0, 1) := by decide +kernel
theorem dX10_notify_36 : decode cX10_notify 36 = .ok (.invokevirtual 209, 3) := by decide +kernel
theorem dX10_notify_39 : decode cX10_notify 39 = .ok (.goto 18, 3) := by decide +kernel
theorem dX10_notify_42 : decode cX10_notify 42 = .ok (.aload_n 0, 1) := by decide +kernel
theorem dX10_notify_43 : decode cX10_notify 43 = .ok (.aload_n 0, 1) := by decide +kernel
theorem dX10_notify_44 : decode cX10_notify 44 = .ok (.getfield 75, 3) := by decide +kernel
theorem dX10_notify_47 : decode cX10_notify 47 = .ok (.iload_n 1, 1) := by decide +kernel
theorem dX10_notify_48 : decode cX10_notify 48 = .ok (.iaload, 1) := by decide +kernel
theorem dX10_notify_49 : decode cX10_notify 49 = .ok (.iconst 1, 1) := by decide +kernel
theorem dX10_notify_50 : decode cX10_notify 50 = .ok (.iload_n 2, 1) := by decide +kernel
theorem dX10_notify_51 : decode cX10_notify 51 = .ok (.iconst 0, 1) := by decide +kernel
theorem dX10_notify_52 : decode cX10_notify 52 = .ok (.iload_n 2, 1) := by decide +kernel
theorem dX10_notify_53 : decode cX10_notify 53 = .ok (.invokevirtual 212, 3) := by decide +kernel
theorem dX10_notify_56 : decode cX10_notify 56 = .ok (.pop, 1) := by decide +kernel
theorem dX10_notify_57 : decode cX10_notify 57 = .ok (.return_, 1) := by decide +kernel
theorem dX10_finish_0 : decode cX10_finish 0 = .ok (.aload_n 0, 1) := by decide +kernel
theorem dX10_finish_1 : decode cX10_finish 1 = .ok (.getfield 78, 3) := by decide +kernel
theorem dX10_finish_4 : decode cX10_finish 4 = .ok (.iload_n 1, 1) := by decide +kernel
theorem dX10_finish_5 : decode cX10_finish 5 = .ok (.iaload, 1) := by decide +kernel
theorem dX10_finish_6 : decode cX10_finish 6 = .ok (.ifCond .ne 17, 3) := by decide +kernel
theorem dX10_finish_9 : decode cX10_finish 9 = .ok (.iload_n 2, 1) := by decide +kernel
theorem dX10_finish_10 : decode cX10_finish 10 = .ok (.iconst 3, 1) := by decide +kernel
theorem dX10_finish_11 : decode cX10_finish 11 = .ok (.if_icmp .ne 14, 3) := by decide +kernel
theorem dX10_finish_14 : decode cX10_finish 14 = .ok (.aload_n 0, 1) := by decide +kernel
theorem dX10_finish_15 : decode cX10_finish 15 = .ok (.getfield 84, 3) := by decide +kernel
theorem dX10_finish_18 : decode cX10_finish 18 = .ok (.iload_n 1, 1) := by decide +kernel
theorem dX10_finish_19 : decode cX10_finish 19 = .ok (.baload, 1) := by decide +kernel
theorem dX10_finish_20 : decode cX10_finish 20 = .ok (.ifCond .eq 5, 3) := by decide +kernel
theorem dX10_finish_23 : decode cX10_finish 23 = .ok (.iconst 0, 1) := by decide +kernel
theorem dX10_finish_24 : decode cX10_finish 24 = .ok (.ireturn, 1) := by decide +kernel
theorem dX10_finish_25 : decode cX10_finish 25 = .ok (.aload_n 0, 1) := by decide +kernel
theorem dX10_finish_26 : decode cX10_finish 26 = .ok (.getfield 78, 3) := by decide +kernel
theorem dX10_finish_29 : decode cX10_finish 29 = .ok (.iload_n 1, 1) := by decide +kernel
theorem dX10_finish_30 : decode cX10_finish 30 = .ok (.iload_n 2, 1) := by decide +kernel
theorem dX10_finish_31 : decode cX10_finish 31 = .ok (.iastore, 1) := by decide +kernel
theorem dX10_finish_32 : decode cX10_finish 32 = .ok (.aload_n 0, 1) := by decide +kernel
theorem dX10_finish_33 : decode cX10_finish 33 = .ok (.getfield 81, 3) := by decide +kernel
theorem dX10_finish_36 : decode cX10_finish 36 = .ok (.iload_n 1, 1) := by decide +kernel
theorem dX10_finish_37 : decode cX10_finish 37 = .ok (.iload_n 2, 1) := by decide +kernel
theorem dX10_finish_38 : decode cX10_finish 38 = .ok (.iconst 3, 1) := by decide +kernel
theorem dX10_finish_39 : decode cX10_finish 39 = .ok (.if_icmp .ne 7, 3) := by decide +kernel
theorem dX10_finish_42 : decode cX10_finish 42 = .ok (.iconst 0, 1) := by decide +kernel
theorem dX10_finish_43 : decode cX10_finish 43 = .ok (.goto 4, 3) := by decide +kernel
theorem dX10_finish_46 : decode cX10_finish 46 = .ok (.iload_n 3, 1) := by decide +kernel
theorem dX10_finish_47 : decode cX10_finish 47 = .ok (.iastore, 1) := by decide +kernel
theorem dX10_finish_48 : decode cX10_finish 48 = .ok (.aload_n 0, 1) := by decide +kernel
theorem dX10_finish_49 : decode cX10_finish 49 = .ok (.getfield 87, 3) := by decide +kernel
theorem dX10_finish_52 : decode cX10_finish 52 = .ok (.iload_n 1, 1) := by decide +kernel
theorem dX10_finish_53 : decode cX10_finish 53 = .ok (.iaload, 1) := by decide +kernel
theorem dX10_finish_54 : decode cX10_finish 54 = .ok (.istore 4, 2) := by decide +kernel
theorem dX10_finish_56 : decode cX10_finish 56 = .ok (.aload_n 0, 1) := by decide +kernel
theorem dX10_finish_57 : decode cX10_finish 57 = .ok (.getfield 87, 3) := by decide +kernel
theorem dX10_finish_60 : decode cX10_finish 60 = .ok (.iload_n 1, 1) := by decide +kernel
theorem dX10_finish_61 : decode cX10_finish 61 = .ok (.iconst 0, 1) := by decide +kernel
theorem dX10_finish_62 : decode cX10_finish 62 = .ok (.iastore, 1) := by decide +kernel
theorem dX10_finish_63 : decode cX10_finish 63 = .ok (.iload 4, 2) := by decide +kernel
theorem dX10_finish_65 : decode cX10_finish 65 = .ok (.ifCond .le 11, 3) := by decide +kernel
theorem dX10_finish_68 : decode cX10_finish 68 = .ok (.aload_n 0, 1) := by decide +kernel
theorem dX10_finish_69 : decode cX10_finish 69 = .ok (.iconst 3, 1) := by decide +kernel
theorem dX10_finish_70 : decode cX10_finish 70 = .ok (.iload_n 1, 1) := by decide +kernel
theorem dX10_finish_71 : decode cX10_finish 71 = .ok (.iload 4, 2) := by decide +kernel
theorem dX10_finish_73 : decode cX10_finish 73 = .ok (.invokevirtual 209, 3) := by decide +kernel
theorem dX10_finish_76 : decode cX10_finish 76 = .ok (.iconst 1, 1) := by decide +kernel
theorem dX10_finish_77 : decode cX10_finish 77 = .ok (.ireturn, 1) := by decide +kernel
theorem dX10_send_0 : decode cX10_send 0 = .ok (.aload_n 0, 1) := by decide +kernel
theorem dX10_send_1 : decode cX10_send 1 = .ok (.getfield 189, 3) := by decide +kernel
theorem dX10_send_4 : decode cX10_send 4 = .ok (.aload_n 0, 1) := by decide +kernel
theorem dX10_send_5 : decode cX10_send 5 = .ok (.getfield 93, 3) := by decide +kernel
theorem dX10_send_8 : decode cX10_send 8 = .ok (.iload_n 1, 1) := by decide +kernel
theorem dX10_send_9 : decode cX10_send 9 = .ok (.iaload, 1) := by decide +kernel
theorem dX10_send_10 : decode cX10_send 10 = .ok (.if_icmp .ne 21, 3) := by decide +kernel
theorem dX10_send_13 : decode cX10_send 13 = .ok (.aload_n 0, 1) := by decide +kernel
theorem dX10_send_14 : decode cX10_send 14 = .ok (.iconst 4, 1) := by decide +kernel
theorem dX10_send_15 : decode cX10_send 15 = .ok (.invokevirtual 206, 3) := by decide +kernel
theorem dX10_send_18 : decode cX10_send 18 = .ok (.iconst 4, 1) := by decide +kernel
theorem dX10_send_19 : decode cX10_send 19 = .ok (.if_icmp .ge 12, 3) := by decide +kernel
theorem dX10_send_22 : decode cX10_send 22 = .ok (.aload_n 0, 1) := by decide +kernel
theorem dX10_send_23 : decode cX10_send 23 = .ok (.iconst 4, 1) := by decide +kernel
theorem dX10_send_24 : decode cX10_send 24 = .ok (.iload_n 1, 1) := by decide +kernel
theorem dX10_send_25 : decode cX10_send 25 = .ok (.iload_n 2, 1) := by decide +kernel
theorem dX10_send_26 : decode cX10_send 26 = .ok (.invokevirtual 209, 3) := by decide +kernel
theorem dX10_send_29 : decode cX10_send 29 = .ok (.iconst 1, 1) := by decide +kernel
theorem dX10_send_30 : decode cX10_send 30 = .ok (.ireturn, 1) := by decide +kernel
theorem dX10_send_31 : decode cX10_send 31 = .ok (.aload_n 0, 1) := by decide +kernel
theorem dX10_send_32 : decode cX10_send 32 = .ok (.aload_n 0, 1) := by decide +kernel
theorem dX10_send_33 : decode cX10_send 33 = .ok (.getfield 93, 3) := by decide +kernel
theorem dX10_send_36 : decode cX10_send 36 = .ok (.iload_n 1, 1) := by decide +kernel
theorem dX10_send_37 : decode cX10_send 37 = .ok (.iaload, 1) := by decide +kernel
theorem dX10_send_38 : decode cX10_send 38 = .ok (.iconst 2, 1) := by decide +kernel
theorem dX10_send_39 : decode cX10_send 39 = .ok (.iload_n 1, 1) := by decide +kernel
theorem dX10_send_40 : decode cX10_send 40 = .ok (.iload_n 2, 1) := by decide +kernel
theorem dX10_send_41 : decode cX10_send 41 = .ok (.iconst (-1), 1) := by decide +kernel
theorem dX10_send_42 : decode cX10_send 42 = .ok (.invokevirtual 212, 3) := by decide +kernel
theorem dX10_send_45 : decode cX10_send 45 = .ok (.ireturn, 1) := by decide +kernel
theorem dX10_shut_0 : decode cX10_shut 0 = .ok (.iconst 0, 1) := by decide +kernel
theorem dX10_shut_1 : decode cX10_shut 1 = .ok (.istore_n 3, 1) := by decide +kernel
theorem dX10_shut_2 : decode cX10_shut 2 = .ok (.iload_n 3, 1) := by decide +kernel
theorem dX10_shut_3 : decode cX10_shut 3 = .ok (.aload_n 0, 1) := by decide +kernel
theorem dX10_shut_4 : decode cX10_shut 4 = .ok (.getfield 132, 3) := by decide +kernel
theorem dX10_shut_7 : decode cX10_shut 7 = .ok (.if_icmp .ge 61, 3) := by decide +kernel
theorem dX10_shut_10 : decode cX10_shut 10 = .ok (.aload_n 0, 1) := by decide +kernel
theorem dX10_shut_11 : decode cX10_shut 11 = .ok (.getfield 22, 3) := by decide +kernel
theorem dX10_shut_14 : decode cX10_shut 14 = .ok (.iload_n 3, 1) := by decide +kernel
theorem dX10_shut_15 : decode cX10_shut 15 = .ok (.iaload, 1) := by decide +kernel
theorem dX10_shut_16 : decode cX10_shut 16 = .ok (.iconst 3, 1) := by decide +kernel
theorem dX10_shut_17 : decode cX10_shut 17 = .ok (.if_icmp .ge 45, 3) := by decide +kernel
theorem dX10_shut_20 : decode cX10_shut 20 = .ok (.aload_n 0, 1) := by decide +kernel
theorem dX10_shut_21 : decode cX10_shut 21 = .ok (.getfield 53, 3) := by decide +kernel
theorem dX10_shut_24 : decode cX10_shut 24 = .ok (.iload_n 3, 1) := by decide +kernel
theorem dX10_shut_25 : decode cX10_shut 25 = .ok (.iload_n 1, 1) := by decide +kernel
theorem dX10_shut_26 : decode cX10_shut 26 = .ok (.i2l, 1) := by decide +kernel
theorem dX10_shut_27 : decode cX10_shut 27 = .ok (.lastore, 1) := by decide +kernel
theorem dX10_shut_28 : decode cX10_shut 28 = .ok (.aload_n 0, 1) := by decide +kernel
theorem dX10_shut_29 : decode cX10_shut 29 = .ok (.getfield 57, 3) := by decide +kernel
theorem dX10_shut_32 : decode cX10_shut 32 = .ok (.iload_n 3, 1) := by decide +kernel
theorem dX10_shut_33 : decode cX10_shut 33 = .ok (.iload_n 2, 1) := by decide +kernel
theorem dX10_shut_34 : decode cX10_shut 34 = .ok (.i2l, 1) := by decide +kernel
theorem dX10_shut_35 : decode cX10_shut 35 = .ok (.lastore, 1) := by decide +kernel
theorem dX10_shut_36 : decode cX10_shut 36 = .ok (.aload_n 0, 1) := by decide +kernel
theorem dX10_shut_37 : decode cX10_shut 37 = .ok (.getfield 60, 3) := by decide +kernel
theorem dX10_shut_40 : decode cX10_shut 40 = .ok (.iload_n 3, 1) := by decide +kernel
theorem dX10_shut_41 : decode cX10_shut 41 = .ok (.aload_n 0, 1) := by decide +kernel
theorem dX10_shut_42 : decode cX10_shut 42 = .ok (.getfield 182, 3) := by decide +kernel
theorem dX10_shut_45 : decode cX10_shut 45 = .ok (.lastore, 1) := by decide +kernel
theorem dX10_shut_46 : decode cX10_shut 46 = .ok (.aload_n 0, 1) := by decide +kernel
theorem dX10_shut_47 : decode cX10_shut 47 = .ok (.getfield 63, 3) := by decide +kernel
theorem dX10_shut_50 : decode cX10_shut 50 = .ok (.iload_n 3, 1) := by decide +kernel
theorem dX10_shut_51 : decode cX10_shut 51 = .ok (.aload_n 0, 1) := by decide +kernel
theorem dX10_shut_52 : decode cX10_shut 52 = .ok (.getfield 182, 3) := by decide +kernel
theorem dX10_shut_55 : decode cX10_shut 55 = .ok (.lastore, 1) := by decide +kernel
theorem dX10_shut_56 : decode cX10_shut 56 = .ok (.aload_n 0, 1) := by decide +kernel
theorem dX10_shut_57 : decode cX10_shut 57 = .ok (.iload_n 3, 1) := by decide +kernel
theorem dX10_shut_58 : decode cX10_shut 58 = .ok (.iconst 3, 1) := by decide +kernel
theorem dX10_shut_59 : decode cX10_shut 59 = .ok (.invokevirtual 192, 3) := by decide +kernel
theorem dX10_shut_62 : decode cX10_shut 62 = .ok (.iinc 3 1, 3) := by decide +kernel
theorem dX10_shut_65 : decode cX10_shut 65 = .ok (.goto (-63), 3) := by decide +kernel
theorem dX10_shut_68 : decode cX10_shut 68 = .ok (.return_, 1) := by decide +kernel
theorem dX10_isSo_0 : decode cX10_isSo 0 = .ok (.iload_n 1, 1) := by decide +kernel
theorem dX10_isSo_1 : decode cX10_isSo 1 = .ok (.tableswitch 202 1 13 #[67, 99, 117, 131, 131, 131, 137, 131, 179, 181, 181, 187, 131], 67) := by decide +kernel
theorem dX10_isSo_68 : decode cX10_isSo 68 = .ok (.aload_n 0, 1) := by decide +kernel
theorem dX10_isSo_69 : decode cX10_isSo 69 = .ok (.iload_n 2, 1) := by decide +kernel
theorem dX10_isSo_70 : decode cX10_isSo 70 = .ok (.invokevirtual 163, 3) := by decide +kernel
theorem dX10_isSo_73 : decode cX10_isSo 73 = .ok (.ifCond .eq 25, 3) := by decide +kernel
theorem dX10_isSo_76 : decode cX10_isSo 76 = .ok (.iload_n 3, 1) := by decide +kernel
theorem dX10_isSo_77 : decode cX10_isSo 77 = .ok (.i2l, 1) := by decide +kernel
theorem dX10_isSo_78 : decode cX10_isSo 78 = .ok (.ldc2_w 216, 3) := by decide +kernel
theorem dX10_isSo_81 : decode cX10_isSo 81 = .ok (.aload_n 0, 1) := by decide +kernel
theorem dX10_isSo_82 : decode cX10_isSo 82 = .ok (.getfield 132, 3) := by decide +kernel
theorem dX10_isSo_85 : decode cX10_isSo 85 = .ok (.iconst 1, 1) := by decide +kernel
theorem dX10_isSo_86 : decode cX10_isSo 86 = .ok (.isub, 1) := by decide +kernel
theorem dX10_isSo_87 : decode cX10_isSo 87 = .ok (.i2l, 1) := by decide +kernel
theorem dX10_isSo_88 : decode cX10_isSo 88 = .ok (.invokestatic 142, 3) := by decide +kernel
theorem dX10_isSo_91 : decode cX10_isSo 91 = .ok (.ifCond .eq 7, 3) := by decide +kernel
theorem dX10_isSo_94 : decode cX10_isSo 94 = .ok (.iconst 1, 1) := by decide +kernel
theorem dX10_isSo_95 : decode cX10_isSo 95 = .ok (.goto 4, 3) := by decide +kernel
theorem dX10_isSo_98 : decode cX10_isSo 98 = .ok (.iconst 0, 1) := by decide +kernel
theorem dX10_isSo_99 : decode cX10_isSo 99 = .ok (.ireturn, 1) := by decide +kernel
theorem dX10_isSo_100 : decode cX10_isSo 100 = .ok (.aload_n 0, 1) := by decide +kernel
theorem dX10_isSo_101 : decode cX10_isSo 101 = .ok (.iload_n 2, 1) := by decide +kernel
theorem dX10_isSo_102 : decode cX10_isSo 102 = .ok (.invokevirtual 163, 3) := by decide +kernel
theorem dX10_isSo_105 : decode cX10_isSo 105 = .ok (.ifCond .eq 11, 3) := by decide +kernel
theorem dX10_isSo_108 : decode cX10_isSo 108 = .ok (.iload_n 3, 1) := by decide +kernel
theorem dX10_isSo_109 : decode cX10_isSo 109 = .ok (.ifCond .lt 7, 3) := by decide +kernel
theorem dX10_isSo_112 : decode cX10_isSo 112 = .ok (.iconst 1, 1) := by decide +kernel
theorem dX10_isSo_113 : decode cX10_isSo 113 = .ok (.goto 4, 3) := by decide +kernel
theorem dX10_isSo_116 : decode cX10_isSo 116 = .ok (.iconst 0, 1) := by decide +kernel
theorem dX10_isSo_117 : decode cX10_isSo 117 = .ok (.ireturn, 1) := by decide +kernel
theorem dX10_isSo_118 : decode cX10_isSo 118 = .ok (.iload_n 2, 1) := by decide +kernel
theorem dX10_isSo_119 : decode cX10_isSo 119 = .ok (.i2l, 1) := by decide +kernel
theorem dX10_isSo_120 : decode cX10_isSo 120 = .ok (.lconst 0, 1) := by decide +kernel
theorem dX10_isSo_121 : decode cX10_isSo 121 = .ok (.aload_n 0, 1) := by decide +kernel
theorem dX10_isSo_122 : decode cX10_isSo 122 = .ok (.getfield 196, 3) := by decide +kernel
theorem dX10_isSo_125 : decode cX10_isSo 125 = .ok (.iconst 1, 1) := by decide +kernel
theorem dX10_isSo_126 : decode cX10_isSo 126 = .ok (.isub, 1) := by decide +kernel
theorem dX10_isSo_127 : decode cX10_isSo 127 = .ok (.i2l, 1) := by decide +kernel
theorem dX10_isSo_128 : decode cX10_isSo 128 = .ok (.invokestatic 142, 3) := by decide +kernel
theorem dX10_isSo_131 : decode cX10_isSo 131 = .ok (.ireturn, 1) := by decide +kernel
theorem dX10_isSo_132 : decode cX10_isSo 132 = .ok (.aload_n 0, 1) := by decide +kernel
theorem dX10_isSo_133 : decode cX10_isSo 133 = .ok (.iload_n 2, 1) := by decide +kernel
theorem dX10_isSo_134 : decode cX10_isSo 134 = .ok (.invokevirtual 218, 3) := by decide +kernel
theorem dX10_isSo_137 : decode cX10_isSo 137 = .ok (.ireturn, 1) := by decide +kernel
theorem dX10_isSo_138 : decode cX10_isSo 138 = .ok (.aload_n 0, 1) := by decide +kernel
theorem dX10_isSo_139 : decode cX10_isSo 139 = .ok (.iload_n 2, 1) := by decide +kernel
theorem dX10_isSo_140 : decode cX10_isSo 140 = .ok (.invokevirtual 218, 3) := by decide +kernel
theorem dX10_isSo_143 : decode cX10_isSo 143 = .ok (.ifCond .eq 35, 3) := by decide +kernel
theorem dX10_isSo_146 : decode cX10_isSo 146 = .ok (.aload_n 0, 1) := by decide +kernel
theorem dX10_isSo_147 : decode cX10_isSo 147 = .ok (.iload_n 3, 1) := by decide +kernel
theorem dX10_isSo_148 : decode cX10_isSo 148 = .ok (.invokevirtual 163, 3) := by decide +kernel
theorem dX10_isSo_151 : decode cX10_isSo 151 = .ok (.ifCond .eq 27, 3) := by decide +kernel
theorem dX10_isSo_154 : decode cX10_isSo 154 = .ok (.aload_n 0, 1) := by decide +kernel
theorem dX10_isSo_155 : decode cX10_isSo 155 = .ok (.getfield 78, 3) := by decide +kernel
theorem dX10_isSo_158 : decode cX10_isSo 158 = .ok (.iload_n 2, 1) := by decide +kernel
theorem dX10_isSo_159 : decode cX10_isSo 159 = .ok (.iaload, 1) := by decide +kernel
theorem dX10_isSo_160 : decode cX10_isSo 160 = .ok (.ifCond .ne 14, 3) := by decide +kernel
theorem dX10_isSo_163 : decode cX10_isSo 163 = .ok (.aload_n 0, 1) := by decide +kernel
theorem dX10_isSo_164 : decode cX10_isSo 164 = .ok (.getfield 87, 3) := by decide +kernel
theorem dX10_isSo_167 : decode cX10_isSo 167 = .ok (.iload_n 2, 1) := by decide +kernel
theorem dX10_isSo_168 : decode cX10_isSo 168 = .ok (.iaload, 1) := by decide +kernel
theorem dX10_isSo_169 : decode cX10_isSo 169 = .ok (.bipush 6, 2) := by decide +kernel
theorem dX10_isSo_171 : decode cX10_isSo 171 = .ok (.if_icmp .ge 7, 3) := by decide +kernel
theorem dX10_isSo_174 : decode cX10_isSo 174 = .ok (.iconst 1, 1) := by decide +kernel
theorem dX10_isSo_175 : decode cX10_isSo 175 = .ok (.goto 4, 3) := by decide +kernel
theorem dX10_isSo_178 : decode cX10_isSo 178 = .ok (.iconst 0, 1) := by decide +kernel
theorem dX10_isSo_179 : decode cX10_isSo 179 = .ok (.ireturn, 1) := by decide +kernel
theorem dX10_isSo_180 : decode cX10_isSo 180 = .ok (.iconst 0, 1) := by decide +kernel
theorem dX10_isSo_181 : decode cX10_isSo 181 = .ok (.ireturn, 1) := by decide +kernel
theorem dX10_isSo_182 : decode cX10_isSo 182 = .ok (.aload_n 0, 1) := by decide +kernel
theorem dX10_isSo_183 : decode cX10_isSo 183 = .ok (.iload_n 2, 1) := by decide +kernel
theorem dX10_isSo_184 : decode cX10_isSo 184 = .ok (.invokevirtual 172, 3) := by decide +kernel
theorem dX10_isSo_187 : decode cX10_isSo 187 = .ok (.ireturn, 1) := by decide +kernel
theorem dX10_isSo_188 : decode cX10_isSo 188 = .ok (.iload_n 2, 1) := by decide +kernel
theorem dX10_isSo_189 : decode cX10_isSo 189 = .ok (.ifCond .lt 12, 3) := by decide +kernel
theorem dX10_isSo_192 : decode cX10_isSo 192 = .ok (.iload_n 3, 1) := by decide +kernel
theorem dX10_isSo_193 : decode cX10_isSo 193 = .ok (.iload_n 2, 1) := by decide +kernel
theorem dX10_isSo_194 : decode cX10_isSo 194 = .ok (.if_icmp .lt 7, 3) := by decide +kernel
theorem dX10_isSo_197 : decode cX10_isSo 197 = .ok (.iconst 1, 1) := by decide +kernel
theorem dX10_isSo_198 : decode cX10_isSo 198 = .ok (.goto 4, 3) := by decide +kernel
theorem dX10_isSo_201 : decode cX10_isSo 201 = .ok (.iconst 0, 1) := by decide +kernel
theorem dX10_isSo_202 : decode cX10_isSo 202 = .ok (.ireturn, 1) := by decide +kernel
theorem dX10_isSo_203 : decode cX10_isSo 203 = .ok (.iconst 1, 1) := by decide +kernel
theorem dX10_isSo_204 : decode cX10_isSo 204 = .ok (.ireturn, 1) := by decide +kernel
theorem dX10_work_0 : decode cX10_work 0 = .ok (.aload_n 0, 1) := by decide +kernel
theorem dX10_work_1 : decode cX10_work 1 = .ok (.getfield 203, 3) := by decide +kernel
theorem dX10_work_4 : decode cX10_work 4 = .ok (.iconst 1, 1) := by decide +kernel
theorem dX10_work_5 : decode cX10_work 5 = .ok (.isub, 1) := by decide +kernel
theorem dX10_work_6 : decode cX10_work 6 = .ok (.istore_n 1, 1) := by decide +kernel
theorem dX10_work_7 : decode cX10_work 7 = .ok (.aload_n 0, 1) := by decide +kernel
theorem dX10_work_8 : decode cX10_work 8 = .ok (.getfield 120, 3) := by decide +kernel
theorem dX10_work_11 : decode cX10_work 11 = .ok (.iload_n 1, 1) := by decide +kernel
theorem dX10_work_12 : decode cX10_work 12 = .ok (.iaload, 1) := by decide +kernel
theorem dX10_work_13 : decode cX10_work 13 = .ok (.istore_n 2, 1) := by decide +kernel
theorem dX10_work_14 : decode cX10_work 14 = .ok (.bipush 8, 2) := by decide +kernel
theorem dX10_work_16 : decode cX10_work 16 = .ok (.iload_n 2, 1) := by decide +kernel
theorem dX10_work_17 : decode cX10_work 17 = .ok (.imul, 1) := by decide +kernel
theorem dX10_work_18 : decode cX10_work 18 = .ok (.aload_n 0, 1) := by decide +kernel
theorem dX10_work_19 : decode cX10_work 19 = .ok (.getfield 123, 3) := by decide +kernel
theorem dX10_work_22 : decode cX10_work 22 = .ok (.iload_n 1, 1) := by decide +kernel
theorem dX10_work_23 : decode cX10_work 23 = .ok (.iaload, 1) := by decide +kernel
theorem dX10_work_24 : decode cX10_work 24 = .ok (.iadd, 1) := by decide +kernel
theorem dX10_work_25 : decode cX10_work 25 = .ok (.istore_n 3, 1) := by decide +kernel
theorem dX10_work_26 : decode cX10_work 26 = .ok (.aload_n 0, 1) := by decide +kernel
theorem dX10_work_27 : decode cX10_work 27 = .ok (.getfield 13, 3) := by decide +kernel
theorem dX10_work_30 : decode cX10_work 30 = .ok (.iload_n 3, 1) := by decide +kernel
theorem dX10_work_31 : decode cX10_work 31 = .ok (.iaload, 1) := by decide +kernel
theorem dX10_work_32 : decode cX10_work 32 = .ok (.istore 4, 2) := by decide +kernel
theorem dX10_work_34 : decode cX10_work 34 = .ok (.aload_n 0, 1) := by decide +kernel
theorem dX10_work_35 : decode cX10_work 35 = .ok (.getfield 16, 3) := by decide +kernel
theorem dX10_work_38 : decode cX10_work 38 = .ok (.iload_n 3, 1) := by decide +kernel
theorem dX10_work_39 : decode cX10_work 39 = .ok (.iaload, 1) := by decide +kernel
theorem dX10_work_40 : decode cX10_work 40 = .ok (.istore 5, 2) := by decide +kernel
theorem dX10_work_42 : decode cX10_work 42 = .ok (.aload_n 0, 1) := by decide +kernel
theorem dX10_work_43 : decode cX10_work 43 = .ok (.getfield 19, 3) := by decide +kernel
theorem dX10_work_46 : decode cX10_work 46 = .ok (.iload_n 3, 1) := by decide +kernel
theorem dX10_work_47 : decode cX10_work 47 = .ok (.iaload, 1) := by decide +kernel
theorem dX10_work_48 : decode cX10_work 48 = .ok (.istore 6, 2) := by decide +kernel
theorem dX10_work_50 : decode cX10_work 50 = .ok (.aload_n 0, 1) := by decide +kernel
theorem dX10_work_51 : decode cX10_work 51 = .ok (.getfield 123, 3) := by decide +kernel
theorem dX10_work_54 : decode cX10_work 54 = .ok (.iload_n 1, 1) := by decide +kernel
theorem dX10_work_55 : decode cX10_work 55 = .ok (.dup2, 1) := by decide +kernel
theorem dX10_work_56 : decode cX10_work 56 = .ok (.iaload, 1) := by decide +kernel
theorem dX10_work_57 : decode cX10_work 57 = .ok (.iconst 1, 1) := by decide +kernel
theorem dX10_work_58 : decode cX10_work 58 = .ok (.iadd, 1) := by decide +kernel
theorem dX10_work_59 : decode cX10_work 59 = .ok (.iastore, 1) := by decide +kernel
theorem dX10_work_60 : decode cX10_work 60 = .ok (.aload_n 0, 1) := by decide +kernel
theorem dX10_work_61 : decode cX10_work 61 = .ok (.dup, 1) := by decide +kernel
theorem dX10_work_62 : decode cX10_work 62 = .ok (.getfield 221, 3) := by decide +kernel
theorem dX10_work_65 : decode cX10_work 65 = .ok (.iconst 1, 1) := by decide +kernel
theorem dX10_work_66 : decode cX10_work 66 = .ok (.iadd, 1) := by decide +kernel
theorem dX10_work_67 : decode cX10_work 67 = .ok (.putfield 221, 3) := by decide +kernel
theorem dX10_work_70 : decode cX10_work 70 = .ok (.aload_n 0, 1) := by decide +kernel
theorem dX10_work_71 : decode cX10_work 71 = .ok (.getfield 221, 3) := by decide +kernel
theorem dX10_work_74 : decode cX10_work 74 = .ok (.sipush 1000, 3) := by decide +kernel
theorem dX10_work_77 : decode cX10_work 77 = .ok (.if_icmp .gt 16, 3) := by decide +kernel
theorem dX10_work_80 : decode cX10_work 80 = .ok (.aload_n 0, 1) := by decide +kernel
theorem dX10_work_81 : decode cX10_work 81 = .ok (.iload 4, 2) := by decide +kernel
theorem dX10_work_83 : decode cX10_work 83 = .ok (.iload 5, 2) := by decide +kernel
theorem dX10_work_85 : decode cX10_work 85 = .ok (.iload 6, 2) := by decide +kernel
theorem dX10_work_87 : decode cX10_work 87 = .ok (.invokevirtual 224, 3) := by decide +kernel
theorem dX10_work_90 : decode cX10_work 90 = .ok (.ifCond .ne 24, 3) := by decide +kernel
theorem dX10_work_93 : decode cX10_work 93 = .ok (.aload_n 0, 1) := by decide +kernel
theorem dX10_work_94 : decode cX10_work 94 = .ok (.aload_n 0, 1) := by decide +kernel
theorem dX10_work_95 : decode cX10_work 95 = .ok (.getfield 189, 3) := by decide +kernel
theorem dX10_work_98 : decode cX10_work 98 = .ok (.iconst 2, 1) := by decide +kernel
theorem dX10_work_99 : decode cX10_work 99 = .ok (.iload_n 2, 1) := by decide +kernel
theorem dX10_work_100 : decode cX10_work 100 = .ok (.invokevirtual 155, 3) := by decide +kernel
theorem dX10_work_103 : decode cX10_work 103 = .ok (.aload_n 0, 1) := by decide +kernel
theorem dX10_work_104 : decode cX10_work 104 = .ok (.dup, 1) := by decide +kernel
theorem dX10_work_105 : decode cX10_work 105 = .ok (.getfield 203, 3) := by decide +kernel
theorem dX10_work_108 : decode cX10_work 108 = .ok (.iconst 1, 1) := by decide +kernel
theorem dX10_work_109 : decode cX10_work 109 = .ok (.isub, 1) := by decide +kernel
theorem dX10_work_110 : decode cX10_work 110 = .ok (.putfield 203, 3) := by decide +kernel
theorem dX10_work_113 : decode cX10_work 113 = .ok (.return_, 1) := by decide +kernel
theorem dX10_work_114 : decode cX10_work 114 = .ok (.iload 4, 2) := by decide +kernel
theorem dX10_work_116 : decode cX10_work 116 = .ok (.tableswitch 238 0 12 #[68, 82, 125, 142, 153, 153, 169, 181, 192, 238, 201, 213, 227], 68) := by decide +kernel
theorem dX10_work_184 : decode cX10_work 184 = .ok (.aload_n 0, 1) := by decide +kernel
theorem dX10_work_185 : decode cX10_work 185 = .ok (.aload_n 0, 1) := by decide +kernel
theorem dX10_work_186 : decode cX10_work 186 = .ok (.getfield 189, 3) := by decide +kernel
theorem dX10_work_189 : decode cX10_work 189 = .ok (.iconst 0, 1) := by decide +kernel
theorem dX10_work_190 : decode cX10_work 190 = .ok (.iload 5, 2) := by decide +kernel
theorem dX10_work_192 : decode cX10_work 192 = .ok (.invokevirtual 155, 3) := by decide +kernel
theorem dX10_work_195 : decode cX10_work 195 = .ok (.goto 167, 3) := by decide +kernel
theorem dX10_work_198 : decode cX10_work 198 = .ok (.aload_n 0, 1) := by decide +kernel
theorem dX10_work_199 : decode cX10_work 199 = .ok (.iload 6, 2) := by decide +kernel
theorem dX10_work_201 : decode cX10_work 201 = .ok (.iconst (-1), 1) := by decide +kernel
theorem dX10_work_202 : decode cX10_work 202 = .ok (.if_icmp .ne 10, 3) := by decide +kernel
theorem dX10_work_205 : decode cX10_work 205 = .ok (.aload_n 0, 1) := by decide +kernel
theorem dX10_work_206 : decode cX10_work 206 = .ok (.getfield 189, 3) := by decide +kernel
theorem dX10_work_209 : decode cX10_work 209 = .ok (.goto 19, 3) := by decide +kernel
theorem dX10_work_212 : decode cX10_work 212 = .ok (.iload 6, 2) := by decide +kernel
theorem dX10_work_214 : decode cX10_work 214 = .ok (.bipush (-2), 2) := by decide +kernel
theorem dX10_work_216 : decode cX10_work 216 = .ok (.if_icmp .ne 10, 3) := by decide +kernel
theorem dX10_work_219 : decode cX10_work 219 = .ok (.aload_n 0, 1) := by decide +kernel
theorem dX10_work_220 : decode cX10_work 220 = .ok (.invokevirtual 228, 3) := by decide +kernel
theorem dX10_work_223 : decode cX10_work 223 = .ok (.goto 5, 3) := by decide +kernel
theorem dX10_work_226 : decode cX10_work 226 = .ok (.iload 6, 2) := by decide +kernel
theorem dX10_work_228 : decode cX10_work 228 = .ok (.iconst 0, 1) := by decide +kernel
theorem dX10_work_229 : decode cX10_work 229 = .ok (.iload 5, 2) := by decide +kernel
theorem dX10_work_231 : decode cX10_work 231 = .ok (.iconst 0, 1) := by decide +kernel
theorem dX10_work_232 : decode cX10_work 232 = .ok (.iload 5, 2) := by decide +kernel
theorem dX10_work_234 : decode cX10_work 234 = .ok (.invokevirtual 212, 3) := by decide +kernel
theorem dX10_work_237 : decode cX10_work 237 = .ok (.pop, 1) := by decide +kernel
theorem dX10_work_238 : decode cX10_work 238 = .ok (.goto 124, 3) := by decide +kernel
theorem dX10_work_241 : decode cX10_work 241 = .ok (.aload_n 0, 1) := by decide +kernel
theorem dX10_work_242 : decode cX10_work 242 = .ok (.iload 5, 2) := by decide +kernel
theorem dX10_work_244 : decode cX10_work 244 = .ok (.iload 6, 2) := by decide +kernel
theorem dX10_work_246 : decode cX10_work 246 = .ok (.i2l, 1) := by decide +kernel
theorem dX10_work_247 : decode cX10_work 247 = .ok (.aload_n 0, 1) := by decide +kernel
theorem dX10_work_248 : decode cX10_work 248 = .ok (.getfield 189, 3) := by decide +kernel
theorem dX10_work_251 : decode cX10_work 251 = .ok (.invokevirtual 232, 3) := by decide +kernel
theorem dX10_work_254 : decode cX10_work 254 = .ok (.pop, 1) := by decide +kernel
theorem dX10_work_255 : decode cX10_work 255 = .ok (.goto 107, 3) := by decide +kernel
theorem dX10_work_258 : decode cX10_work 258 = .ok (.aload_n 0, 1) := by decide +kernel
theorem dX10_work_259 : decode cX10_work 259 = .ok (.getfield 72, 3) := by decide +kernel
theorem dX10_work_262 : decode cX10_work 262 = .ok (.iload 5, 2) := by decide +kernel
theorem dX10_work_264 : decode cX10_work 264 = .ok (.iconst (-1), 1) := by decide +kernel
theorem dX10_work_265 : decode cX10_work 265 = .ok (.iastore, 1) := by decide +kernel
theorem dX10_work_266 : decode cX10_work 266 = .ok (.goto 96, 3) := by decide +kernel
theorem dX10_work_269 : decode cX10_work 269 = .ok (.aload_n 0, 1) := by decide +kernel
theorem dX10_work_270 : decode cX10_work 270 = .ok (.iload 5, 2) := by decide +kernel
theorem dX10_work_272 : decode cX10_work 272 = .ok (.iload 4, 2) := by decide +kernel
theorem dX10_work_274 : decode cX10_work 274 = .ok (.iconst 3, 1) := by decide +kernel
theorem dX10_work_275 : decode cX10_work 275 = .ok (.isub, 1) := by decide +kernel
theorem dX10_work_276 : decode cX10_work 276 = .ok (.iload 6, 2) := by decide +kernel
theorem dX10_work_278 : decode cX10_work 278 = .ok (.invokevirtual 236, 3) := by decide +kernel
theorem dX10_work_281 : decode cX10_work 281 = .ok (.pop, 1) := by decide +kernel
theorem dX10_work_282 : decode cX10_work 282 = .ok (.goto 80, 3) := by decide +kernel
theorem dX10_work_285 : decode cX10_work 285 = .ok (.aload_n 0, 1) := by decide +kernel
theorem dX10_work_286 : decode cX10_work 286 = .ok (.iload 5, 2) := by decide +kernel
theorem dX10_work_288 : decode cX10_work 288 = .ok (.iconst 3, 1) := by decide +kernel
theorem dX10_work_289 : decode cX10_work 289 = .ok (.iconst 0, 1) := by decide +kernel
theorem dX10_work_290 : decode cX10_work 290 = .ok (.invokevirtual 236, 3) := by decide +kernel
theorem dX10_work_293 : decode cX10_work 293 = .ok (.pop, 1) := by decide +kernel
theorem dX10_work_294 : decode cX10_work 294 = .ok (.goto 68, 3) := by decide +kernel
theorem dX10_work_297 : decode cX10_work 297 = .ok (.aload_n 0, 1) := by decide +kernel
theorem dX10_work_298 : decode cX10_work 298 = .ok (.iload 5, 2) := by decide +kernel
theorem dX10_work_300 : decode cX10_work 300 = .ok (.iload 6, 2) := by decide +kernel
theorem dX10_work_302 : decode cX10_work 302 = .ok (.invokevirtual 239, 3) := by decide +kernel
theorem dX10_work_305 : decode cX10_work 305 = .ok (.goto 57, 3) := by decide +kernel
theorem dX10_work_308 : decode cX10_work 308 = .ok (.aload_n 0, 1) := by decide +kernel
theorem dX10_work_309 : decode cX10_work 309 = .ok (.iload 5, 2) := by decide +kernel
theorem dX10_work_311 : decode cX10_work 311 = .ok (.invokevirtual 242, 3) := by decide +kernel
theorem dX10_work_314 : decode cX10_work 314 = .ok (.goto 48, 3) := by decide +kernel
theorem dX10_work_317 : decode cX10_work 317 = .ok (.aload_n 0, 1) := by decide +kernel
theorem dX10_work_318 : decode cX10_work 318 = .ok (.iload 5, 2) := by decide +kernel
theorem dX10_work_320 : decode cX10_work 320 = .ok (.iload 6, 2) := by decide +kernel
theorem dX10_work_322 : decode cX10_work 322 = .ok (.invokevirtual 246, 3) := by decide +kernel
theorem dX10_work_325 : decode cX10_work 325 = .ok (.pop, 1) := by decide +kernel
theorem dX10_work_326 : decode cX10_work 326 = .ok (.goto 36, 3) := by decide +kernel
theorem dX10_work_329 : decode cX10_work 329 = .ok (.aload_n 0, 1) := by decide +kernel
theorem dX10_work_330 : decode cX10_work 330 = .ok (.iload 5, 2) := by decide +kernel
theorem dX10_work_332 : decode cX10_work 332 = .ok (.iconst 1, 1) := by decide +kernel
theorem dX10_work_333 : decode cX10_work 333 = .ok (.ixor, 1) := by decide +kernel
theorem dX10_work_334 : decode cX10_work 334 = .ok (.iload 6, 2) := by decide +kernel
theorem dX10_work_336 : decode cX10_work 336 = .ok (.invokevirtual 246, 3) := by decide +kernel
theorem dX10_work_339 : decode cX10_work 339 = .ok (.pop, 1) := by decide +kernel
theorem dX10_work_340 : decode cX10_work 340 = .ok (.goto 22, 3) := by decide +kernel
theorem dX10_work_343 : decode cX10_work 343 = .ok (.aload_n 0, 1) := by decide +kernel
theorem dX10_work_344 : decode cX10_work 344 = .ok (.iload 5, 2) := by decide +kernel
theorem dX10_work_346 : decode cX10_work 346 = .ok (.iload 6, 2) := by decide +kernel
theorem dX10_work_348 : decode cX10_work 348 = .ok (.invokevirtual 250, 3) := by decide +kernel
theorem dX10_work_351 : decode cX10_work 351 = .ok (.goto 11, 3) := by decide +kernel
theorem dX10_work_354 : decode cX10_work 354 = .ok (.aload_n 0, 1) := by decide +kernel
theorem dX10_work_355 : decode cX10_work 355 = .ok (.getfield 84, 3) := by decide +kernel
theorem dX10_work_358 : decode cX10_work 358 = .ok (.iload 5, 2) := by decide +kernel
theorem dX10_work_360 : decode cX10_work 360 = .ok (.iconst 1, 1) := by decide +kernel
theorem dX10_work_361 : decode cX10_work 361 = .ok (.bastore, 1) := by decide +kernel
theorem dX10_work_362 : decode cX10_work 362 = .ok (.return_, 1) := by decide +kernel
theorem dX10_listenAt_0 : decode cX10_listenAt 0 = .ok (.aload_n 0, 1) := by decide +kernel
theorem dX10_listenAt_1 : decode cX10_listenAt 1 = .ok (.getfield 78, 3) := by decide +kernel
theorem dX10_listenAt_4 : decode cX10_listenAt 4 = .ok (.iload_n 1, 1) := by decide +kernel
theorem dX10_listenAt_5 : decode cX10_listenAt 5 = .ok (.iaload, 1) := by decide +kernel
theorem dX10_listenAt_6 : decode cX10_listenAt 6 = .ok (.ifCond .eq 10, 3) := by decide +kernel
theorem dX10_listenAt_9 : decode cX10_listenAt 9 = .ok (.aload_n 0, 1) := by decide +kernel
theorem dX10_listenAt_10 : decode cX10_listenAt 10 = .ok (.iload_n 1, 1) := by decide +kernel
theorem dX10_listenAt_11 : decode cX10_listenAt 11 = .ok (.iload_n 2, 1) := by decide +kernel
theorem dX10_listenAt_12 : decode cX10_listenAt 12 = .ok (.invokevirtual 253, 3) := by decide +kernel
theorem dX10_listenAt_15 : decode cX10_listenAt 15 = .ok (.return_, 1) := by decide +kernel
theorem dX10_listenAt_16 : decode cX10_listenAt 16 = .ok (.aload_n 0, 1) := by decide +kernel
theorem dX10_listenAt_17 : decode cX10_listenAt 17 = .ok (.getfield 90, 3) := by decide +kernel
theorem dX10_listenAt_20 : decode cX10_listenAt 20 = .ok (.bipush 6, 2) := by decide +kernel
theorem dX10_listenAt_22 : decode cX10_listenAt 22 = .ok (.iload_n 1, 1) := by decide +kernel
theorem dX10_listenAt_23 : decode cX10_listenAt 23 = .ok (.imul, 1) := by decide +kernel
theorem dX10_listenAt_24 : decode cX10_listenAt 24 = .ok (.aload_n 0, 1) := by decide +kernel
theorem dX10_listenAt_25 : decode cX10_listenAt 25 = .ok (.getfield 87, 3) := by decide +kernel
theorem dX10_listenAt_28 : decode cX10_listenAt 28 = .ok (.iload_n 1, 1) := by decide +kernel
theorem dX10_listenAt_29 : decode cX10_listenAt 29 = .ok (.iaload, 1) := by decide +kernel
theorem dX10_listenAt_30 : decode cX10_listenAt 30 = .ok (.iadd, 1) := by decide +kernel
theorem dX10_listenAt_31 : decode cX10_listenAt 31 = .ok (.iload_n 2, 1) := by decide +kernel
theorem dX10_listenAt_32 : decode cX10_listenAt 32 = .ok (.iastore, 1) := by decide +kernel
theorem dX10_listenAt_33 : decode cX10_listenAt 33 = .ok (.aload_n 0, 1) := by decide +kernel
theorem dX10_listenAt_34 : decode cX10_listenAt 34 = .ok (.getfield 87, 3) := by decide +kernel
theorem dX10_listenAt_37 : decode cX10_listenAt 37 = .ok (.iload_n 1, 1) := by decide +kernel
theorem dX10_listenAt_38 : decode cX10_listenAt 38 = .ok (.dup2, 1) := by decide +kernel
theorem dX10_listenAt_39 : decode cX10_listenAt 39 = .ok (.iaload, 1) := by decide +kernel
theorem dX10_listenAt_40 : decode cX10_listenAt 40 = .ok (.iconst 1, 1) := by decide +kernel
theorem dX10_listenAt_41 : decode cX10_listenAt 41 = .ok (.iadd, 1) := by decide +kernel
theorem dX10_listenAt_42 : decode cX10_listenAt 42 = .ok (.iastore, 1) := by decide +kernel
theorem dX10_listenAt_43 : decode cX10_listenAt 43 = .ok (.return_, 1) := by decide +kernel
theorem dX10_await_0 : decode cX10_await 0 = .ok (.aload_n 0, 1) := by decide +kernel
theorem dX10_await_1 : decode cX10_await 1 = .ok (.getfield 78, 3) := by decide +kernel
theorem dX10_await_4 : decode cX10_await 4 = .ok (.iload_n 1, 1) := by decide +kernel
theorem dX10_await_5 : decode cX10_await 5 = .ok (.iaload, 1) := by decide +kernel
theorem dX10_await_6 : decode cX10_await 6 = .ok (.ifCond .eq 4, 3) := by decide +kernel
theorem dX10_await_9 : decode cX10_await 9 = .ok (.return_, 1) := by decide +kernel
theorem dX10_await_10 : decode cX10_await 10 = .ok (.aload_n 0, 1) := by decide +kernel
theorem dX10_await_11 : decode cX10_await 11 = .ok (.getfield 203, 3) := by decide +kernel
theorem dX10_await_14 : decode cX10_await 14 = .ok (.iconst 1, 1) := by decide +kernel
theorem dX10_await_15 : decode cX10_await 15 = .ok (.if_icmp .gt 16, 3) := by decide +kernel
theorem dX10_await_18 : decode cX10_await 18 = .ok (.aload_n 0, 1) := by decide +kernel
theorem dX10_await_19 : decode cX10_await 19 = .ok (.getfield 75, 3) := by decide +kernel
theorem dX10_await_22 : decode cX10_await 22 = .ok (.iload_n 1, 1) := by decide +kernel
theorem dX10_await_23 : decode cX10_await 23 = .ok (.iaload, 1) := by decide +kernel
theorem dX10_await_24 : decode cX10_await 24 = .ok (.aload_n 0, 1) := by decide +kernel
theorem dX10_await_25 : decode cX10_await 25 = .ok (.getfield 189, 3) := by decide +kernel
theorem dX10_await_28 : decode cX10_await 28 = .ok (.if_icmp .ne 14, 3) := by decide +kernel
theorem dX10_await_31 : decode cX10_await 31 = .ok (.aload_n 0, 1) := by decide +kernel
theorem dX10_await_32 : decode cX10_await 32 = .ok (.aload_n 0, 1) := by decide +kernel
theorem dX10_await_33 : decode cX10_await 33 = .ok (.getfield 189, 3) := by decide +kernel
theorem dX10_await_36 : decode cX10_await 36 = .ok (.iconst 3, 1) := by decide +kernel
theorem dX10_await_37 : decode cX10_await 37 = .ok (.iload_n 1, 1) := by decide +kernel
theorem dX10_await_38 : decode cX10_await 38 = .ok (.invokevirtual 155, 3) := by decide +kernel
theorem dX10_await_41 : decode cX10_await 41 = .ok (.return_, 1) := by decide +kernel
theorem dX10_await_42 : decode cX10_await 42 = .ok (.aload_n 0, 1) := by decide +kernel
theorem dX10_await_43 : decode cX10_await 43 = .ok (.getfield 40, 3) := by decide +kernel
theorem dX10_await_46 : decode cX10_await 46 = .ok (.aload_n 0, 1) := by decide +kernel
theorem dX10_await_47 : decode cX10_await 47 = .ok (.getfield 189, 3) := by decide +kernel
theorem dX10_await_50 : decode cX10_await 50 = .ok (.iconst 1, 1) := by decide +kernel
theorem dX10_await_51 : decode cX10_await 51 = .ok (.bastore, 1) := by decide +kernel
theorem dX10_await_52 : decode cX10_await 52 = .ok (.aload_n 0, 1) := by decide +kernel
theorem dX10_await_53 : decode cX10_await 53 = .ok (.getfield 44, 3) := by decide +kernel
theorem dX10_await_56 : decode cX10_await 56 = .ok (.aload_n 0, 1) := by decide +kernel
theorem dX10_await_57 : decode cX10_await 57 = .ok (.getfield 189, 3) := by decide +kernel
theorem dX10_await_60 : decode cX10_await 60 = .ok (.aload_n 0, 1) := by decide +kernel
theorem dX10_await_61 : decode cX10_await 61 = .ok (.getfield 120, 3) := by decide +kernel
theorem dX10_await_64 : decode cX10_await 64 = .ok (.iconst 0, 1) := by decide +kernel
theorem dX10_await_65 : decode cX10_await 65 = .ok (.iaload, 1) := by decide +kernel
theorem dX10_await_66 : decode cX10_await 66 = .ok (.iastore, 1) := by decide +kernel
theorem dX10_await_67 : decode cX10_await 67 = .ok (.aload_n 0, 1) := by decide +kernel
theorem dX10_await_68 : decode cX10_await 68 = .ok (.getfield 47, 3) := by decide +kernel
theorem dX10_await_71 : decode cX10_await 71 = .ok (.aload_n 0, 1) := by decide +kernel
theorem dX10_await_72 : decode cX10_await 72 = .ok (.getfield 189, 3) := by decide +kernel
theorem dX10_await_75 : decode cX10_await 75 = .ok (.aload_n 0, 1) := by decide +kernel
theorem dX10_await_76 : decode cX10_await 76 = .ok (.getfield 123, 3) := by decide +kernel
theorem dX10_await_79 : decode cX10_await 79 = .ok (.iconst 0, 1) := by decide +kernel
theorem dX10_await_80 : decode cX10_await 80 = .ok (.iaload, 1) := by decide +kernel
theorem dX10_await_81 : decode cX10_await 81 = .ok (.iastore, 1) := by decide +kernel
theorem dX10_await_82 : decode cX10_await 82 = .ok (.aload_n 0, 1) := by decide +kernel
theorem dX10_await_83 : decode cX10_await 83 = .ok (.getfield 50, 3) := by decide +kernel
theorem dX10_await_86 : decode cX10_await 86 = .ok (.aload_n 0, 1) := by decide +kernel
theorem dX10_await_87 : decode cX10_await 87 = .ok (.getfield 189, 3) := by decide +kernel
theorem dX10_await_90 : decode cX10_await 90 = .ok (.iload_n 1, 1) := by decide +kernel
theorem dX10_await_91 : decode cX10_await 91 = .ok (.iastore, 1) := by decide +kernel
theorem dX10_await_92 : decode cX10_await 92 = .ok (.aload_n 0, 1) := by decide +kernel
theorem dX10_await_93 : decode cX10_await 93 = .ok (.iconst 0, 1) := by decide +kernel
theorem dX10_await_94 : decode cX10_await 94 = .ok (.putfield 203, 3) := by decide +kernel
theorem dX10_await_97 : decode cX10_await 97 = .ok (.return_, 1) := by decide +kernel
theorem dX10_pass_0 : decode cX10_pass 0 = .ok (.aload_n 0, 1) := by decide +kernel
theorem dX10_pass_1 : decode cX10_pass 1 = .ok (.getfield 203, 3) := by decide +kernel
theorem dX10_pass_4 : decode cX10_pass 4 = .ok (.iconst 1, 1) := by decide +kernel
theorem dX10_pass_5 : decode cX10_pass 5 = .ok (.isub, 1) := by decide +kernel
theorem dX10_pass_6 : decode cX10_pass 6 = .ok (.istore_n 1, 1) := by decide +kernel
theorem dX10_pass_7 : decode cX10_pass 7 = .ok (.aload_n 0, 1) := by decide +kernel
theorem dX10_pass_8 : decode cX10_pass 8 = .ok (.getfield 120, 3) := by decide +kernel
theorem dX10_pass_11 : decode cX10_pass 11 = .ok (.iload_n 1, 1) := by decide +kernel
theorem dX10_pass_12 : decode cX10_pass 12 = .ok (.iaload, 1) := by decide +kernel
theorem dX10_pass_13 : decode cX10_pass 13 = .ok (.istore_n 2, 1) := by decide +kernel
theorem dX10_pass_14 : decode cX10_pass 14 = .ok (.bipush 6, 2) := by decide +kernel
theorem dX10_pass_16 : decode cX10_pass 16 = .ok (.iload_n 2, 1) := by decide +kernel
theorem dX10_pass_17 : decode cX10_pass 17 = .ok (.imul, 1) := by decide +kernel
theorem dX10_pass_18 : decode cX10_pass 18 = .ok (.aload_n 0, 1) := by decide +kernel
theorem dX10_pass_19 : decode cX10_pass 19 = .ok (.getfield 123, 3) := by decide +kernel
theorem dX10_pass_22 : decode cX10_pass 22 = .ok (.iload_n 1, 1) := by decide +kernel
theorem dX10_pass_23 : decode cX10_pass 23 = .ok (.iaload, 1) := by decide +kernel
theorem dX10_pass_24 : decode cX10_pass 24 = .ok (.iadd, 1) := by decide +kernel
theorem dX10_pass_25 : decode cX10_pass 25 = .ok (.istore_n 3, 1) := by decide +kernel
theorem dX10_pass_26 : decode cX10_pass 26 = .ok (.aload_n 0, 1) := by decide +kernel
theorem dX10_pass_27 : decode cX10_pass 27 = .ok (.getfield 126, 3) := by decide +kernel
theorem dX10_pass_30 : decode cX10_pass 30 = .ok (.iload_n 1, 1) := by decide +kernel
theorem dX10_pass_31 : decode cX10_pass 31 = .ok (.iaload, 1) := by decide +kernel
theorem dX10_pass_32 : decode cX10_pass 32 = .ok (.istore 4, 2) := by decide +kernel
theorem dX10_pass_34 : decode cX10_pass 34 = .ok (.aload_n 0, 1) := by decide +kernel
theorem dX10_pass_35 : decode cX10_pass 35 = .ok (.getfield 123, 3) := by decide +kernel
theorem dX10_pass_38 : decode cX10_pass 38 = .ok (.iload_n 1, 1) := by decide +kernel
theorem dX10_pass_39 : decode cX10_pass 39 = .ok (.iaload, 1) := by decide +kernel
theorem dX10_pass_40 : decode cX10_pass 40 = .ok (.aload_n 0, 1) := by decide +kernel
theorem dX10_pass_41 : decode cX10_pass 41 = .ok (.getfield 96, 3) := by decide +kernel
theorem dX10_pass_44 : decode cX10_pass 44 = .ok (.iload_n 2, 1) := by decide +kernel
theorem dX10_pass_45 : decode cX10_pass 45 = .ok (.iaload, 1) := by decide +kernel
theorem dX10_pass_46 : decode cX10_pass 46 = .ok (.if_icmp .ne 50, 3) := by decide +kernel
theorem dX10_pass_49 : decode cX10_pass 49 = .ok (.aload_n 0, 1) := by decide +kernel
theorem dX10_pass_50 : decode cX10_pass 50 = .ok (.getfield 129, 3) := by decide +kernel
theorem dX10_pass_53 : decode cX10_pass 53 = .ok (.iload_n 1, 1) := by decide +kernel
theorem dX10_pass_54 : decode cX10_pass 54 = .ok (.baload, 1) := by decide +kernel
theorem dX10_pass_55 : decode cX10_pass 55 = .ok (.ifCond .eq 18, 3) := by decide +kernel
theorem dX10_pass_58 : decode cX10_pass 58 = .ok (.aload_n 0, 1) := by decide +kernel
theorem dX10_pass_59 : decode cX10_pass 59 = .ok (.aload_n 0, 1) := by decide +kernel
theorem dX10_pass_60 : decode cX10_pass 60 = .ok (.getfield 189, 3) := by decide +kernel
theorem dX10_pass_63 : decode cX10_pass 63 = .ok (.iconst 2, 1) := by decide +kernel
theorem dX10_pass_64 : decode cX10_pass 64 = .ok (.iconst (-1), 1) := by decide +kernel
theorem dX10_pass_65 : decode cX10_pass 65 = .ok (.iload_n 2, 1) := by decide +kernel
theorem dX10_pass_66 : decode cX10_pass 66 = .ok (.isub, 1) := by decide +kernel
theorem dX10_pass_67 : decode cX10_pass 67 = .ok (.invokevirtual 155, 3) := by decide +kernel
theorem dX10_pass_70 : decode cX10_pass 70 = .ok (.goto 15, 3) := by decide +kernel
theorem dX10_pass_73 : decode cX10_pass 73 = .ok (.aload_n 0, 1) := by decide +kernel
theorem dX10_pass_74 : decode cX10_pass 74 = .ok (.aload_n 0, 1) := by decide +kernel
theorem dX10_pass_75 : decode cX10_pass 75 = .ok (.getfield 189, 3) := by decide +kernel
theorem dX10_pass_78 : decode cX10_pass 78 = .ok (.bipush 8, 2) := by decide +kernel
theorem dX10_pass_80 : decode cX10_pass 80 = .ok (.iload 4, 2) := by decide +kernel
theorem dX10_pass_82 : decode cX10_pass 82 = .ok (.invokevirtual 155, 3) := by decide +kernel
theorem dX10_pass_85 : decode cX10_pass 85 = .ok (.aload_n 0, 1) := by decide +kernel
theorem dX10_pass_86 : decode cX10_pass 86 = .ok (.dup, 1) := by decide +kernel
theorem dX10_pass_87 : decode cX10_pass 87 = .ok (.getfield 203, 3) := by decide +kernel
theorem dX10_pass_90 : decode cX10_pass 90 = .ok (.iconst 1, 1) := by decide +kernel
theorem dX10_pass_91 : decode cX10_pass 91 = .ok (.isub, 1) := by decide +kernel
theorem dX10_pass_92 : decode cX10_pass 92 = .ok (.putfield 203, 3) := by decide +kernel
theorem dX10_pass_95 : decode cX10_pass 95 = .ok (.return_, 1) := by decide +kernel
theorem dX10_pass_96 : decode cX10_pass 96 = .ok (.aload_n 0, 1) := by decide +kernel
theorem dX10_pass_97 : decode cX10_pass 97 = .ok (.getfield 123, 3) := by decide +kernel
theorem dX10_pass_100 : decode cX10_pass 100 = .ok (.iload_n 1, 1) := by decide +kernel
theorem dX10_pass_101 : decode cX10_pass 101 = .ok (.dup2, 1) := by decide +kernel
theorem dX10_pass_102 : decode cX10_pass 102 = .ok (.iaload, 1) := by decide +kernel
theorem dX10_pass_103 : decode cX10_pass 103 = .ok (.iconst 1, 1) := by decide +kernel
theorem dX10_pass_104 : decode cX10_pass 104 = .ok (.iadd, 1) := by decide +kernel
theorem dX10_pass_105 : decode cX10_pass 105 = .ok (.iastore, 1) := by decide +kernel
theorem dX10_pass_106 : decode cX10_pass 106 = .ok (.aload_n 0, 1) := by decide +kernel
theorem dX10_pass_107 : decode cX10_pass 107 = .ok (.getfield 99, 3) := by decide +kernel
theorem dX10_pass_110 : decode cX10_pass 110 = .ok (.iload_n 3, 1) := by decide +kernel
theorem dX10_pass_111 : decode cX10_pass 111 = .ok (.iaload, 1) := by decide +kernel
theorem dX10_pass_112 : decode cX10_pass 112 = .ok (.istore 5, 2) := by decide +kernel
theorem dX10_pass_114 : decode cX10_pass 114 = .ok (.aload_n 0, 1) := by decide +kernel
theorem dX10_pass_115 : decode cX10_pass 115 = .ok (.getfield 129, 3) := by decide +kernel
theorem dX10_pass_118 : decode cX10_pass 118 = .ok (.iload_n 1, 1) := by decide +kernel
theorem dX10_pass_119 : decode cX10_pass 119 = .ok (.baload, 1) := by decide +kernel
theorem dX10_pass_120 : decode cX10_pass 120 = .ok (.ifCond .eq 21, 3) := by decide +kernel
theorem dX10_pass_123 : decode cX10_pass 123 = .ok (.iload 5, 2) := by decide +kernel
theorem dX10_pass_125 : decode cX10_pass 125 = .ok (.bipush 6, 2) := by decide +kernel
theorem dX10_pass_127 : decode cX10_pass 127 = .ok (.if_icmp .ne 13, 3) := by decide +kernel
theorem dX10_pass_130 : decode cX10_pass 130 = .ok (.aload_n 0, 1) := by decide +kernel
theorem dX10_pass_131 : decode cX10_pass 131 = .ok (.dup, 1) := by decide +kernel
theorem dX10_pass_132 : decode cX10_pass 132 = .ok (.getfield 203, 3) := by decide +kernel
theorem dX10_pass_135 : decode cX10_pass 135 = .ok (.iconst 1, 1) := by decide +kernel
theorem dX10_pass_136 : decode cX10_pass 136 = .ok (.isub, 1) := by decide +kernel
theorem dX10_pass_137 : decode cX10_pass 137 = .ok (.putfield 203, 3) := by decide +kernel
theorem dX10_pass_140 : decode cX10_pass 140 = .ok (.return_, 1) := by decide +kernel
theorem dX10_pass_141 : decode cX10_pass 141 = .ok (.iload 5, 2) := by decide +kernel
theorem dX10_pass_143 : decode cX10_pass 143 = .ok (.bipush 6, 2) := by decide +kernel
theorem dX10_pass_145 : decode cX10_pass 145 = .ok (.if_icmp .ne 4, 3) := by decide +kernel
theorem dX10_pass_148 : decode cX10_pass 148 = .ok (.return_, 1) := by decide +kernel
theorem dX10_pass_149 : decode cX10_pass 149 = .ok (.aload_n 0, 1) := by decide +kernel
theorem dX10_pass_150 : decode cX10_pass 150 = .ok (.aload_n 0, 1) := by decide +kernel
theorem dX10_pass_151 : decode cX10_pass 151 = .ok (.getfield 189, 3) := by decide +kernel
theorem dX10_pass_154 : decode cX10_pass 154 = .ok (.bipush 6, 2) := by decide +kernel
theorem dX10_pass_156 : decode cX10_pass 156 = .ok (.ldc_w 256, 3) := by decide +kernel
theorem dX10_pass_159 : decode cX10_pass 159 = .ok (.aload_n 0, 1) := by decide +kernel
theorem dX10_pass_160 : decode cX10_pass 160 = .ok (.getfield 105, 3) := by decide +kernel
theorem dX10_pass_163 : decode cX10_pass 163 = .ok (.iload_n 3, 1) := by decide +kernel
theorem dX10_pass_164 : decode cX10_pass 164 = .ok (.iaload, 1) := by decide +kernel
theorem dX10_pass_165 : decode cX10_pass 165 = .ok (.imul, 1) := by decide +kernel
theorem dX10_pass_166 : decode cX10_pass 166 = .ok (.iload 4, 2) := by decide +kernel
theorem dX10_pass_168 : decode cX10_pass 168 = .ok (.iadd, 1) := by decide +kernel
theorem dX10_pass_169 : decode cX10_pass 169 = .ok (.invokevirtual 155, 3) := by decide +kernel
theorem dX10_pass_172 : decode cX10_pass 172 = .ok (.iload 5, 2) := by decide +kernel
theorem dX10_pass_174 : decode cX10_pass 174 = .ok (.iconst 1, 1) := by decide +kernel
theorem dX10_pass_175 : decode cX10_pass 175 = .ok (.if_icmp .ne 18, 3) := by decide +kernel
theorem dX10_pass_178 : decode cX10_pass 178 = .ok (.aload_n 0, 1) := by decide +kernel
theorem dX10_pass_179 : decode cX10_pass 179 = .ok (.getfield 126, 3) := by decide +kernel
theorem dX10_pass_182 : decode cX10_pass 182 = .ok (.iload_n 1, 1) := by decide +kernel
theorem dX10_pass_183 : decode cX10_pass 183 = .ok (.iload 4, 2) := by decide +kernel
theorem dX10_pass_185 : decode cX10_pass 185 = .ok (.aload_n 0, 1) := by decide +kernel
theorem dX10_pass_186 : decode cX10_pass 186 = .ok (.getfield 105, 3) := by decide +kernel
theorem dX10_pass_189 : decode cX10_pass 189 = .ok (.iload_n 3, 1) := by decide +kernel
theorem dX10_pass_190 : decode cX10_pass 190 = .ok (.iaload, 1) := by decide +kernel
theorem dX10_pass_191 : decode cX10_pass 191 = .ok (.iadd, 1) := by decide +kernel
theorem dX10_pass_192 : decode cX10_pass 192 = .ok (.iastore, 1) := by decide +kernel
theorem dX10_pass_193 : decode cX10_pass 193 = .ok (.iload 5, 2) := by decide +kernel
theorem dX10_pass_195 : decode cX10_pass 195 = .ok (.iconst 2, 1) := by decide +kernel
theorem dX10_pass_196 : decode cX10_pass 196 = .ok (.if_icmp .ne 21, 3) := by decide +kernel
theorem dX10_pass_199 : decode cX10_pass 199 = .ok (.iload 4, 2) := by decide +kernel
theorem dX10_pass_201 : decode cX10_pass 201 = .ok (.iconst 1, 1) := by decide +kernel
theorem dX10_pass_202 : decode cX10_pass 202 = .ok (.iand, 1) := by decide +kernel
theorem dX10_pass_203 : decode cX10_pass 203 = .ok (.iconst 1, 1) := by decide +kernel
theorem dX10_pass_204 : decode cX10_pass 204 = .ok (.if_icmp .ne 13, 3) := by decide +kernel
theorem dX10_pass_207 : decode cX10_pass 207 = .ok (.aload_n 0, 1) := by decide +kernel
theorem dX10_pass_208 : decode cX10_pass 208 = .ok (.dup, 1) := by decide +kernel
theorem dX10_pass_209 : decode cX10_pass 209 = .ok (.getfield 203, 3) := by decide +kernel
theorem dX10_pass_212 : decode cX10_pass 212 = .ok (.iconst 1, 1) := by decide +kernel
theorem dX10_pass_213 : decode cX10_pass 213 = .ok (.isub, 1) := by decide +kernel
theorem dX10_pass_214 : decode cX10_pass 214 = .ok (.putfield 203, 3) := by decide +kernel
theorem dX10_pass_217 : decode cX10_pass 217 = .ok (.iload 5, 2) := by decide +kernel
theorem dX10_pass_219 : decode cX10_pass 219 = .ok (.iconst 3, 1) := by decide +kernel
theorem dX10_pass_220 : decode cX10_pass 220 = .ok (.if_icmp .ne 33, 3) := by decide +kernel
theorem dX10_pass_223 : decode cX10_pass 223 = .ok (.aload_n 0, 1) := by decide +kernel
theorem dX10_pass_224 : decode cX10_pass 224 = .ok (.getfield 221, 3) := by decide +kernel
theorem dX10_pass_227 : decode cX10_pass 227 = .ok (.sipush 1000, 3) := by decide +kernel
theorem dX10_pass_230 : decode cX10_pass 230 = .ok (.if_icmp .ge 23, 3) := by decide +kernel
theorem dX10_pass_233 : decode cX10_pass 233 = .ok (.aload_n 0, 1) := by decide +kernel
theorem dX10_pass_234 : decode cX10_pass 234 = .ok (.dup, 1) := by decide +kernel
theorem dX10_pass_235 : decode cX10_pass 235 = .ok (.getfield 221, 3) := by decide +kernel
theorem dX10_pass_238 : decode cX10_pass 238 = .ok (.iconst 1, 1) := by decide +kernel
theorem dX10_pass_239 : decode cX10_pass 239 = .ok (.iadd, 1) := by decide +kernel
theorem dX10_pass_240 : decode cX10_pass 240 = .ok (.putfield 221, 3) := by decide +kernel
theorem dX10_pass_243 : decode cX10_pass 243 = .ok (.aload_n 0, 1) := by decide +kernel
theorem dX10_pass_244 : decode cX10_pass 244 = .ok (.iload_n 2, 1) := by decide +kernel
theorem dX10_pass_245 : decode cX10_pass 245 = .ok (.iconst 1, 1) := by decide +kernel
theorem dX10_pass_246 : decode cX10_pass 246 = .ok (.ixor, 1) := by decide +kernel
theorem dX10_pass_247 : decode cX10_pass 247 = .ok (.iload 4, 2) := by decide +kernel
theorem dX10_pass_249 : decode cX10_pass 249 = .ok (.invokevirtual 246, 3) := by decide +kernel
theorem dX10_pass_252 : decode cX10_pass 252 = .ok (.pop, 1) := by decide +kernel
theorem dX10_pass_253 : decode cX10_pass 253 = .ok (.iload 5, 2) := by decide +kernel
theorem dX10_pass_255 : decode cX10_pass 255 = .ok (.iconst 4, 1) := by decide +kernel
theorem dX10_pass_256 : decode cX10_pass 256 = .ok (.if_icmp .ne 15, 3) := by decide +kernel
theorem dX10_pass_259 : decode cX10_pass 259 = .ok (.aload_n 0, 1) := by decide +kernel
theorem dX10_pass_260 : decode cX10_pass 260 = .ok (.iconst 2, 1) := by decide +kernel
theorem dX10_pass_261 : decode cX10_pass 261 = .ok (.aload_n 0, 1) := by decide +kernel
theorem dX10_pass_262 : decode cX10_pass 262 = .ok (.getfield 102, 3) := by decide +kernel
theorem dX10_pass_265 : decode cX10_pass 265 = .ok (.iload_n 3, 1) := by decide +kernel
theorem dX10_pass_266 : decode cX10_pass 266 = .ok (.iaload, 1) := by decide +kernel
theorem dX10_pass_267 : decode cX10_pass 267 = .ok (.iconst 0, 1) := by decide +kernel
theorem dX10_pass_268 : decode cX10_pass 268 = .ok (.invokevirtual 209, 3) := by decide +kernel
theorem dX10_pass_271 : decode cX10_pass 271 = .ok (.iload 5, 2) := by decide +kernel
theorem dX10_pass_273 : decode cX10_pass 273 = .ok (.iconst 5, 1) := by decide +kernel
theorem dX10_pass_274 : decode cX10_pass 274 = .ok (.if_icmp .ne 17, 3) := by decide +kernel
theorem dX10_pass_277 : decode cX10_pass 277 = .ok (.iload 4, 2) := by decide +kernel
theorem dX10_pass_279 : decode cX10_pass 279 = .ok (.iconst 3, 1) := by decide +kernel
theorem dX10_pass_280 : decode cX10_pass 280 = .ok (.irem, 1) := by decide +kernel
theorem dX10_pass_281 : decode cX10_pass 281 = .ok (.ifCond .ne 10, 3) := by decide +kernel
theorem dX10_pass_284 : decode cX10_pass 284 = .ok (.aload_n 0, 1) := by decide +kernel
theorem dX10_pass_285 : decode cX10_pass 285 = .ok (.getfield 129, 3) := by decide +kernel
theorem dX10_pass_288 : decode cX10_pass 288 = .ok (.iload_n 1, 1) := by decide +kernel
theorem dX10_pass_289 : decode cX10_pass 289 = .ok (.iconst 1, 1) := by decide +kernel
theorem dX10_pass_290 : decode cX10_pass 290 = .ok (.bastore, 1) := by decide +kernel
theorem dX10_pass_291 : decode cX10_pass 291 = .ok (.return_, 1) := by decide +kernel
theorem dX10_run_0 : decode cX10_run 0 = .ok (.aload_n 0, 1) := by decide +kernel
theorem dX10_run_1 : decode cX10_run 1 = .ok (.getfield 203, 3) := by decide +kernel
theorem dX10_run_4 : decode cX10_run 4 = .ok (.ifCond .le 151, 3) := by decide +kernel
theorem dX10_run_7 : decode cX10_run 7 = .ok (.aload_n 0, 1) := by decide +kernel
theorem dX10_run_8 : decode cX10_run 8 = .ok (.getfield 203, 3) := by decide +kernel
theorem dX10_run_11 : decode cX10_run 11 = .ok (.iconst 1, 1) := by decide +kernel
theorem dX10_run_12 : decode cX10_run 12 = .ok (.isub, 1) := by decide +kernel
theorem dX10_run_13 : decode cX10_run 13 = .ok (.istore_n 1, 1) := by decide +kernel
theorem dX10_run_14 : decode cX10_run 14 = .ok (.aload_n 0, 1) := by decide +kernel
theorem dX10_run_15 : decode cX10_run 15 = .ok (.getfield 117, 3) := by decide +kernel
theorem dX10_run_18 : decode cX10_run 18 = .ok (.iload_n 1, 1) := by decide +kernel
theorem dX10_run_19 : decode cX10_run 19 = .ok (.iaload, 1) := by decide +kernel
theorem dX10_run_20 : decode cX10_run 20 = .ok (.iconst 4, 1) := by decide +kernel
theorem dX10_run_21 : decode cX10_run 21 = .ok (.if_icmp .ne 10, 3) := by decide +kernel
theorem dX10_run_24 : decode cX10_run 24 = .ok (.aload_n 0, 1) := by decide +kernel
theorem dX10_run_25 : decode cX10_run 25 = .ok (.invokevirtual 257, 3) := by decide +kernel
theorem dX10_run_28 : decode cX10_run 28 = .ok (.goto 124, 3) := by decide +kernel
theorem dX10_run_31 : decode cX10_run 31 = .ok (.aload_n 0, 1) := by decide +kernel
theorem dX10_run_32 : decode cX10_run 32 = .ok (.getfield 117, 3) := by decide +kernel
theorem dX10_run_35 : decode cX10_run 35 = .ok (.iload_n 1, 1) := by decide +kernel
theorem dX10_run_36 : decode cX10_run 36 = .ok (.iaload, 1) := by decide +kernel
theorem dX10_run_37 : decode cX10_run 37 = .ok (.iconst 3, 1) := by decide +kernel
theorem dX10_run_38 : decode cX10_run 38 = .ok (.if_icmp .ne 77, 3) := by decide +kernel
theorem dX10_run_41 : decode cX10_run 41 = .ok (.aload_n 0, 1) := by decide +kernel
theorem dX10_run_42 : decode cX10_run 42 = .ok (.getfield 123, 3) := by decide +kernel
theorem dX10_run_45 : decode cX10_run 45 = .ok (.iload_n 1, 1) := by decide +kernel
theorem dX10_run_46 : decode cX10_run 46 = .ok (.iaload, 1) := by decide +kernel
theorem dX10_run_47 : decode cX10_run 47 = .ok (.aload_n 0, 1) := by decide +kernel
theorem dX10_run_48 : decode cX10_run 48 = .ok (.getfield 126, 3) := by decide +kernel
theorem dX10_run_51 : decode cX10_run 51 = .ok (.iload_n 1, 1) := by decide +kernel
theorem dX10_run_52 : decode cX10_run 52 = .ok (.iaload, 1) := by decide +kernel
theorem dX10_run_53 : decode cX10_run 53 = .ok (.if_icmp .ne 16, 3) := by decide +kernel
theorem dX10_run_56 : decode cX10_run 56 = .ok (.aload_n 0, 1) := by decide +kernel
theorem dX10_run_57 : decode cX10_run 57 = .ok (.dup, 1) := by decide +kernel
theorem dX10_run_58 : decode cX10_run 58 = .ok (.getfield 203, 3) := by decide +kernel
theorem dX10_run_61 : decode cX10_run 61 = .ok (.iconst 1, 1) := by decide +kernel
theorem dX10_run_62 : decode cX10_run 62 = .ok (.isub, 1) := by decide +kernel
theorem dX10_run_63 : decode cX10_run 63 = .ok (.putfield 203, 3) := by decide +kernel
theorem dX10_run_66 : decode cX10_run 66 = .ok (.goto 86, 3) := by decide +kernel
theorem dX10_run_69 : decode cX10_run 69 = .ok (.aload_n 0, 1) := by decide +kernel
theorem dX10_run_70 : decode cX10_run 70 = .ok (.getfield 90, 3) := by decide +kernel
theorem dX10_run_73 : decode cX10_run 73 = .ok (.bipush 6, 2) := by decide +kernel
theorem dX10_run_75 : decode cX10_run 75 = .ok (.aload_n 0, 1) := by decide +kernel
theorem dX10_run_76 : decode cX10_run 76 = .ok (.getfield 120, 3) := by decide +kernel
theorem dX10_run_79 : decode cX10_run 79 = .ok (.iload_n 1, 1) := by decide +kernel
theorem dX10_run_80 : decode cX10_run 80 = .ok (.iaload, 1) := by decide +kernel
theorem dX10_run_81 : decode cX10_run 81 = .ok (.imul, 1) := by decide +kernel
theorem dX10_run_82 : decode cX10_run 82 = .ok (.aload_n 0, 1) := by decide +kernel
theorem dX10_run_83 : decode cX10_run 83 = .ok (.getfield 123, 3) := by decide +kernel
theorem dX10_run_86 : decode cX10_run 86 = .ok (.iload_n 1, 1) := by decide +kernel
theorem dX10_run_87 : decode cX10_run 87 = .ok (.iaload, 1) := by decide +kernel
theorem dX10_run_88 : decode cX10_run 88 = .ok (.iadd, 1) := by decide +kernel
theorem dX10_run_89 : decode cX10_run 89 = .ok (.iaload, 1) := by decide +kernel
theorem dX10_run_90 : decode cX10_run 90 = .ok (.istore_n 2, 1) := by decide +kernel
theorem dX10_run_91 : decode cX10_run 91 = .ok (.aload_n 0, 1) := by decide +kernel
theorem dX10_run_92 : decode cX10_run 92 = .ok (.getfield 123, 3) := by decide +kernel
theorem dX10_run_95 : decode cX10_run 95 = .ok (.iload_n 1, 1) := by decide +kernel
theorem dX10_run_96 : decode cX10_run 96 = .ok (.dup2, 1) := by decide +kernel
theorem dX10_run_97 : decode cX10_run 97 = .ok (.iaload, 1) := by decide +kernel
theorem dX10_run_98 : decode cX10_run 98 = .ok (.iconst 1, 1) := by decide +kernel
theorem dX10_run_99 : decode cX10_run 99 = .ok (.iadd, 1) := by decide +kernel
theorem dX10_run_100 : decode cX10_run 100 = .ok (.iastore, 1) := by decide +kernel
theorem dX10_run_101 : decode cX10_run 101 = .ok (.aload_n 0, 1) := by decide +kernel
theorem dX10_run_102 : decode cX10_run 102 = .ok (.aload_n 0, 1) := by decide +kernel
theorem dX10_run_103 : decode cX10_run 103 = .ok (.getfield 120, 3) := by decide +kernel
theorem dX10_run_106 : decode cX10_run 106 = .ok (.iload_n 1, 1) := by decide +kernel
theorem dX10_run_107 : decode cX10_run 107 = .ok (.iaload, 1) := by decide +kernel
theorem dX10_run_108 : decode cX10_run 108 = .ok (.iload_n 2, 1) := by decide +kernel
theorem dX10_run_109 : decode cX10_run 109 = .ok (.invokevirtual 253, 3) := by decide +kernel
theorem dX10_run_112 : decode cX10_run 112 = .ok (.goto 40, 3) := by decide +kernel
theorem dX10_run_115 : decode cX10_run 115 = .ok (.aload_n 0, 1) := by decide +kernel
theorem dX10_run_116 : decode cX10_run 116 = .ok (.getfield 123, 3) := by decide +kernel
theorem dX10_run_119 : decode cX10_run 119 = .ok (.iload_n 1, 1) := by decide +kernel
theorem dX10_run_120 : decode cX10_run 120 = .ok (.iaload, 1) := by decide +kernel
theorem dX10_run_121 : decode cX10_run 121 = .ok (.aload_n 0, 1) := by decide +kernel
theorem dX10_run_122 : decode cX10_run 122 = .ok (.getfield 7, 3) := by decide +kernel
theorem dX10_run_125 : decode cX10_run 125 = .ok (.aload_n 0, 1) := by decide +kernel
theorem dX10_run_126 : decode cX10_run 126 = .ok (.getfield 120, 3) := by decide +kernel
theorem dX10_run_129 : decode cX10_run 129 = .ok (.iload_n 1, 1) := by decide +kernel
theorem dX10_run_130 : decode cX10_run 130 = .ok (.iaload, 1) := by decide +kernel
theorem dX10_run_131 : decode cX10_run 131 = .ok (.iaload, 1) := by decide +kernel
theorem dX10_run_132 : decode cX10_run 132 = .ok (.if_icmp .ne 16, 3) := by decide +kernel
theorem dX10_run_135 : decode cX10_run 135 = .ok (.aload_n 0, 1) := by decide +kernel
theorem dX10_run_136 : decode cX10_run 136 = .ok (.dup, 1) := by decide +kernel
theorem dX10_run_137 : decode cX10_run 137 = .ok (.getfield 203, 3) := by decide +kernel
theorem dX10_run_140 : decode cX10_run 140 = .ok (.iconst 1, 1) := by decide +kernel
theorem dX10_run_141 : decode cX10_run 141 = .ok (.isub, 1) := by decide +kernel
theorem dX10_run_142 : decode cX10_run 142 = .ok (.putfield 203, 3) := by decide +kernel
theorem dX10_run_145 : decode cX10_run 145 = .ok (.goto 7, 3) := by decide +kernel
theorem dX10_run_148 : decode cX10_run 148 = .ok (.aload_n 0, 1) := by decide +kernel
theorem dX10_run_149 : decode cX10_run 149 = .ok (.invokevirtual 260, 3) := by decide +kernel
theorem dX10_run_152 : decode cX10_run 152 = .ok (.goto (-152), 3) := by decide +kernel
theorem dX10_run_155 : decode cX10_run 155 = .ok (.return_, 1) := by decide +kernel
theorem dX10_beginBatch_0 : decode cX10_beginBatch 0 = .ok (.iconst 0, 1) := by decide +kernel
theorem dX10_beginBatch_1 : decode cX10_beginBatch 1 = .ok (.istore_n 2, 1) := by decide +kernel
theorem dX10_beginBatch_2 : decode cX10_beginBatch 2 = .ok (.iload_n 2, 1) := by decide +kernel
theorem dX10_beginBatch_3 : decode cX10_beginBatch 3 = .ok (.ifCond .lt 123, 3) := by decide +kernel
theorem dX10_beginBatch_6 : decode cX10_beginBatch 6 = .ok (.aload_n 0, 1) := by decide +kernel
theorem dX10_beginBatch_7 : decode cX10_beginBatch 7 = .ok (.getfield 25, 3) := by decide +kernel
theorem dX10_beginBatch_10 : decode cX10_beginBatch 10 = .ok (.iload_n 1, 1) := by decide +kernel
theorem dX10_beginBatch_11 : decode cX10_beginBatch 11 = .ok (.iaload, 1) := by decide +kernel
theorem dX10_beginBatch_12 : decode cX10_beginBatch 12 = .ok (.bipush 24, 2) := by decide +kernel
theorem dX10_beginBatch_14 : decode cX10_beginBatch 14 = .ok (.if_icmp .ge 112, 3) := by decide +kernel
theorem dX10_beginBatch_17 : decode cX10_beginBatch 17 = .ok (.iconst (-1), 1) := by decide +kernel
theorem dX10_beginBatch_18 : decode cX10_beginBatch 18 = .ok (.istore_n 2, 1) := by decide +kernel
theorem dX10_beginBatch_19 : decode cX10_beginBatch 19 = .ok (.iconst 0, 1) := by decide +kernel
theorem dX10_beginBatch_20 : decode cX10_beginBatch 20 = .ok (.istore_n 3, 1) := by decide +kernel
theorem dX10_beginBatch_21 : decode cX10_beginBatch 21 = .ok (.iload_n 3, 1) := by decide +kernel
theorem dX10_beginBatch_22 : decode cX10_beginBatch 22 = .ok (.aload_n 0, 1) := by decide +kernel
theorem dX10_beginBatch_23 : decode cX10_beginBatch 23 = .ok (.getfield 196, 3) := by decide +kernel
theorem dX10_beginBatch_26 : decode cX10_beginBatch 26 = .ok (.if_icmp .ge 71, 3) := by decide +kernel
theorem dX10_beginBatch_29 : decode cX10_beginBatch 29 = .ok (.aload_n 0, 1) := by decide +kernel
theorem dX10_beginBatch_30 : decode cX10_beginBatch 30 = .ok (.getfield 72, 3) := by decide +kernel
theorem dX10_beginBatch_33 : decode cX10_beginBatch 33 = .ok (.iload_n 3, 1) := by decide +kernel
theorem dX10_beginBatch_34 : decode cX10_beginBatch 34 = .ok (.iaload, 1) := by decide +kernel
theorem dX10_beginBatch_35 : decode cX10_beginBatch 35 = .ok (.iload_n 1, 1) := by decide +kernel
theorem dX10_beginBatch_36 : decode cX10_beginBatch 36 = .ok (.if_icmp .ne 21, 3) := by decide +kernel
theorem dX10_beginBatch_39 : decode cX10_beginBatch 39 = .ok (.aload_n 0, 1) := by decide +kernel
theorem dX10_beginBatch_40 : decode cX10_beginBatch 40 = .ok (.getfield 69, 3) := by decide +kernel
theorem dX10_beginBatch_43 : decode cX10_beginBatch 43 = .ok (.iload_n 3, 1) := by decide +kernel
theorem dX10_beginBatch_44 : decode cX10_beginBatch 44 = .ok (.laload, 1) := by decide +kernel
theorem dX10_beginBatch_45 : decode cX10_beginBatch 45 = .ok (.aload_n 0, 1) := by decide +kernel
theorem dX10_beginBatch_46 : decode cX10_beginBatch 46 = .ok (.getfield 182, 3) := by decide +kernel
theorem dX10_beginBatch_49 : decode cX10_beginBatch 49 = .ok (.lcmp, 1) := by decide +kernel
theorem dX10_beginBatch_50 : decode cX10_beginBatch 50 = .ok (.ifCond .gt 7, 3) := by decide +kernel
theorem dX10_beginBatch_53 : decode cX10_beginBatch 53 = .ok (.iconst 1, 1) := by decide +kernel
theorem dX10_beginBatch_54 : decode cX10_beginBatch 54 = .ok (.goto 4, 3) := by decide +kernel
theorem dX10_beginBatch_57 : decode cX10_beginBatch 57 = .ok (.iconst 0, 1) := by decide +kernel
theorem dX10_beginBatch_58 : decode cX10_beginBatch 58 = .ok (.istore 4, 2) := by decide +kernel
theorem dX10_beginBatch_60 : decode cX10_beginBatch 60 = .ok (.iload 4, 2) := by decide +kernel
theorem dX10_beginBatch_62 : decode cX10_beginBatch 62 = .ok (.ifCond .eq 27, 3) := by decide +kernel
theorem dX10_beginBatch_65 : decode cX10_beginBatch 65 = .ok (.iload_n 2, 1) := by decide +kernel
theorem dX10_beginBatch_66 : decode cX10_beginBatch 66 = .ok (.ifCond .lt 19, 3) := by decide +kernel
theorem dX10_beginBatch_69 : decode cX10_beginBatch 69 = .ok (.aload_n 0, 1) := by decide +kernel
theorem dX10_beginBatch_70 : decode cX10_beginBatch 70 = .ok (.getfield 69, 3) := by decide +kernel
theorem dX10_beginBatch_73 : decode cX10_beginBatch 73 = .ok (.iload_n 3, 1) := by decide +kernel
theorem dX10_beginBatch_74 : decode cX10_beginBatch 74 = .ok (.laload, 1) := by decide +kernel
theorem dX10_beginBatch_75 : decode cX10_beginBatch 75 = .ok (.aload_n 0, 1) := by decide +kernel
theorem dX10_beginBatch_76 : decode cX10_beginBatch 76 = .ok (.getfield 69, 3) := by decide +kernel
theorem dX10_beginBatch_79 : decode cX10_beginBatch 79 = .ok (.iload_n 2, 1) := by decide +kernel
theorem dX10_beginBatch_80 : decode cX10_beginBatch 80 = .ok (.laload, 1) := by decide +kernel
theorem dX10_beginBatch_81 : decode cX10_beginBatch 81 = .ok (.lcmp, 1) := by decide +kernel
theorem dX10_beginBatch_82 : decode cX10_beginBatch 82 = .ok (.ifCond .ge 7, 3) := by decide +kernel
theorem dX10_beginBatch_85 : decode cX10_beginBatch 85 = .ok (.iload_n 3, 1) := by decide +kernel
theorem dX10_beginBatch_86 : decode cX10_beginBatch 86 = .ok (.goto 4, 3) := by decide +kernel
theorem dX10_beginBatch_89 : decode cX10_beginBatch 89 = .ok (.iload_n 2, 1) := by decide +kernel
theorem dX10_beginBatch_90 : decode cX10_beginBatch 90 = .ok (.istore_n 2, 1) := by decide +kernel
theorem dX10_beginBatch_91 : decode cX10_beginBatch 91 = .ok (.iinc 3 1, 3) := by decide +kernel
theorem dX10_beginBatch_94 : decode cX10_beginBatch 94 = .ok (.goto (-73), 3) := by decide +kernel
theorem dX10_beginBatch_97 : decode cX10_beginBatch 97 = .ok (.iload_n 2, 1) := by decide +kernel
theorem dX10_beginBatch_98 : decode cX10_beginBatch 98 = .ok (.ifCond .lt (-96), 3) := by decide +kernel
theorem dX10_beginBatch_101 : decode cX10_beginBatch 101 = .ok (.aload_n 0, 1) := by decide +kernel
theorem dX10_beginBatch_102 : decode cX10_beginBatch 102 = .ok (.getfield 72, 3) := by decide +kernel
theorem dX10_beginBatch_105 : decode cX10_beginBatch 105 = .ok (.iload_n 2, 1) := by decide +kernel
theorem dX10_beginBatch_106 : decode cX10_beginBatch 106 = .ok (.iconst (-1), 1) := by decide +kernel
theorem dX10_beginBatch_107 : decode cX10_beginBatch 107 = .ok (.iastore, 1) := by decide +kernel
theorem dX10_beginBatch_108 : decode cX10_beginBatch 108 = .ok (.aload_n 0, 1) := by decide +kernel
theorem dX10_beginBatch_109 : decode cX10_beginBatch 109 = .ok (.iload_n 1, 1) := by decide +kernel
theorem dX10_beginBatch_110 : decode cX10_beginBatch 110 = .ok (.iconst 0, 1) := by decide +kernel
theorem dX10_beginBatch_111 : decode cX10_beginBatch 111 = .ok (.aload_n 0, 1) := by decide +kernel
theorem dX10_beginBatch_112 : decode cX10_beginBatch 112 = .ok (.getfield 66, 3) := by decide +kernel
theorem dX10_beginBatch_115 : decode cX10_beginBatch 115 = .ok (.iload_n 2, 1) := by decide +kernel
theorem dX10_beginBatch_116 : decode cX10_beginBatch 116 = .ok (.iaload, 1) := by decide +kernel
theorem dX10_beginBatch_117 : decode cX10_beginBatch 117 = .ok (.iconst 0, 1) := by decide +kernel
theorem dX10_beginBatch_118 : decode cX10_beginBatch 118 = .ok (.iconst 0, 1) := by decide +kernel
theorem dX10_beginBatch_119 : decode cX10_beginBatch 119 = .ok (.invokevirtual 212, 3) := by decide +kernel
theorem dX10_beginBatch_122 : decode cX10_beginBatch 122 = .ok (.pop, 1) := by decide +kernel
theorem dX10_beginBatch_123 : decode cX10_beginBatch 123 = .ok (.goto (-121), 3) := by decide +kernel
theorem dX10_beginBatch_126 : decode cX10_beginBatch 126 = .ok (.aload_n 0, 1) := by decide +kernel
theorem dX10_beginBatch_127 : decode cX10_beginBatch 127 = .ok (.getfield 28, 3) := by decide +kernel
theorem dX10_beginBatch_130 : decode cX10_beginBatch 130 = .ok (.iload_n 1, 1) := by decide +kernel
theorem dX10_beginBatch_131 : decode cX10_beginBatch 131 = .ok (.aload_n 0, 1) := by decide +kernel
theorem dX10_beginBatch_132 : decode cX10_beginBatch 132 = .ok (.getfield 25, 3) := by decide +kernel
theorem dX10_beginBatch_135 : decode cX10_beginBatch 135 = .ok (.iload_n 1, 1) := by decide +kernel
theorem dX10_beginBatch_136 : decode cX10_beginBatch 136 = .ok (.iaload, 1) := by decide +kernel
theorem dX10_beginBatch_137 : decode cX10_beginBatch 137 = .ok (.bipush 16, 2) := by decide +kernel
theorem dX10_beginBatch_139 : decode cX10_beginBatch 139 = .ok (.if_icmp .ge 12, 3) := by decide +kernel
theorem dX10_beginBatch_142 : decode cX10_beginBatch 142 = .ok (.aload_n 0, 1) := by decide +kernel
theorem dX10_beginBatch_143 : decode cX10_beginBatch 143 = .ok (.getfield 25, 3) := by decide +kernel
theorem dX10_beginBatch_146 : decode cX10_beginBatch 146 = .ok (.iload_n 1, 1) := by decide +kernel
theorem dX10_beginBatch_147 : decode cX10_beginBatch 147 = .ok (.iaload, 1) := by decide +kernel
theorem dX10_beginBatch_148 : decode cX10_beginBatch 148 = .ok (.goto 5, 3) := by decide +kernel
theorem dX10_beginBatch_151 : decode cX10_beginBatch 151 = .ok (.bipush 16, 2) := by decide +kernel
theorem dX10_beginBatch_153 : decode cX10_beginBatch 153 = .ok (.iastore, 1) := by decide +kernel
theorem dX10_beginBatch_154 : decode cX10_beginBatch 154 = .ok (.return_, 1) := by decide +kernel
theorem dX10_confirm_0 : decode cX10_confirm 0 = .ok (.aload_n 0, 1) := by decide +kernel
theorem dX10_confirm_1 : decode cX10_confirm 1 = .ok (.getfield 53, 3) := by decide +kernel
theorem dX10_confirm_4 : decode cX10_confirm 4 = .ok (.iload_n 1, 1) := by decide +kernel
theorem dX10_confirm_5 : decode cX10_confirm 5 = .ok (.laload, 1) := by decide +kernel
theorem dX10_confirm_6 : decode cX10_confirm 6 = .ok (.lconst 0, 1) := by decide +kernel
theorem dX10_confirm_7 : decode cX10_confirm 7 = .ok (.lcmp, 1) := by decide +kernel
theorem dX10_confirm_8 : decode cX10_confirm 8 = .ok (.ifCond .eq 45, 3) := by decide +kernel
theorem dX10_confirm_11 : decode cX10_confirm 11 = .ok (.aload_n 0, 1) := by decide +kernel
theorem dX10_confirm_12 : decode cX10_confirm 12 = .ok (.getfield 182, 3) := by decide +kernel
theorem dX10_confirm_15 : decode cX10_confirm 15 = .ok (.aload_n 0, 1) := by decide +kernel
theorem dX10_confirm_16 : decode cX10_confirm 16 = .ok (.getfield 60, 3) := by decide +kernel
theorem dX10_confirm_19 : decode cX10_confirm 19 = .ok (.iload_n 1, 1) := by decide +kernel
theorem dX10_confirm_20 : decode cX10_confirm 20 = .ok (.laload, 1) := by decide +kernel
theorem dX10_confirm_21 : decode cX10_confirm 21 = .ok (.lsub, 1) := by decide +kernel
theorem dX10_confirm_22 : decode cX10_confirm 22 = .ok (.aload_n 0, 1) := by decide +kernel
theorem dX10_confirm_23 : decode cX10_confirm 23 = .ok (.getfield 57, 3) := by decide +kernel
theorem dX10_confirm_26 : decode cX10_confirm 26 = .ok (.iload_n 1, 1) := by decide +kernel
theorem dX10_confirm_27 : decode cX10_confirm 27 = .ok (.laload, 1) := by decide +kernel
theorem dX10_confirm_28 : decode cX10_confirm 28 = .ok (.lcmp, 1) := by decide +kernel
theorem dX10_confirm_29 : decode cX10_confirm 29 = .ok (.ifCond .gt 24, 3) := by decide +kernel
theorem dX10_confirm_32 : decode cX10_confirm 32 = .ok (.aload_n 0, 1) := by decide +kernel
theorem dX10_confirm_33 : decode cX10_confirm 33 = .ok (.getfield 182, 3) := by decide +kernel
theorem dX10_confirm_36 : decode cX10_confirm 36 = .ok (.aload_n 0, 1) := by decide +kernel
theorem dX10_confirm_37 : decode cX10_confirm 37 = .ok (.getfield 63, 3) := by decide +kernel
theorem dX10_confirm_40 : decode cX10_confirm 40 = .ok (.iload_n 1, 1) := by decide +kernel
theorem dX10_confirm_41 : decode cX10_confirm 41 = .ok (.laload, 1) := by decide +kernel
theorem dX10_confirm_42 : decode cX10_confirm 42 = .ok (.lsub, 1) := by decide +kernel
theorem dX10_confirm_43 : decode cX10_confirm 43 = .ok (.aload_n 0, 1) := by decide +kernel
theorem dX10_confirm_44 : decode cX10_confirm 44 = .ok (.getfield 53, 3) := by decide +kernel
theorem dX10_confirm_47 : decode cX10_confirm 47 = .ok (.iload_n 1, 1) := by decide +kernel
theorem dX10_confirm_48 : decode cX10_confirm 48 = .ok (.laload, 1) := by decide +kernel
theorem dX10_confirm_49 : decode cX10_confirm 49 = .ok (.lcmp, 1) := by decide +kernel
theorem dX10_confirm_50 : decode cX10_confirm 50 = .ok (.ifCond .le 7, 3) := by decide +kernel
theorem dX10_confirm_53 : decode cX10_confirm 53 = .ok (.iconst 1, 1) := by decide +kernel
theorem dX10_confirm_54 : decode cX10_confirm 54 = .ok (.goto 4, 3) := by decide +kernel
theorem dX10_confirm_57 : decode cX10_confirm 57 = .ok (.iconst 0, 1) := by decide +kernel
theorem dX10_confirm_58 : decode cX10_confirm 58 = .ok (.istore_n 2, 1) := by decide +kernel
theorem dX10_confirm_59 : decode cX10_confirm 59 = .ok (.iload_n 2, 1) := by decide +kernel
theorem dX10_confirm_60 : decode cX10_confirm 60 = .ok (.ifCond .ne 5, 3) := by decide +kernel
theorem dX10_confirm_63 : decode cX10_confirm 63 = .ok (.iconst 0, 1) := by decide +kernel
theorem dX10_confirm_64 : decode cX10_confirm 64 = .ok (.ireturn, 1) := by decide +kernel
theorem dX10_confirm_65 : decode cX10_confirm 65 = .ok (.aload_n 0, 1) := by decide +kernel
theorem dX10_confirm_66 : decode cX10_confirm 66 = .ok (.iload_n 1, 1) := by decide +kernel
theorem dX10_confirm_67 : decode cX10_confirm 67 = .ok (.iconst 4, 1) := by decide +kernel
theorem dX10_confirm_68 : decode cX10_confirm 68 = .ok (.invokevirtual 192, 3) := by decide +kernel
theorem dX10_confirm_71 : decode cX10_confirm 71 = .ok (.aload_n 0, 1) := by decide +kernel
theorem dX10_confirm_72 : decode cX10_confirm 72 = .ok (.iload_n 1, 1) := by decide +kernel
theorem dX10_confirm_73 : decode cX10_confirm 73 = .ok (.iconst 5, 1) := by decide +kernel
theorem dX10_confirm_74 : decode cX10_confirm 74 = .ok (.invokevirtual 192, 3) := by decide +kernel
theorem dX10_confirm_77 : decode cX10_confirm 77 = .ok (.iconst 3, 1) := by decide +kernel
theorem dX10_confirm_78 : decode cX10_confirm 78 = .ok (.ireturn, 1) := by decide +kernel
theorem dX10_step_0 : decode cX10_step 0 = .ok (.aload_n 0, 1) := by decide +kernel
theorem dX10_step_1 : decode cX10_step 1 = .ok (.aload_n 0, 1) := by decide +kernel
theorem dX10_step_2 : decode cX10_step 2 = .ok (.iload_n 1, 1) := by decide +kernel
theorem dX10_step_3 : decode cX10_step 3 = .ok (.invokevirtual 169, 3) := by decide +kernel
theorem dX10_step_6 : decode cX10_step 6 = .ok (.ifCond .ne 7, 3) := by decide +kernel
theorem dX10_step_9 : decode cX10_step 9 = .ok (.iconst 1, 1) := by decide +kernel
theorem dX10_step_10 : decode cX10_step 10 = .ok (.goto 4, 3) := by decide +kernel
theorem dX10_step_13 : decode cX10_step 13 = .ok (.iconst 0, 1) := by decide +kernel
theorem dX10_step_14 : decode cX10_step 14 = .ok (.iconst 0, 1) := by decide +kernel
theorem dX10_step_15 : decode cX10_step 15 = .ok (.invokevirtual 159, 3) := by decide +kernel
theorem dX10_step_18 : decode cX10_step 18 = .ok (.ifCond .eq 5, 3) := by decide +kernel
theorem dX10_step_21 : decode cX10_step 21 = .ok (.iconst 0, 1) := by decide +kernel
theorem dX10_step_22 : decode cX10_step 22 = .ok (.ireturn, 1) := by decide +kernel
theorem dX10_step_23 : decode cX10_step 23 = .ok (.aload_n 0, 1) := by decide +kernel
theorem dX10_step_24 : decode cX10_step 24 = .ok (.getfield 22, 3) := by decide +kernel
theorem dX10_step_27 : decode cX10_step 27 = .ok (.iload_n 1, 1) := by decide +kernel
theorem dX10_step_28 : decode cX10_step 28 = .ok (.iaload, 1) := by decide +kernel
theorem dX10_step_29 : decode cX10_step 29 = .ok (.iconst 1, 1) := by decide +kernel
theorem dX10_step_30 : decode cX10_step 30 = .ok (.if_icmp .eq 13, 3) := by decide +kernel
theorem dX10_step_33 : decode cX10_step 33 = .ok (.aload_n 0, 1) := by decide +kernel
theorem dX10_step_34 : decode cX10_step 34 = .ok (.getfield 22, 3) := by decide +kernel
theorem dX10_step_37 : decode cX10_step 37 = .ok (.iload_n 1, 1) := by decide +kernel
theorem dX10_step_38 : decode cX10_step 38 = .ok (.iaload, 1) := by decide +kernel
theorem dX10_step_39 : decode cX10_step 39 = .ok (.iconst 5, 1) := by decide +kernel
theorem dX10_step_40 : decode cX10_step 40 = .ok (.if_icmp .ne 5, 3) := by decide +kernel
theorem dX10_step_43 : decode cX10_step 43 = .ok (.iconst 0, 1) := by decide +kernel
theorem dX10_step_44 : decode cX10_step 44 = .ok (.ireturn, 1) := by decide +kernel
theorem dX10_step_45 : decode cX10_step 45 = .ok (.aload_n 0, 1) := by decide +kernel
theorem dX10_step_46 : decode cX10_step 46 = .ok (.iload_n 1, 1) := by decide +kernel
theorem dX10_step_47 : decode cX10_step 47 = .ok (.putfield 189, 3) := by decide +kernel
theorem dX10_step_50 : decode cX10_step 50 = .ok (.aload_n 0, 1) := by decide +kernel
theorem dX10_step_51 : decode cX10_step 51 = .ok (.iconst 0, 1) := by decide +kernel
theorem dX10_step_52 : decode cX10_step 52 = .ok (.putfield 203, 3) := by decide +kernel
theorem dX10_step_55 : decode cX10_step 55 = .ok (.aload_n 0, 1) := by decide +kernel
theorem dX10_step_56 : decode cX10_step 56 = .ok (.iconst 0, 1) := by decide +kernel
theorem dX10_step_57 : decode cX10_step 57 = .ok (.putfield 221, 3) := by decide +kernel
theorem dX10_step_60 : decode cX10_step 60 = .ok (.aload_n 0, 1) := by decide +kernel
theorem dX10_step_61 : decode cX10_step 61 = .ok (.getfield 22, 3) := by decide +kernel
theorem dX10_step_64 : decode cX10_step 64 = .ok (.iload_n 1, 1) := by decide +kernel
theorem dX10_step_65 : decode cX10_step 65 = .ok (.iaload, 1) := by decide +kernel
theorem dX10_step_66 : decode cX10_step 66 = .ok (.iconst 3, 1) := by decide +kernel
theorem dX10_step_67 : decode cX10_step 67 = .ok (.if_icmp .ne 45, 3) := by decide +kernel
theorem dX10_step_70 : decode cX10_step 70 = .ok (.iconst 0, 1) := by decide +kernel
theorem dX10_step_71 : decode cX10_step 71 = .ok (.istore_n 2, 1) := by decide +kernel
theorem dX10_step_72 : decode cX10_step 72 = .ok (.iload_n 2, 1) := by decide +kernel
theorem dX10_step_73 : decode cX10_step 73 = .ok (.aload_n 0, 1) := by decide +kernel
theorem dX10_step_74 : decode cX10_step 74 = .ok (.getfield 196, 3) := by decide +kernel
theorem dX10_step_77 : decode cX10_step 77 = .ok (.if_icmp .ge 35, 3) := by decide +kernel
theorem dX10_step_80 : decode cX10_step 80 = .ok (.aload_n 0, 1) := by decide +kernel
theorem dX10_step_81 : decode cX10_step 81 = .ok (.getfield 72, 3) := by decide +kernel
theorem dX10_step_84 : decode cX10_step 84 = .ok (.iload_n 2, 1) := by decide +kernel
theorem dX10_step_85 : decode cX10_step 85 = .ok (.aload_n 0, 1) := by decide +kernel
theorem dX10_step_86 : decode cX10_step 86 = .ok (.getfield 72, 3) := by decide +kernel
theorem dX10_step_89 : decode cX10_step 89 = .ok (.iload_n 2, 1) := by decide +kernel
theorem dX10_step_90 : decode cX10_step 90 = .ok (.iaload, 1) := by decide +kernel
theorem dX10_step_91 : decode cX10_step 91 = .ok (.iload_n 1, 1) := by decide +kernel
theorem dX10_step_92 : decode cX10_step 92 = .ok (.if_icmp .ne 7, 3) := by decide +kernel
theorem dX10_step_95 : decode cX10_step 95 = .ok (.iconst (-1), 1) := by decide +kernel
theorem dX10_step_96 : decode cX10_step 96 = .ok (.goto 9, 3) := by decide +kernel
theorem dX10_step_99 : decode cX10_step 99 = .ok (.aload_n 0, 1) := by decide +kernel
theorem dX10_step_100 : decode cX10_step 100 = .ok (.getfield 72, 3) := by decide +kernel
theorem dX10_step_103 : decode cX10_step 103 = .ok (.iload_n 2, 1) := by decide +kernel
theorem dX10_step_104 : decode cX10_step 104 = .ok (.iaload, 1) := by decide +kernel
theorem dX10_step_105 : decode cX10_step 105 = .ok (.iastore, 1) := by decide +kernel
theorem dX10_step_106 : decode cX10_step 106 = .ok (.iinc 2 1, 3) := by decide +kernel
theorem dX10_step_109 : decode cX10_step 109 = .ok (.goto (-37), 3) := by decide +kernel
theorem dX10_step_112 : decode cX10_step 112 = .ok (.aload_n 0, 1) := by decide +kernel
theorem dX10_step_113 : decode cX10_step 113 = .ok (.getfield 40, 3) := by decide +kernel
theorem dX10_step_116 : decode cX10_step 116 = .ok (.iload_n 1, 1) := by decide +kernel
theorem dX10_step_117 : decode cX10_step 117 = .ok (.baload, 1) := by decide +kernel
theorem dX10_step_118 : decode cX10_step 118 = .ok (.ifCond .eq 69, 3) := by decide +kernel
theorem dX10_step_121 : decode cX10_step 121 = .ok (.aload_n 0, 1) := by decide +kernel
theorem dX10_step_122 : decode cX10_step 122 = .ok (.getfield 78, 3) := by decide +kernel
theorem dX10_step_125 : decode cX10_step 125 = .ok (.aload_n 0, 1) := by decide +kernel
theorem dX10_step_126 : decode cX10_step 126 = .ok (.getfield 50, 3) := by decide +kernel
theorem dX10_step_129 : decode cX10_step 129 = .ok (.iload_n 1, 1) := by decide +kernel
theorem dX10_step_130 : decode cX10_step 130 = .ok (.iaload, 1) := by decide +kernel
theorem dX10_step_131 : decode cX10_step 131 = .ok (.iaload, 1) := by decide +kernel
theorem dX10_step_132 : decode cX10_step 132 = .ok (.ifCond .ne 5, 3) := by decide +kernel
theorem dX10_step_135 : decode cX10_step 135 = .ok (.iconst 2, 1) := by decide +kernel
theorem dX10_step_136 : decode cX10_step 136 = .ok (.ireturn, 1) := by decide +kernel
theorem dX10_step_137 : decode cX10_step 137 = .ok (.aload_n 0, 1) := by decide +kernel
theorem dX10_step_138 : decode cX10_step 138 = .ok (.getfield 40, 3) := by decide +kernel
theorem dX10_step_141 : decode cX10_step 141 = .ok (.iload_n 1, 1) := by decide +kernel
theorem dX10_step_142 : decode cX10_step 142 = .ok (.iconst 0, 1) := by decide +kernel
theorem dX10_step_143 : decode cX10_step 143 = .ok (.bastore, 1) := by decide +kernel
theorem dX10_step_144 : decode cX10_step 144 = .ok (.aload_n 0, 1) := by decide +kernel
theorem dX10_step_145 : decode cX10_step 145 = .ok (.iload_n 1, 1) := by decide +kernel
theorem dX10_step_146 : decode cX10_step 146 = .ok (.bipush 10, 2) := by decide +kernel
theorem dX10_step_148 : decode cX10_step 148 = .ok (.aload_n 0, 1) := by decide +kernel
theorem dX10_step_149 : decode cX10_step 149 = .ok (.getfield 50, 3) := by decide +kernel
theorem dX10_step_152 : decode cX10_step 152 = .ok (.iload_n 1, 1) := by decide +kernel
theorem dX10_step_153 : decode cX10_step 153 = .ok (.iaload, 1) := by decide +kernel
theorem dX10_step_154 : decode cX10_step 154 = .ok (.invokevirtual 155, 3) := by decide +kernel
theorem dX10_step_157 : decode cX10_step 157 = .ok (.aload_n 0, 1) := by decide +kernel
theorem dX10_step_158 : decode cX10_step 158 = .ok (.iconst 0, 1) := by decide +kernel
theorem dX10_step_159 : decode cX10_step 159 = .ok (.aload_n 0, 1) := by decide +kernel
theorem dX10_step_160 : decode cX10_step 160 = .ok (.getfield 44, 3) := by decide +kernel
theorem dX10_step_163 : decode cX10_step 163 = .ok (.iload_n 1, 1) := by decide +kernel
theorem dX10_step_164 : decode cX10_step 164 = .ok (.iaload, 1) := by decide +kernel
theorem dX10_step_165 : decode cX10_step 165 = .ok (.iconst 0, 1) := by decide +kernel
theorem dX10_step_166 : decode cX10_step 166 = .ok (.invokevirtual 209, 3) := by decide +kernel
theorem dX10_step_169 : decode cX10_step 169 = .ok (.aload_n 0, 1) := by decide +kernel
theorem dX10_step_170 : decode cX10_step 170 = .ok (.getfield 123, 3) := by decide +kernel
theorem dX10_step_173 : decode cX10_step 173 = .ok (.iconst 0, 1) := by decide +kernel
theorem dX10_step_174 : decode cX10_step 174 = .ok (.aload_n 0, 1) := by decide +kernel
theorem dX10_step_175 : decode cX10_step 175 = .ok (.getfield 47, 3) := by decide +kernel
theorem dX10_step_178 : decode cX10_step 178 = .ok (.iload_n 1, 1) := by decide +kernel
theorem dX10_step_179 : decode cX10_step 179 = .ok (.iaload, 1) := by decide +kernel
theorem dX10_step_180 : decode cX10_step 180 = .ok (.iastore, 1) := by decide +kernel
theorem dX10_step_181 : decode cX10_step 181 = .ok (.aload_n 0, 1) := by decide +kernel
theorem dX10_step_182 : decode cX10_step 182 = .ok (.invokevirtual 263, 3) := by decide +kernel
theorem dX10_step_185 : decode cX10_step 185 = .ok (.iconst 1, 1) := by decide +kernel
theorem dX10_step_186 : decode cX10_step 186 = .ok (.ireturn, 1) := by decide +kernel
theorem dX10_step_187 : decode cX10_step 187 = .ok (.aload_n 0, 1) := by decide +kernel
theorem dX10_step_188 : decode cX10_step 188 = .ok (.getfield 28, 3) := by decide +kernel
theorem dX10_step_191 : decode cX10_step 191 = .ok (.iload_n 1, 1) := by decide +kernel
theorem dX10_step_192 : decode cX10_step 192 = .ok (.iaload, 1) := by decide +kernel
theorem dX10_step_193 : decode cX10_step 193 = .ok (.ifCond .ne 8, 3) := by decide +kernel
theorem dX10_step_196 : decode cX10_step 196 = .ok (.aload_n 0, 1) := by decide +kernel
theorem dX10_step_197 : decode cX10_step 197 = .ok (.iload_n 1, 1) := by decide +kernel
theorem dX10_step_198 : decode cX10_step 198 = .ok (.invokevirtual 266, 3) := by decide +kernel
theorem dX10_step_201 : decode cX10_step 201 = .ok (.aload_n 0, 1) := by decide +kernel
theorem dX10_step_202 : decode cX10_step 202 = .ok (.getfield 25, 3) := by decide +kernel
theorem dX10_step_205 : decode cX10_step 205 = .ok (.iload_n 1, 1) := by decide +kernel
theorem dX10_step_206 : decode cX10_step 206 = .ok (.iaload, 1) := by decide +kernel
theorem dX10_step_207 : decode cX10_step 207 = .ok (.ifCond .ne 23, 3) := by decide +kernel
theorem dX10_step_210 : decode cX10_step 210 = .ok (.aload_n 0, 1) := by decide +kernel
theorem dX10_step_211 : decode cX10_step 211 = .ok (.getfield 22, 3) := by decide +kernel
theorem dX10_step_214 : decode cX10_step 214 = .ok (.iload_n 1, 1) := by decide +kernel
theorem dX10_step_215 : decode cX10_step 215 = .ok (.iaload, 1) := by decide +kernel
theorem dX10_step_216 : decode cX10_step 216 = .ok (.iconst 3, 1) := by decide +kernel
theorem dX10_step_217 : decode cX10_step 217 = .ok (.if_icmp .ne 11, 3) := by decide +kernel
theorem dX10_step_220 : decode cX10_step 220 = .ok (.aload_n 0, 1) := by decide +kernel
theorem dX10_step_221 : decode cX10_step 221 = .ok (.iload_n 1, 1) := by decide +kernel
theorem dX10_step_222 : decode cX10_step 222 = .ok (.invokevirtual 269, 3) := by decide +kernel
theorem dX10_step_225 : decode cX10_step 225 = .ok (.goto 4, 3) := by decide +kernel
theorem dX10_step_228 : decode cX10_step 228 = .ok (.iconst 0, 1) := by decide +kernel
theorem dX10_step_229 : decode cX10_step 229 = .ok (.ireturn, 1) := by decide +kernel
theorem dX10_step_230 : decode cX10_step 230 = .ok (.bipush 24, 2) := by decide +kernel
theorem dX10_step_232 : decode cX10_step 232 = .ok (.iload_n 1, 1) := by decide +kernel
theorem dX10_step_233 : decode cX10_step 233 = .ok (.imul, 1) := by decide +kernel
theorem dX10_step_234 : decode cX10_step 234 = .ok (.istore_n 2, 1) := by decide +kernel
theorem dX10_step_235 : decode cX10_step 235 = .ok (.aload_n 0, 1) := by decide +kernel
theorem dX10_step_236 : decode cX10_step 236 = .ok (.getfield 31, 3) := by decide +kernel
theorem dX10_step_239 : decode cX10_step 239 = .ok (.iload_n 2, 1) := by decide +kernel
theorem dX10_step_240 : decode cX10_step 240 = .ok (.iaload, 1) := by decide +kernel
theorem dX10_step_241 : decode cX10_step 241 = .ok (.istore_n 3, 1) := by decide +kernel
theorem dX10_step_242 : decode cX10_step 242 = .ok (.aload_n 0, 1) := by decide +kernel
theorem dX10_step_243 : decode cX10_step 243 = .ok (.getfield 34, 3) := by decide +kernel
theorem dX10_step_246 : decode cX10_step 246 = .ok (.iload_n 2, 1) := by decide +kernel
theorem dX10_step_247 : decode cX10_step 247 = .ok (.iaload, 1) := by decide +kernel
theorem dX10_step_248 : decode cX10_step 248 = .ok (.istore 4, 2) := by decide +kernel
theorem dX10_step_250 : decode cX10_step 250 = .ok (.aload_n 0, 1) := by decide +kernel
theorem dX10_step_251 : decode cX10_step 251 = .ok (.getfield 37, 3) := by decide +kernel
theorem dX10_step_254 : decode cX10_step 254 = .ok (.iload_n 2, 1) := by decide +kernel
theorem dX10_step_255 : decode cX10_step 255 = .ok (.iaload, 1) := by decide +kernel
theorem dX10_step_256 : decode cX10_step 256 = .ok (.istore 5, 2) := by decide +kernel
theorem dX10_step_258 : decode cX10_step 258 = .ok (.aload_n 0, 1) := by decide +kernel
theorem dX10_step_259 : decode cX10_step 259 = .ok (.getfield 25, 3) := by decide +kernel
theorem dX10_step_262 : decode cX10_step 262 = .ok (.iload_n 1, 1) := by decide +kernel
theorem dX10_step_263 : decode cX10_step 263 = .ok (.dup2, 1) := by decide +kernel
theorem dX10_step_264 : decode cX10_step 264 = .ok (.iaload, 1) := by decide +kernel
theorem dX10_step_265 : decode cX10_step 265 = .ok (.iconst 1, 1) := by decide +kernel
theorem dX10_step_266 : decode cX10_step 266 = .ok (.isub, 1) := by decide +kernel
theorem dX10_step_267 : decode cX10_step 267 = .ok (.iastore, 1) := by decide +kernel
theorem dX10_step_268 : decode cX10_step 268 = .ok (.aload_n 0, 1) := by decide +kernel
theorem dX10_step_269 : decode cX10_step 269 = .ok (.getfield 28, 3) := by decide +kernel
theorem dX10_step_272 : decode cX10_step 272 = .ok (.iload_n 1, 1) := by decide +kernel
theorem dX10_step_273 : decode cX10_step 273 = .ok (.dup2, 1) := by decide +kernel
theorem dX10_step_274 : decode cX10_step 274 = .ok (.iaload, 1) := by decide +kernel
theorem dX10_step_275 : decode cX10_step 275 = .ok (.iconst 1, 1) := by decide +kernel
theorem dX10_step_276 : decode cX10_step 276 = .ok (.isub, 1) := by decide +kernel
theorem dX10_step_277 : decode cX10_step 277 = .ok (.iastore, 1) := by decide +kernel
theorem dX10_step_278 : decode cX10_step 278 = .ok (.iload_n 2, 1) := by decide +kernel
theorem dX10_step_279 : decode cX10_step 279 = .ok (.istore 6, 2) := by decide +kernel
theorem dX10_step_281 : decode cX10_step 281 = .ok (.iload 6, 2) := by decide +kernel
theorem dX10_step_283 : decode cX10_step 283 = .ok (.iload_n 2, 1) := by decide +kernel
theorem dX10_step_284 : decode cX10_step 284 = .ok (.aload_n 0, 1) := by decide +kernel
theorem dX10_step_285 : decode cX10_step 285 = .ok (.getfield 25, 3) := by decide +kernel
theorem dX10_step_288 : decode cX10_step 288 = .ok (.iload_n 1, 1) := by decide +kernel
theorem dX10_step_289 : decode cX10_step 289 = .ok (.iaload, 1) := by decide +kernel
theorem dX10_step_290 : decode cX10_step 290 = .ok (.iadd, 1) := by decide +kernel
theorem dX10_step_291 : decode cX10_step 291 = .ok (.if_icmp .ge 57, 3) := by decide +kernel
theorem dX10_step_294 : decode cX10_step 294 = .ok (.aload_n 0, 1) := by decide +kernel
theorem dX10_step_295 : decode cX10_step 295 = .ok (.getfield 31, 3) := by decide +kernel
theorem dX10_step_298 : decode cX10_step 298 = .ok (.iload 6, 2) := by decide +kernel
theorem dX10_step_300 : decode cX10_step 300 = .ok (.aload_n 0, 1) := by decide +kernel
theorem dX10_step_301 : decode cX10_step 301 = .ok (.getfield 31, 3) := by decide +kernel
theorem dX10_step_304 : decode cX10_step 304 = .ok (.iload 6, 2) := by decide +kernel
theorem dX10_step_306 : decode cX10_step 306 = .ok (.iconst 1, 1) := by decide +kernel
theorem dX10_step_307 : decode cX10_step 307 = .ok (.iadd, 1) := by decide +kernel
theorem dX10_step_308 : decode cX10_step 308 = .ok (.iaload, 1) := by decide +kernel
theorem dX10_step_309 : decode cX10_step 309 = .ok (.iastore, 1) := by decide +kernel
theorem dX10_step_310 : decode cX10_step 310 = .ok (.aload_n 0, 1) := by decide +kernel
theorem dX10_step_311 : decode cX10_step 311 = .ok (.getfield 34, 3) := by decide +kernel
theorem dX10_step_314 : decode cX10_step 314 = .ok (.iload 6, 2) := by decide +kernel
theorem dX10_step_316 : decode cX10_step 316 = .ok (.aload_n 0, 1) := by decide +kernel
theorem dX10_step_317 : decode cX10_step 317 = .ok (.getfield 34, 3) := by decide +kernel
theorem dX10_step_320 : decode cX10_step 320 = .ok (.iload 6, 2) := by decide +kernel
theorem dX10_step_322 : decode cX10_step 322 = .ok (.iconst 1, 1) := by decide +kernel
theorem dX10_step_323 : decode cX10_step 323 = .ok (.iadd, 1) := by decide +kernel
theorem dX10_step_324 : decode cX10_step 324 = .ok (.iaload, 1) := by decide +kernel
theorem dX10_step_325 : decode cX10_step 325 = .ok (.iastore, 1) := by decide +kernel
theorem dX10_step_326 : decode cX10_step 326 = .ok (.aload_n 0, 1) := by decide +kernel
theorem dX10_step_327 : decode cX10_step 327 = .ok (.getfield 37, 3) := by decide +kernel
theorem dX10_step_330 : decode cX10_step 330 = .ok (.iload 6, 2) := by decide +kernel
theorem dX10_step_332 : decode cX10_step 332 = .ok (.aload_n 0, 1) := by decide +kernel
theorem dX10_step_333 : decode cX10_step 333 = .ok (.getfield 37, 3) := by decide +kernel
theorem dX10_step_336 : decode cX10_step 336 = .ok (.iload 6, 2) := by decide +kernel
theorem dX10_step_338 : decode cX10_step 338 = .ok (.iconst 1, 1) := by decide +kernel
theorem dX10_step_339 : decode cX10_step 339 = .ok (.iadd, 1) := by decide +kernel
theorem dX10_step_340 : decode cX10_step 340 = .ok (.iaload, 1) := by decide +kernel
theorem dX10_step_341 : decode cX10_step 341 = .ok (.iastore, 1) := by decide +kernel
theorem dX10_step_342 : decode cX10_step 342 = .ok (.iinc 6 1, 3) := by decide +kernel
theorem dX10_step_345 : decode cX10_step 345 = .ok (.goto (-64), 3) := by decide +kernel
theorem dX10_step_348 : decode cX10_step 348 = .ok (.aload_n 0, 1) := by decide +kernel
theorem dX10_step_349 : decode cX10_step 349 = .ok (.getfield 22, 3) := by decide +kernel
theorem dX10_step_352 : decode cX10_step 352 = .ok (.iload_n 1, 1) := by decide +kernel
theorem dX10_step_353 : decode cX10_step 353 = .ok (.iaload, 1) := by decide +kernel
theorem dX10_step_354 : decode cX10_step 354 = .ok (.iconst 3, 1) := by decide +kernel
theorem dX10_step_355 : decode cX10_step 355 = .ok (.if_icmp .ne 13, 3) := by decide +kernel
theorem dX10_step_358 : decode cX10_step 358 = .ok (.aload_n 0, 1) := by decide +kernel
theorem dX10_step_359 : decode cX10_step 359 = .ok (.getfield 63, 3) := by decide +kernel
theorem dX10_step_362 : decode cX10_step 362 = .ok (.iload_n 1, 1) := by decide +kernel
theorem dX10_step_363 : decode cX10_step 363 = .ok (.aload_n 0, 1) := by decide +kernel
theorem dX10_step_364 : decode cX10_step 364 = .ok (.getfield 182, 3) := by decide +kernel
theorem dX10_step_367 : decode cX10_step 367 = .ok (.lastore, 1) := by decide +kernel
theorem dX10_step_368 : decode cX10_step 368 = .ok (.aload_n 0, 1) := by decide +kernel
theorem dX10_step_369 : decode cX10_step 369 = .ok (.iload_n 1, 1) := by decide +kernel
theorem dX10_step_370 : decode cX10_step 370 = .ok (.iload_n 3, 1) := by decide +kernel
theorem dX10_step_371 : decode cX10_step 371 = .ok (.iconst 1, 1) := by decide +kernel
theorem dX10_step_372 : decode cX10_step 372 = .ok (.if_icmp .ne 7, 3) := by decide +kernel
theorem dX10_step_375 : decode cX10_step 375 = .ok (.iconst 5, 1) := by decide +kernel
theorem dX10_step_376 : decode cX10_step 376 = .ok (.goto 4, 3) := by decide +kernel
theorem dX10_step_379 : decode cX10_step 379 = .ok (.iconst 1, 1) := by decide +kernel
theorem dX10_step_380 : decode cX10_step 380 = .ok (.iload_n 3, 1) := by decide +kernel
theorem dX10_step_381 : decode cX10_step 381 = .ok (.iconst 2, 1) := by decide +kernel
theorem dX10_step_382 : decode cX10_step 382 = .ok (.if_icmp .ne 7, 3) := by decide +kernel
theorem dX10_step_385 : decode cX10_step 385 = .ok (.iconst (-1), 1) := by decide +kernel
theorem dX10_step_386 : decode cX10_step 386 = .ok (.goto 5, 3) := by decide +kernel
theorem dX10_step_389 : decode cX10_step 389 = .ok (.iload 4, 2) := by decide +kernel
theorem dX10_step_391 : decode cX10_step 391 = .ok (.invokevirtual 155, 3) := by decide +kernel
theorem dX10_step_394 : decode cX10_step 394 = .ok (.aload_n 0, 1) := by decide +kernel
theorem dX10_step_395 : decode cX10_step 395 = .ok (.iload_n 3, 1) := by decide +kernel
theorem dX10_step_396 : decode cX10_step 396 = .ok (.iconst 2, 1) := by decide +kernel
theorem dX10_step_397 : decode cX10_step 397 = .ok (.if_icmp .ne 7, 3) := by decide +kernel
theorem dX10_step_400 : decode cX10_step 400 = .ok (.iconst 4, 1) := by decide +kernel
theorem dX10_step_401 : decode cX10_step 401 = .ok (.goto 4, 3) := by decide +kernel
theorem dX10_step_404 : decode cX10_step 404 = .ok (.iconst 0, 1) := by decide +kernel
theorem dX10_step_405 : decode cX10_step 405 = .ok (.iload 4, 2) := by decide +kernel
theorem dX10_step_407 : decode cX10_step 407 = .ok (.iload 5, 2) := by decide +kernel
theorem dX10_step_409 : decode cX10_step 409 = .ok (.invokevirtual 209, 3) := by decide +kernel
theorem dX10_step_412 : decode cX10_step 412 = .ok (.aload_n 0, 1) := by decide +kernel
theorem dX10_step_413 : decode cX10_step 413 = .ok (.invokevirtual 263, 3) := by decide +kernel
theorem dX10_step_416 : decode cX10_step 416 = .ok (.iconst 1, 1) := by decide +kernel
theorem dX10_step_417 : decode cX10_step 417 = .ok (.ireturn, 1) := by decide +kernel
theorem dX10_host_0 : decode cX10_host 0 = .ok (.aload_n 0, 1) := by decide +kernel
theorem dX10_host_1 : decode cX10_host 1 = .ok (.iconst (-1), 1) := by decide +kernel
theorem dX10_host_2 : decode cX10_host 2 = .ok (.putfield 189, 3) := by decide +kernel
theorem dX10_host_5 : decode cX10_host 5 = .ok (.aload_n 0, 1) := by decide +kernel
theorem dX10_host_6 : decode cX10_host 6 = .ok (.iconst 0, 1) := by decide +kernel
theorem dX10_host_7 : decode cX10_host 7 = .ok (.putfield 203, 3) := by decide +kernel
theorem dX10_host_10 : decode cX10_host 10 = .ok (.return_, 1) := by decide +kernel
theorem dX10_execute_0 : decode cX10_execute 0 = .ok (.aload_n 0, 1) := by decide +kernel
theorem dX10_execute_1 : decode cX10_execute 1 = .ok (.aload_n 0, 1) := by decide +kernel
theorem dX10_execute_2 : decode cX10_execute 2 = .ok (.iload_n 1, 1) := by decide +kernel
theorem dX10_execute_3 : decode cX10_execute 3 = .ok (.invokevirtual 163, 3) := by decide +kernel
theorem dX10_execute_6 : decode cX10_execute 6 = .ok (.ifCond .eq 17, 3) := by decide +kernel
theorem dX10_execute_9 : decode cX10_execute 9 = .ok (.iload_n 2, 1) := by decide +kernel
theorem dX10_execute_10 : decode cX10_execute 10 = .ok (.bipush (-2), 2) := by decide +kernel
theorem dX10_execute_12 : decode cX10_execute 12 = .ok (.if_icmp .eq 15, 3) := by decide +kernel
theorem dX10_execute_15 : decode cX10_execute 15 = .ok (.aload_n 0, 1) := by decide +kernel
theorem dX10_execute_16 : decode cX10_execute 16 = .ok (.iload_n 2, 1) := by decide +kernel
theorem dX10_execute_17 : decode cX10_execute 17 = .ok (.invokevirtual 169, 3) := by decide +kernel
theorem dX10_execute_20 : decode cX10_execute 20 = .ok (.ifCond .ne 7, 3) := by decide +kernel
theorem dX10_execute_23 : decode cX10_execute 23 = .ok (.iconst 1, 1) := by decide +kernel
theorem dX10_execute_24 : decode cX10_execute 24 = .ok (.goto 4, 3) := by decide +kernel
theorem dX10_execute_27 : decode cX10_execute 27 = .ok (.iconst 0, 1) := by decide +kernel
theorem dX10_execute_28 : decode cX10_execute 28 = .ok (.iconst 0, 1) := by decide +kernel
theorem dX10_execute_29 : decode cX10_execute 29 = .ok (.invokevirtual 159, 3) := by decide +kernel
theorem dX10_execute_32 : decode cX10_execute 32 = .ok (.ifCond .eq 5, 3) := by decide +kernel
theorem dX10_execute_35 : decode cX10_execute 35 = .ok (.iconst 0, 1) := by decide +kernel
theorem dX10_execute_36 : decode cX10_execute 36 = .ok (.ireturn, 1) := by decide +kernel
theorem dX10_execute_37 : decode cX10_execute 37 = .ok (.aload_n 0, 1) := by decide +kernel
theorem dX10_execute_38 : decode cX10_execute 38 = .ok (.invokevirtual 272, 3) := by decide +kernel
theorem dX10_execute_41 : decode cX10_execute 41 = .ok (.iload_n 2, 1) := by decide +kernel
theorem dX10_execute_42 : decode cX10_execute 42 = .ok (.bipush (-2), 2) := by decide +kernel
theorem dX10_execute_44 : decode cX10_execute 44 = .ok (.if_icmp .ne 10, 3) := by decide +kernel
theorem dX10_execute_47 : decode cX10_execute 47 = .ok (.aload_n 0, 1) := by decide +kernel
theorem dX10_execute_48 : decode cX10_execute 48 = .ok (.invokevirtual 228, 3) := by decide +kernel
theorem dX10_execute_51 : decode cX10_execute 51 = .ok (.goto 4, 3) := by decide +kernel
theorem dX10_execute_54 : decode cX10_execute 54 = .ok (.iload_n 2, 1) := by decide +kernel
theorem dX10_execute_55 : decode cX10_execute 55 = .ok (.istore_n 3, 1) := by decide +kernel
theorem dX10_execute_56 : decode cX10_execute 56 = .ok (.aload_n 0, 1) := by decide +kernel
theorem dX10_execute_57 : decode cX10_execute 57 = .ok (.iconst 0, 1) := by decide +kernel
theorem dX10_execute_58 : decode cX10_execute 58 = .ok (.aload_n 0, 1) := by decide +kernel
theorem dX10_execute_59 : decode cX10_execute 59 = .ok (.iload_n 3, 1) := by decide +kernel
theorem dX10_execute_60 : decode cX10_execute 60 = .ok (.iconst 0, 1) := by decide +kernel
theorem dX10_execute_61 : decode cX10_execute 61 = .ok (.iload_n 1, 1) := by decide +kernel
theorem dX10_execute_62 : decode cX10_execute 62 = .ok (.iconst 0, 1) := by decide +kernel
theorem dX10_execute_63 : decode cX10_execute 63 = .ok (.iload_n 1, 1) := by decide +kernel
theorem dX10_execute_64 : decode cX10_execute 64 = .ok (.invokevirtual 212, 3) := by decide +kernel
theorem dX10_execute_67 : decode cX10_execute 67 = .ok (.ifCond .ne 7, 3) := by decide +kernel
theorem dX10_execute_70 : decode cX10_execute 70 = .ok (.iconst 1, 1) := by decide +kernel
theorem dX10_execute_71 : decode cX10_execute 71 = .ok (.goto 4, 3) := by decide +kernel
theorem dX10_execute_74 : decode cX10_execute 74 = .ok (.iconst 0, 1) := by decide +kernel
theorem dX10_execute_75 : decode cX10_execute 75 = .ok (.invokevirtual 159, 3) := by decide +kernel
theorem dX10_execute_78 : decode cX10_execute 78 = .ok (.ifCond .eq 5, 3) := by decide +kernel
theorem dX10_execute_81 : decode cX10_execute 81 = .ok (.iconst 0, 1) := by decide +kernel
theorem dX10_execute_82 : decode cX10_execute 82 = .ok (.ireturn, 1) := by decide +kernel
theorem dX10_execute_83 : decode cX10_execute 83 = .ok (.iload_n 3, 1) := by decide +kernel
theorem dX10_execute_84 : decode cX10_execute 84 = .ok (.ireturn, 1) := by decide +kernel
theorem dX10_timer_0 : decode cX10_timer 0 = .ok (.aload_n 0, 1) := by decide +kernel
theorem dX10_timer_1 : decode cX10_timer 1 = .ok (.aload_n 0, 1) := by decide +kernel
theorem dX10_timer_2 : decode cX10_timer 2 = .ok (.iload_n 1, 1) := by decide +kernel
theorem dX10_timer_3 : decode cX10_timer 3 = .ok (.invokevirtual 163, 3) := by decide +kernel
theorem dX10_timer_6 : decode cX10_timer 6 = .ok (.ifCond .eq 15, 3) := by decide +kernel
theorem dX10_timer_9 : decode cX10_timer 9 = .ok (.iload_n 2, 1) := by decide +kernel
theorem dX10_timer_10 : decode cX10_timer 10 = .ok (.ifCond .lt 11, 3) := by decide +kernel
theorem dX10_timer_13 : decode cX10_timer 13 = .ok (.aload_n 0, 1) := by decide +kernel
theorem dX10_timer_14 : decode cX10_timer 14 = .ok (.iload_n 3, 1) := by decide +kernel
theorem dX10_timer_15 : decode cX10_timer 15 = .ok (.invokevirtual 169, 3) := by decide +kernel
theorem dX10_timer_18 : decode cX10_timer 18 = .ok (.ifCond .ne 7, 3) := by decide +kernel
theorem dX10_timer_21 : decode cX10_timer 21 = .ok (.iconst 1, 1) := by decide +kernel
theorem dX10_timer_22 : decode cX10_timer 22 = .ok (.goto 4, 3) := by decide +kernel
theorem dX10_timer_25 : decode cX10_timer 25 = .ok (.iconst 0, 1) := by decide +kernel
theorem dX10_timer_26 : decode cX10_timer 26 = .ok (.iconst 0, 1) := by decide +kernel
theorem dX10_timer_27 : decode cX10_timer 27 = .ok (.invokevirtual 159, 3) := by decide +kernel
theorem dX10_timer_30 : decode cX10_timer 30 = .ok (.ifCond .eq 5, 3) := by decide +kernel
theorem dX10_timer_33 : decode cX10_timer 33 = .ok (.iconst 0, 1) := by decide +kernel
theorem dX10_timer_34 : decode cX10_timer 34 = .ok (.ireturn, 1) := by decide +kernel
theorem dX10_timer_35 : decode cX10_timer 35 = .ok (.aload_n 0, 1) := by decide +kernel
theorem dX10_timer_36 : decode cX10_timer 36 = .ok (.invokevirtual 272, 3) := by decide +kernel
theorem dX10_timer_39 : decode cX10_timer 39 = .ok (.aload_n 0, 1) := by decide +kernel
theorem dX10_timer_40 : decode cX10_timer 40 = .ok (.iconst 0, 1) := by decide +kernel
theorem dX10_timer_41 : decode cX10_timer 41 = .ok (.aload_n 0, 1) := by decide +kernel
theorem dX10_timer_42 : decode cX10_timer 42 = .ok (.iload_n 1, 1) := by decide +kernel
theorem dX10_timer_43 : decode cX10_timer 43 = .ok (.iload_n 2, 1) := by decide +kernel
theorem dX10_timer_44 : decode cX10_timer 44 = .ok (.i2l, 1) := by decide +kernel
theorem dX10_timer_45 : decode cX10_timer 45 = .ok (.iload_n 3, 1) := by decide +kernel
theorem dX10_timer_46 : decode cX10_timer 46 = .ok (.invokevirtual 232, 3) := by decide +kernel
theorem dX10_timer_49 : decode cX10_timer 49 = .ok (.ifCond .ne 7, 3) := by decide +kernel
theorem dX10_timer_52 : decode cX10_timer 52 = .ok (.iconst 1, 1) := by decide +kernel
theorem dX10_timer_53 : decode cX10_timer 53 = .ok (.goto 4, 3) := by decide +kernel
theorem dX10_timer_56 : decode cX10_timer 56 = .ok (.iconst 0, 1) := by decide +kernel
theorem dX10_timer_57 : decode cX10_timer 57 = .ok (.invokevirtual 159, 3) := by decide +kernel
theorem dX10_timer_60 : decode cX10_timer 60 = .ok (.ifCond .eq 5, 3) := by decide +kernel
theorem dX10_timer_63 : decode cX10_timer 63 = .ok (.iconst 0, 1) := by decide +kernel
theorem dX10_timer_64 : decode cX10_timer 64 = .ok (.ireturn, 1) := by decide +kernel
theorem dX10_timer_65 : decode cX10_timer 65 = .ok (.aload_n 0, 1) := by decide +kernel
theorem dX10_timer_66 : decode cX10_timer 66 = .ok (.getfield 196, 3) := by decide +kernel
theorem dX10_timer_69 : decode cX10_timer 69 = .ok (.iconst 1, 1) := by decide +kernel
theorem dX10_timer_70 : decode cX10_timer 70 = .ok (.isub, 1) := by decide +kernel
theorem dX10_timer_71 : decode cX10_timer 71 = .ok (.ireturn, 1) := by decide +kernel
theorem dX10_cancel_0 : decode cX10_cancel 0 = .ok (.aload_n 0, 1) := by decide +kernel
theorem dX10_cancel_1 : decode cX10_cancel 1 = .ok (.iconst 0, 1) := by decide +kernel
theorem dX10_cancel_2 : decode cX10_cancel 2 = .ok (.putfield 136, 3) := by decide +kernel
theorem dX10_cancel_5 : decode cX10_cancel 5 = .ok (.iload_n 1, 1) := by decide +kernel
theorem dX10_cancel_6 : decode cX10_cancel 6 = .ok (.i2l, 1) := by decide +kernel
theorem dX10_cancel_7 : decode cX10_cancel 7 = .ok (.lconst 0, 1) := by decide +kernel
theorem dX10_cancel_8 : decode cX10_cancel 8 = .ok (.aload_n 0, 1) := by decide +kernel
theorem dX10_cancel_9 : decode cX10_cancel 9 = .ok (.getfield 196, 3) := by decide +kernel
theorem dX10_cancel_12 : decode cX10_cancel 12 = .ok (.iconst 1, 1) := by decide +kernel
theorem dX10_cancel_13 : decode cX10_cancel 13 = .ok (.isub, 1) := by decide +kernel
theorem dX10_cancel_14 : decode cX10_cancel 14 = .ok (.i2l, 1) := by decide +kernel
theorem dX10_cancel_15 : decode cX10_cancel 15 = .ok (.invokestatic 142, 3) := by decide +kernel
theorem dX10_cancel_18 : decode cX10_cancel 18 = .ok (.ifCond .eq 16, 3) := by decide +kernel
theorem dX10_cancel_21 : decode cX10_cancel 21 = .ok (.aload_n 0, 1) := by decide +kernel
theorem dX10_cancel_22 : decode cX10_cancel 22 = .ok (.getfield 72, 3) := by decide +kernel
theorem dX10_cancel_25 : decode cX10_cancel 25 = .ok (.iload_n 1, 1) := by decide +kernel
theorem dX10_cancel_26 : decode cX10_cancel 26 = .ok (.iaload, 1) := by decide +kernel
theorem dX10_cancel_27 : decode cX10_cancel 27 = .ok (.ifCond .lt 7, 3) := by decide +kernel
theorem dX10_cancel_30 : decode cX10_cancel 30 = .ok (.iconst 1, 1) := by decide +kernel
theorem dX10_cancel_31 : decode cX10_cancel 31 = .ok (.goto 4, 3) := by decide +kernel
theorem dX10_cancel_34 : decode cX10_cancel 34 = .ok (.iconst 0, 1) := by decide +kernel
theorem dX10_cancel_35 : decode cX10_cancel 35 = .ok (.istore_n 2, 1) := by decide +kernel
theorem dX10_cancel_36 : decode cX10_cancel 36 = .ok (.iload_n 2, 1) := by decide +kernel
theorem dX10_cancel_37 : decode cX10_cancel 37 = .ok (.ifCond .eq 10, 3) := by decide +kernel
theorem dX10_cancel_40 : decode cX10_cancel 40 = .ok (.aload_n 0, 1) := by decide +kernel
theorem dX10_cancel_41 : decode cX10_cancel 41 = .ok (.getfield 72, 3) := by decide +kernel
theorem dX10_cancel_44 : decode cX10_cancel 44 = .ok (.iload_n 1, 1) := by decide +kernel
theorem dX10_cancel_45 : decode cX10_cancel 45 = .ok (.iconst (-1), 1) := by decide +kernel
theorem dX10_cancel_46 : decode cX10_cancel 46 = .ok (.iastore, 1) := by decide +kernel
theorem dX10_cancel_47 : decode cX10_cancel 47 = .ok (.iload_n 2, 1) := by decide +kernel
theorem dX10_cancel_48 : decode cX10_cancel 48 = .ok (.ireturn, 1) := by decide +kernel
theorem dX10_complete_0 : decode cX10_complete 0 = .ok (.aload_n 0, 1) := by decide +kernel
theorem dX10_complete_1 : decode cX10_complete 1 = .ok (.aload_n 0, 1) := by decide +kernel
theorem dX10_complete_2 : decode cX10_complete 2 = .ok (.iload_n 1, 1) := by decide +kernel
theorem dX10_complete_3 : decode cX10_complete 3 = .ok (.invokevirtual 218, 3) := by decide +kernel
theorem dX10_complete_6 : decode cX10_complete 6 = .ok (.ifCond .eq 15, 3) := by decide +kernel
theorem dX10_complete_9 : decode cX10_complete 9 = .ok (.iload_n 2, 1) := by decide +kernel
theorem dX10_complete_10 : decode cX10_complete 10 = .ok (.i2l, 1) := by decide +kernel
theorem dX10_complete_11 : decode cX10_complete 11 = .ok (.lconst 1, 1) := by decide +kernel
theorem dX10_complete_12 : decode cX10_complete 12 = .ok (.ldc2_w 275, 3) := by decide +kernel
theorem dX10_complete_15 : decode cX10_complete 15 = .ok (.invokestatic 142, 3) := by decide +kernel
theorem dX10_complete_18 : decode cX10_complete 18 = .ok (.ifCond .ne 7, 3) := by decide +kernel
theorem dX10_complete_21 : decode cX10_complete 21 = .ok (.iconst 1, 1) := by decide +kernel
theorem dX10_complete_22 : decode cX10_complete 22 = .ok (.goto 4, 3) := by decide +kernel
theorem dX10_complete_25 : decode cX10_complete 25 = .ok (.iconst 0, 1) := by decide +kernel
theorem dX10_complete_26 : decode cX10_complete 26 = .ok (.iconst 0, 1) := by decide +kernel
theorem dX10_complete_27 : decode cX10_complete 27 = .ok (.invokevirtual 159, 3) := by decide +kernel
theorem dX10_complete_30 : decode cX10_complete 30 = .ok (.ifCond .eq 5, 3) := by decide +kernel
theorem dX10_complete_33 : decode cX10_complete 33 = .ok (.iconst 0, 1) := by decide +kernel
theorem dX10_complete_34 : decode cX10_complete 34 = .ok (.ireturn, 1) := by decide +kernel
theorem dX10_complete_35 : decode cX10_complete 35 = .ok (.aload_n 0, 1) := by decide +kernel
theorem dX10_complete_36 : decode cX10_complete 36 = .ok (.invokevirtual 272, 3) := by decide +kernel
theorem dX10_complete_39 : decode cX10_complete 39 = .ok (.iload_n 2, 1) := by decide +kernel
theorem dX10_complete_40 : decode cX10_complete 40 = .ok (.iconst 4, 1) := by decide +kernel
theorem dX10_complete_41 : decode cX10_complete 41 = .ok (.if_icmp .ne 20, 3) := by decide +kernel
theorem dX10_complete_44 : decode cX10_complete 44 = .ok (.aload_n 0, 1) := by decide +kernel
theorem dX10_complete_45 : decode cX10_complete 45 = .ok (.getfield 78, 3) := by decide +kernel
theorem dX10_complete_48 : decode cX10_complete 48 = .ok (.iload_n 1, 1) := by decide +kernel
theorem dX10_complete_49 : decode cX10_complete 49 = .ok (.iaload, 1) := by decide +kernel
theorem dX10_complete_50 : decode cX10_complete 50 = .ok (.ifCond .ne 7, 3) := by decide +kernel
theorem dX10_complete_53 : decode cX10_complete 53 = .ok (.iconst 1, 1) := by decide +kernel
theorem dX10_complete_54 : decode cX10_complete 54 = .ok (.goto 14, 3) := by decide +kernel
theorem dX10_complete_57 : decode cX10_complete 57 = .ok (.iconst 0, 1) := by decide +kernel
theorem dX10_complete_58 : decode cX10_complete 58 = .ok (.goto 10, 3) := by decide +kernel
theorem dX10_complete_61 : decode cX10_complete 61 = .ok (.aload_n 0, 1) := by decide +kernel
theorem dX10_complete_62 : decode cX10_complete 62 = .ok (.iload_n 1, 1) := by decide +kernel
theorem dX10_complete_63 : decode cX10_complete 63 = .ok (.iload_n 2, 1) := by decide +kernel
theorem dX10_complete_64 : decode cX10_complete 64 = .ok (.iload_n 3, 1) := by decide +kernel
theorem dX10_complete_65 : decode cX10_complete 65 = .ok (.invokevirtual 236, 3) := by decide +kernel
theorem dX10_complete_68 : decode cX10_complete 68 = .ok (.istore 4, 2) := by decide +kernel
theorem dX10_complete_70 : decode cX10_complete 70 = .ok (.iload_n 2, 1) := by decide +kernel
theorem dX10_complete_71 : decode cX10_complete 71 = .ok (.iconst 4, 1) := by decide +kernel
theorem dX10_complete_72 : decode cX10_complete 72 = .ok (.if_icmp .ne 10, 3) := by decide +kernel
theorem dX10_complete_75 : decode cX10_complete 75 = .ok (.aload_n 0, 1) := by decide +kernel
theorem dX10_complete_76 : decode cX10_complete 76 = .ok (.getfield 84, 3) := by decide +kernel
theorem dX10_complete_79 : decode cX10_complete 79 = .ok (.iload_n 1, 1) := by decide +kernel
theorem dX10_complete_80 : decode cX10_complete 80 = .ok (.iconst 1, 1) := by decide +kernel
theorem dX10_complete_81 : decode cX10_complete 81 = .ok (.bastore, 1) := by decide +kernel
theorem dX10_complete_82 : decode cX10_complete 82 = .ok (.aload_n 0, 1) := by decide +kernel
theorem dX10_complete_83 : decode cX10_complete 83 = .ok (.invokevirtual 263, 3) := by decide +kernel
theorem dX10_complete_86 : decode cX10_complete 86 = .ok (.iload 4, 2) := by decide +kernel
theorem dX10_complete_88 : decode cX10_complete 88 = .ok (.ireturn, 1) := by decide +kernel
theorem dX10_listen_0 : decode cX10_listen 0 = .ok (.aload_n 0, 1) := by decide +kernel
theorem dX10_listen_1 : decode cX10_listen 1 = .ok (.aload_n 0, 1) := by decide +kernel
theorem dX10_listen_2 : decode cX10_listen 2 = .ok (.iload_n 1, 1) := by decide +kernel
theorem dX10_listen_3 : decode cX10_listen 3 = .ok (.invokevirtual 218, 3) := by decide +kernel
theorem dX10_listen_6 : decode cX10_listen 6 = .ok (.ifCond .eq 31, 3) := by decide +kernel
theorem dX10_listen_9 : decode cX10_listen 9 = .ok (.aload_n 0, 1) := by decide +kernel
theorem dX10_listen_10 : decode cX10_listen 10 = .ok (.iload_n 2, 1) := by decide +kernel
theorem dX10_listen_11 : decode cX10_listen 11 = .ok (.invokevirtual 163, 3) := by decide +kernel
theorem dX10_listen_14 : decode cX10_listen 14 = .ok (.ifCond .eq 23, 3) := by decide +kernel
theorem dX10_listen_17 : decode cX10_listen 17 = .ok (.aload_n 0, 1) := by decide +kernel
theorem dX10_listen_18 : decode cX10_listen 18 = .ok (.getfield 78, 3) := by decide +kernel
theorem dX10_listen_21 : decode cX10_listen 21 = .ok (.iload_n 1, 1) := by decide +kernel
theorem dX10_listen_22 : decode cX10_listen 22 = .ok (.iaload, 1) := by decide +kernel
theorem dX10_listen_23 : decode cX10_listen 23 = .ok (.ifCond .ne 18, 3) := by decide +kernel
theorem dX10_listen_26 : decode cX10_listen 26 = .ok (.aload_n 0, 1) := by decide +kernel
theorem dX10_listen_27 : decode cX10_listen 27 = .ok (.getfield 87, 3) := by decide +kernel
theorem dX10_listen_30 : decode cX10_listen 30 = .ok (.iload_n 1, 1) := by decide +kernel
theorem dX10_listen_31 : decode cX10_listen 31 = .ok (.iaload, 1) := by decide +kernel
theorem dX10_listen_32 : decode cX10_listen 32 = .ok (.bipush 6, 2) := by decide +kernel
theorem dX10_listen_34 : decode cX10_listen 34 = .ok (.if_icmp .ne 7, 3) := by decide +kernel
theorem dX10_listen_37 : decode cX10_listen 37 = .ok (.iconst 1, 1) := by decide +kernel
theorem dX10_listen_38 : decode cX10_listen 38 = .ok (.goto 4, 3) := by decide +kernel
theorem dX10_listen_41 : decode cX10_listen 41 = .ok (.iconst 0, 1) := by decide +kernel
theorem dX10_listen_42 : decode cX10_listen 42 = .ok (.iconst 0, 1) := by decide +kernel
theorem dX10_listen_43 : decode cX10_listen 43 = .ok (.invokevirtual 159, 3) := by decide +kernel
theorem dX10_listen_46 : decode cX10_listen 46 = .ok (.ifCond .eq 4, 3) := by decide +kernel
theorem dX10_listen_49 : decode cX10_listen 49 = .ok (.return_, 1) := by decide +kernel
theorem dX10_listen_50 : decode cX10_listen 50 = .ok (.aload_n 0, 1) := by decide +kernel
theorem dX10_listen_51 : decode cX10_listen 51 = .ok (.invokevirtual 272, 3) := by decide +kernel
theorem dX10_listen_54 : decode cX10_listen 54 = .ok (.aload_n 0, 1) := by decide +kernel
theorem dX10_listen_55 : decode cX10_listen 55 = .ok (.iload_n 1, 1) := by decide +kernel
theorem dX10_listen_56 : decode cX10_listen 56 = .ok (.iload_n 2, 1) := by decide +kernel
theorem dX10_listen_57 : decode cX10_listen 57 = .ok (.invokevirtual 239, 3) := by decide +kernel
theorem dX10_listen_60 : decode cX10_listen 60 = .ok (.aload_n 0, 1) := by decide +kernel
theorem dX10_listen_61 : decode cX10_listen 61 = .ok (.invokevirtual 263, 3) := by decide +kernel
theorem dX10_listen_64 : decode cX10_listen 64 = .ok (.return_, 1) := by decide +kernel
theorem dX10_fire_0 : decode cX10_fire 0 = .ok (.aload_n 0, 1) := by decide +kernel
theorem dX10_fire_1 : decode cX10_fire 1 = .ok (.aload_n 0, 1) := by decide +kernel
theorem dX10_fire_2 : decode cX10_fire 2 = .ok (.iload_n 1, 1) := by decide +kernel
theorem dX10_fire_3 : decode cX10_fire 3 = .ok (.invokevirtual 172, 3) := by decide +kernel
theorem dX10_fire_6 : decode cX10_fire 6 = .ok (.ifCond .ne 7, 3) := by decide +kernel
theorem dX10_fire_9 : decode cX10_fire 9 = .ok (.iconst 1, 1) := by decide +kernel
theorem dX10_fire_10 : decode cX10_fire 10 = .ok (.goto 4, 3) := by decide +kernel
theorem dX10_fire_13 : decode cX10_fire 13 = .ok (.iconst 0, 1) := by decide +kernel
theorem dX10_fire_14 : decode cX10_fire 14 = .ok (.iconst 0, 1) := by decide +kernel
theorem dX10_fire_15 : decode cX10_fire 15 = .ok (.invokevirtual 159, 3) := by decide +kernel
theorem dX10_fire_18 : decode cX10_fire 18 = .ok (.ifCond .eq 4, 3) := by decide +kernel
theorem dX10_fire_21 : decode cX10_fire 21 = .ok (.return_, 1) := by decide +kernel
theorem dX10_fire_22 : decode cX10_fire 22 = .ok (.aload_n 0, 1) := by decide +kernel
theorem dX10_fire_23 : decode cX10_fire 23 = .ok (.invokevirtual 272, 3) := by decide +kernel
theorem dX10_fire_26 : decode cX10_fire 26 = .ok (.aload_n 0, 1) := by decide +kernel
theorem dX10_fire_27 : decode cX10_fire 27 = .ok (.iconst 0, 1) := by decide +kernel
theorem dX10_fire_28 : decode cX10_fire 28 = .ok (.aload_n 0, 1) := by decide +kernel
theorem dX10_fire_29 : decode cX10_fire 29 = .ok (.iload_n 1, 1) := by decide +kernel
theorem dX10_fire_30 : decode cX10_fire 30 = .ok (.iload_n 2, 1) := by decide +kernel
theorem dX10_fire_31 : decode cX10_fire 31 = .ok (.invokevirtual 246, 3) := by decide +kernel
theorem dX10_fire_34 : decode cX10_fire 34 = .ok (.ifCond .ne 7, 3) := by decide +kernel
theorem dX10_fire_37 : decode cX10_fire 37 = .ok (.iconst 1, 1) := by decide +kernel
theorem dX10_fire_38 : decode cX10_fire 38 = .ok (.goto 4, 3) := by decide +kernel
theorem dX10_fire_41 : decode cX10_fire 41 = .ok (.iconst 0, 1) := by decide +kernel
theorem dX10_fire_42 : decode cX10_fire 42 = .ok (.invokevirtual 159, 3) := by decide +kernel
theorem dX10_fire_45 : decode cX10_fire 45 = .ok (.pop, 1) := by decide +kernel
theorem dX10_fire_46 : decode cX10_fire 46 = .ok (.return_, 1) := by decide +kernel
theorem dX10_shutdown_0 : decode cX10_shutdown 0 = .ok (.aload_n 0, 1) := by decide +kernel
theorem dX10_shutdown_1 : decode cX10_shutdown 1 = .ok (.iload_n 1, 1) := by decide +kernel
theorem dX10_shutdown_2 : decode cX10_shutdown 2 = .ok (.ifCond .lt 8, 3) := by decide +kernel
theorem dX10_shutdown_5 : decode cX10_shutdown 5 = .ok (.iload_n 2, 1) := by decide +kernel
theorem dX10_shutdown_6 : decode cX10_shutdown 6 = .ok (.iload_n 1, 1) := by decide +kernel
theorem dX10_shutdown_7 : decode cX10_shutdown 7 = .ok (.if_icmp .ge 7, 3) := by decide +kernel
theorem dX10_shutdown_10 : decode cX10_shutdown 10 = .ok (.iconst 1, 1) := by decide +kernel
theorem dX10_shutdown_11 : decode cX10_shutdown 11 = .ok (.goto 4, 3) := by decide +kernel
theorem dX10_shutdown_14 : decode cX10_shutdown 14 = .ok (.iconst 0, 1) := by decide +kernel
theorem dX10_shutdown_15 : decode cX10_shutdown 15 = .ok (.iconst 0, 1) := by decide +kernel
theorem dX10_shutdown_16 : decode cX10_shutdown 16 = .ok (.invokevirtual 159, 3) := by decide +kernel
theorem dX10_shutdown_19 : decode cX10_shutdown 19 = .ok (.ifCond .eq 4, 3) := by decide +kernel
theorem dX10_shutdown_22 : decode cX10_shutdown 22 = .ok (.return_, 1) := by decide +kernel
theorem dX10_shutdown_23 : decode cX10_shutdown 23 = .ok (.aload_n 0, 1) := by decide +kernel
theorem dX10_shutdown_24 : decode cX10_shutdown 24 = .ok (.invokevirtual 272, 3) := by decide +kernel
theorem dX10_shutdown_27 : decode cX10_shutdown 27 = .ok (.aload_n 0, 1) := by decide +kernel
theorem dX10_shutdown_28 : decode cX10_shutdown 28 = .ok (.iload_n 1, 1) := by decide +kernel
theorem dX10_shutdown_29 : decode cX10_shutdown 29 = .ok (.iload_n 2, 1) := by decide +kernel
theorem dX10_shutdown_30 : decode cX10_shutdown 30 = .ok (.invokevirtual 250, 3) := by decide +kernel
theorem dX10_shutdown_33 : decode cX10_shutdown 33 = .ok (.return_, 1) := by decide +kernel
theorem dX10_loop_0 : decode cX10_loop 0 = .ok (.aload_n 0, 1) := by decide +kernel
theorem dX10_loop_1 : decode cX10_loop 1 = .ok (.aload_n 0, 1) := by decide +kernel
theorem dX10_loop_2 : decode cX10_loop 2 = .ok (.iload_n 1, 1) := by decide +kernel
theorem dX10_loop_3 : decode cX10_loop 3 = .ok (.invokevirtual 169, 3) := by decide +kernel
theorem dX10_loop_6 : decode cX10_loop 6 = .ok (.ifCond .eq 15, 3) := by decide +kernel
theorem dX10_loop_9 : decode cX10_loop 9 = .ok (.iload_n 2, 1) := by decide +kernel
theorem dX10_loop_10 : decode cX10_loop 10 = .ok (.i2l, 1) := by decide +kernel
theorem dX10_loop_11 : decode cX10_loop 11 = .ok (.lconst 0, 1) := by decide +kernel
theorem dX10_loop_12 : decode cX10_loop 12 = .ok (.ldc2_w 275, 3) := by decide +kernel
theorem dX10_loop_15 : decode cX10_loop 15 = .ok (.invokestatic 142, 3) := by decide +kernel
theorem dX10_loop_18 : decode cX10_loop 18 = .ok (.ifCond .ne 7, 3) := by decide +kernel
theorem dX10_loop_21 : decode cX10_loop 21 = .ok (.iconst 1, 1) := by decide +kernel
theorem dX10_loop_22 : decode cX10_loop 22 = .ok (.goto 4, 3) := by decide +kernel
theorem dX10_loop_25 : decode cX10_loop 25 = .ok (.iconst 0, 1) := by decide +kernel
theorem dX10_loop_26 : decode cX10_loop 26 = .ok (.iconst 0, 1) := by decide +kernel
theorem dX10_loop_27 : decode cX10_loop 27 = .ok (.invokevirtual 159, 3) := by decide +kernel
theorem dX10_loop_30 : decode cX10_loop 30 = .ok (.ifCond .eq 5, 3) := by decide +kernel
theorem dX10_loop_33 : decode cX10_loop 33 = .ok (.iconst 0, 1) := by decide +kernel
theorem dX10_loop_34 : decode cX10_loop 34 = .ok (.ireturn, 1) := by decide +kernel
theorem dX10_loop_35 : decode cX10_loop 35 = .ok (.iload_n 2, 1) := by decide +kernel
theorem dX10_loop_36 : decode cX10_loop 36 = .ok (.ifCond .ne 12, 3) := by decide +kernel
theorem dX10_loop_39 : decode cX10_loop 39 = .ok (.aload_n 0, 1) := by decide +kernel
theorem dX10_loop_40 : decode cX10_loop 40 = .ok (.getfield 22, 3) := by decide +kernel
theorem dX10_loop_43 : decode cX10_loop 43 = .ok (.iload_n 1, 1) := by decide +kernel
theorem dX10_loop_44 : decode cX10_loop 44 = .ok (.iaload, 1) := by decide +kernel
theorem dX10_loop_45 : decode cX10_loop 45 = .ok (.goto 58, 3) := by decide +kernel
theorem dX10_loop_48 : decode cX10_loop 48 = .ok (.iload_n 2, 1) := by decide +kernel
theorem dX10_loop_49 : decode cX10_loop 49 = .ok (.iconst 1, 1) := by decide +kernel
theorem dX10_loop_50 : decode cX10_loop 50 = .ok (.if_icmp .ne 12, 3) := by decide +kernel
theorem dX10_loop_53 : decode cX10_loop 53 = .ok (.aload_n 0, 1) := by decide +kernel
theorem dX10_loop_54 : decode cX10_loop 54 = .ok (.getfield 25, 3) := by decide +kernel
theorem dX10_loop_57 : decode cX10_loop 57 = .ok (.iload_n 1, 1) := by decide +kernel
theorem dX10_loop_58 : decode cX10_loop 58 = .ok (.iaload, 1) := by decide +kernel
theorem dX10_loop_59 : decode cX10_loop 59 = .ok (.goto 44, 3) := by decide +kernel
theorem dX10_loop_62 : decode cX10_loop 62 = .ok (.iload_n 2, 1) := by decide +kernel
theorem dX10_loop_63 : decode cX10_loop 63 = .ok (.iconst 2, 1) := by decide +kernel
theorem dX10_loop_64 : decode cX10_loop 64 = .ok (.if_icmp .ne 11, 3) := by decide +kernel
theorem dX10_loop_67 : decode cX10_loop 67 = .ok (.aload_n 0, 1) := by decide +kernel
theorem dX10_loop_68 : decode cX10_loop 68 = .ok (.iload_n 1, 1) := by decide +kernel
theorem dX10_loop_69 : decode cX10_loop 69 = .ok (.invokevirtual 199, 3) := by decide +kernel
theorem dX10_loop_72 : decode cX10_loop 72 = .ok (.goto 31, 3) := by decide +kernel
theorem dX10_loop_75 : decode cX10_loop 75 = .ok (.iload_n 2, 1) := by decide +kernel
theorem dX10_loop_76 : decode cX10_loop 76 = .ok (.iconst 3, 1) := by decide +kernel
theorem dX10_loop_77 : decode cX10_loop 77 = .ok (.if_icmp .ne 20, 3) := by decide +kernel
theorem dX10_loop_80 : decode cX10_loop 80 = .ok (.aload_n 0, 1) := by decide +kernel
theorem dX10_loop_81 : decode cX10_loop 81 = .ok (.getfield 40, 3) := by decide +kernel
theorem dX10_loop_84 : decode cX10_loop 84 = .ok (.iload_n 1, 1) := by decide +kernel
theorem dX10_loop_85 : decode cX10_loop 85 = .ok (.baload, 1) := by decide +kernel
theorem dX10_loop_86 : decode cX10_loop 86 = .ok (.ifCond .eq 7, 3) := by decide +kernel
theorem dX10_loop_89 : decode cX10_loop 89 = .ok (.iconst 1, 1) := by decide +kernel
theorem dX10_loop_90 : decode cX10_loop 90 = .ok (.goto 13, 3) := by decide +kernel
theorem dX10_loop_93 : decode cX10_loop 93 = .ok (.iconst 0, 1) := by decide +kernel
theorem dX10_loop_94 : decode cX10_loop 94 = .ok (.goto 9, 3) := by decide +kernel
theorem dX10_loop_97 : decode cX10_loop 97 = .ok (.aload_n 0, 1) := by decide +kernel
theorem dX10_loop_98 : decode cX10_loop 98 = .ok (.getfield 28, 3) := by decide +kernel
theorem dX10_loop_101 : decode cX10_loop 101 = .ok (.iload_n 1, 1) := by decide +kernel
theorem dX10_loop_102 : decode cX10_loop 102 = .ok (.iaload, 1) := by decide +kernel
theorem dX10_loop_103 : decode cX10_loop 103 = .ok (.ireturn, 1) := by decide +kernel
theorem dX10_look_0 : decode cX10_look 0 = .ok (.aload_n 0, 1) := by decide +kernel
theorem dX10_look_1 : decode cX10_look 1 = .ok (.aload_n 0, 1) := by decide +kernel
theorem dX10_look_2 : decode cX10_look 2 = .ok (.iload_n 1, 1) := by decide +kernel
theorem dX10_look_3 : decode cX10_look 3 = .ok (.invokevirtual 218, 3) := by decide +kernel
theorem dX10_look_6 : decode cX10_look 6 = .ok (.ifCond .eq 15, 3) := by decide +kernel
theorem dX10_look_9 : decode cX10_look 9 = .ok (.iload_n 2, 1) := by decide +kernel
theorem dX10_look_10 : decode cX10_look 10 = .ok (.i2l, 1) := by decide +kernel
theorem dX10_look_11 : decode cX10_look 11 = .ok (.lconst 0, 1) := by decide +kernel
theorem dX10_look_12 : decode cX10_look 12 = .ok (.ldc2_w 277, 3) := by decide +kernel
theorem dX10_look_15 : decode cX10_look 15 = .ok (.invokestatic 142, 3) := by decide +kernel
theorem dX10_look_18 : decode cX10_look 18 = .ok (.ifCond .ne 7, 3) := by decide +kernel
theorem dX10_look_21 : decode cX10_look 21 = .ok (.iconst 1, 1) := by decide +kernel
theorem dX10_look_22 : decode cX10_look 22 = .ok (.goto 4, 3) := by decide +kernel
theorem dX10_look_25 : decode cX10_look 25 = .ok (.iconst 0, 1) := by decide +kernel
theorem dX10_look_26 : decode cX10_look 26 = .ok (.iconst 0, 1) := by decide +kernel
theorem dX10_look_27 : decode cX10_look 27 = .ok (.invokevirtual 159, 3) := by decide +kernel
theorem dX10_look_30 : decode cX10_look 30 = .ok (.ifCond .eq 5, 3) := by decide +kernel
theorem dX10_look_33 : decode cX10_look 33 = .ok (.iconst 0, 1) := by decide +kernel
theorem dX10_look_34 : decode cX10_look 34 = .ok (.ireturn, 1) := by decide +kernel
theorem dX10_look_35 : decode cX10_look 35 = .ok (.iload_n 2, 1) := by decide +kernel
theorem dX10_look_36 : decode cX10_look 36 = .ok (.ifCond .ne 12, 3) := by decide +kernel
theorem dX10_look_39 : decode cX10_look 39 = .ok (.aload_n 0, 1) := by decide +kernel
theorem dX10_look_40 : decode cX10_look 40 = .ok (.getfield 78, 3) := by decide +kernel
theorem dX10_look_43 : decode cX10_look 43 = .ok (.iload_n 1, 1) := by decide +kernel
theorem dX10_look_44 : decode cX10_look 44 = .ok (.iaload, 1) := by decide +kernel
theorem dX10_look_45 : decode cX10_look 45 = .ok (.goto 23, 3) := by decide +kernel
theorem dX10_look_48 : decode cX10_look 48 = .ok (.iload_n 2, 1) := by decide +kernel
theorem dX10_look_49 : decode cX10_look 49 = .ok (.iconst 1, 1) := by decide +kernel
theorem dX10_look_50 : decode cX10_look 50 = .ok (.if_icmp .ne 12, 3) := by decide +kernel
theorem dX10_look_53 : decode cX10_look 53 = .ok (.aload_n 0, 1) := by decide +kernel
theorem dX10_look_54 : decode cX10_look 54 = .ok (.getfield 81, 3) := by decide +kernel
theorem dX10_look_57 : decode cX10_look 57 = .ok (.iload_n 1, 1) := by decide +kernel
theorem dX10_look_58 : decode cX10_look 58 = .ok (.iaload, 1) := by decide +kernel
theorem dX10_look_59 : decode cX10_look 59 = .ok (.goto 9, 3) := by decide +kernel
theorem dX10_look_62 : decode cX10_look 62 = .ok (.aload_n 0, 1) := by decide +kernel
theorem dX10_look_63 : decode cX10_look 63 = .ok (.getfield 87, 3) := by decide +kernel
theorem dX10_look_66 : decode cX10_look 66 = .ok (.iload_n 1, 1) := by decide +kernel
theorem dX10_look_67 : decode cX10_look 67 = .ok (.iaload, 1) := by decide +kernel
theorem dX10_look_68 : decode cX10_look 68 = .ok (.ireturn, 1) := by decide +kernel
theorem dX10_traced_0 : decode cX10_traced 0 = .ok (.aload_n 0, 1) := by decide +kernel
theorem dX10_traced_1 : decode cX10_traced 1 = .ok (.iconst 0, 1) := by decide +kernel
theorem dX10_traced_2 : decode cX10_traced 2 = .ok (.putfield 136, 3) := by decide +kernel
theorem dX10_traced_5 : decode cX10_traced 5 = .ok (.aload_n 0, 1) := by decide +kernel
theorem dX10_traced_6 : decode cX10_traced 6 = .ok (.getfield 152, 3) := by decide +kernel
theorem dX10_traced_9 : decode cX10_traced 9 = .ok (.ireturn, 1) := by decide +kernel
theorem dX10_trace_0 : decode cX10_trace 0 = .ok (.iload_n 2, 1) := by decide +kernel
theorem dX10_trace_1 : decode cX10_trace 1 = .ok (.i2l, 1) := by decide +kernel
theorem dX10_trace_2 : decode cX10_trace 2 = .ok (.lconst 0, 1) := by decide +kernel
theorem dX10_trace_3 : decode cX10_trace 3 = .ok (.ldc2_w 277, 3) := by decide +kernel
theorem dX10_trace_6 : decode cX10_trace 6 = .ok (.invokestatic 142, 3) := by decide +kernel
theorem dX10_trace_9 : decode cX10_trace 9 = .ok (.ifCond .ne 7, 3) := by decide +kernel
theorem dX10_trace_12 : decode cX10_trace 12 = .ok (.iconst 1, 1) := by decide +kernel
theorem dX10_trace_13 : decode cX10_trace 13 = .ok (.goto 4, 3) := by decide +kernel
theorem dX10_trace_16 : decode cX10_trace 16 = .ok (.iconst 0, 1) := by decide +kernel
theorem dX10_trace_17 : decode cX10_trace 17 = .ok (.istore_n 3, 1) := by decide +kernel
theorem dX10_trace_18 : decode cX10_trace 18 = .ok (.aload_n 0, 1) := by decide +kernel
theorem dX10_trace_19 : decode cX10_trace 19 = .ok (.iload_n 3, 1) := by decide +kernel
theorem dX10_trace_20 : decode cX10_trace 20 = .ok (.iload_n 3, 1) := by decide +kernel
theorem dX10_trace_21 : decode cX10_trace 21 = .ok (.ifCond .ne 35, 3) := by decide +kernel
theorem dX10_trace_24 : decode cX10_trace 24 = .ok (.iload_n 1, 1) := by decide +kernel
theorem dX10_trace_25 : decode cX10_trace 25 = .ok (.i2l, 1) := by decide +kernel
theorem dX10_trace_26 : decode cX10_trace 26 = .ok (.lconst 0, 1) := by decide +kernel
theorem dX10_trace_27 : decode cX10_trace 27 = .ok (.aload_n 0, 1) := by decide +kernel
theorem dX10_trace_28 : decode cX10_trace 28 = .ok (.getfield 152, 3) := by decide +kernel
theorem dX10_trace_31 : decode cX10_trace 31 = .ok (.iconst 1, 1) := by decide +kernel
theorem dX10_trace_32 : decode cX10_trace 32 = .ok (.isub, 1) := by decide +kernel
theorem dX10_trace_33 : decode cX10_trace 33 = .ok (.i2l, 1) := by decide +kernel
theorem dX10_trace_34 : decode cX10_trace 34 = .ok (.invokestatic 142, 3) := by decide +kernel
theorem dX10_trace_37 : decode cX10_trace 37 = .ok (.ifCond .eq 15, 3) := by decide +kernel
theorem dX10_trace_40 : decode cX10_trace 40 = .ok (.iload_n 1, 1) := by decide +kernel
theorem dX10_trace_41 : decode cX10_trace 41 = .ok (.sipush 300, 3) := by decide +kernel
theorem dX10_trace_44 : decode cX10_trace 44 = .ok (.iadd, 1) := by decide +kernel
theorem dX10_trace_45 : decode cX10_trace 45 = .ok (.aload_n 0, 1) := by decide +kernel
theorem dX10_trace_46 : decode cX10_trace 46 = .ok (.getfield 152, 3) := by decide +kernel
theorem dX10_trace_49 : decode cX10_trace 49 = .ok (.if_icmp .ge 7, 3) := by decide +kernel
theorem dX10_trace_52 : decode cX10_trace 52 = .ok (.iconst 1, 1) := by decide +kernel
theorem dX10_trace_53 : decode cX10_trace 53 = .ok (.goto 4, 3) := by decide +kernel
theorem dX10_trace_56 : decode cX10_trace 56 = .ok (.iconst 0, 1) := by decide +kernel
theorem dX10_trace_57 : decode cX10_trace 57 = .ok (.invokevirtual 159, 3) := by decide +kernel
theorem dX10_trace_60 : decode cX10_trace 60 = .ok (.ifCond .eq 5, 3) := by decide +kernel
theorem dX10_trace_63 : decode cX10_trace 63 = .ok (.iconst 0, 1) := by decide +kernel
theorem dX10_trace_64 : decode cX10_trace 64 = .ok (.ireturn, 1) := by decide +kernel
theorem dX10_trace_65 : decode cX10_trace 65 = .ok (.iload_n 2, 1) := by decide +kernel
theorem dX10_trace_66 : decode cX10_trace 66 = .ok (.ifCond .ne 16, 3) := by decide +kernel
theorem dX10_trace_69 : decode cX10_trace 69 = .ok (.aload_n 0, 1) := by decide +kernel
theorem dX10_trace_70 : decode cX10_trace 70 = .ok (.getfield 108, 3) := by decide +kernel
theorem dX10_trace_73 : decode cX10_trace 73 = .ok (.iload_n 1, 1) := by decide +kernel
theorem dX10_trace_74 : decode cX10_trace 74 = .ok (.sipush 300, 3) := by decide +kernel
theorem dX10_trace_77 : decode cX10_trace 77 = .ok (.irem, 1) := by decide +kernel
theorem dX10_trace_78 : decode cX10_trace 78 = .ok (.iaload, 1) := by decide +kernel
theorem dX10_trace_79 : decode cX10_trace 79 = .ok (.goto 31, 3) := by decide +kernel
theorem dX10_trace_82 : decode cX10_trace 82 = .ok (.iload_n 2, 1) := by decide +kernel
theorem dX10_trace_83 : decode cX10_trace 83 = .ok (.iconst 1, 1) := by decide +kernel
theorem dX10_trace_84 : decode cX10_trace 84 = .ok (.if_icmp .ne 16, 3) := by decide +kernel
theorem dX10_trace_87 : decode cX10_trace 87 = .ok (.aload_n 0, 1) := by decide +kernel
theorem dX10_trace_88 : decode cX10_trace 88 = .ok (.getfield 111, 3) := by decide +kernel
theorem dX10_trace_91 : decode cX10_trace 91 = .ok (.iload_n 1, 1) := by decide +kernel
theorem dX10_trace_92 : decode cX10_trace 92 = .ok (.sipush 300, 3) := by decide +kernel
theorem dX10_trace_95 : decode cX10_trace 95 = .ok (.irem, 1) := by decide +kernel
theorem dX10_trace_96 : decode cX10_trace 96 = .ok (.iaload, 1) := by decide +kernel
theorem dX10_trace_97 : decode cX10_trace 97 = .ok (.goto 13, 3) := by decide +kernel
theorem dX10_trace_100 : decode cX10_trace 100 = .ok (.aload_n 0, 1) := by decide +kernel
theorem dX10_trace_101 : decode cX10_trace 101 = .ok (.getfield 114, 3) := by decide +kernel
theorem dX10_trace_104 : decode cX10_trace 104 = .ok (.iload_n 1, 1) := by decide +kernel
theorem dX10_trace_105 : decode cX10_trace 105 = .ok (.sipush 300, 3) := by decide +kernel
theorem dX10_trace_108 : decode cX10_trace 108 = .ok (.irem, 1) := by decide +kernel
theorem dX10_trace_109 : decode cX10_trace 109 = .ok (.iaload, 1) := by decide +kernel
theorem dX10_trace_110 : decode cX10_trace 110 = .ok (.ireturn, 1) := by decide +kernel
