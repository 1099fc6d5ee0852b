theorem dX7_init_0 : decode cX7_init 0 = .ok (.aload_n 0, 1) := by decide +kernel
theorem dX7_init_1 : decode cX7_init 1 = .ok (.invokespecial 1, 3) := by decide +kernel
theorem dX7_init_4 : decode cX7_init 4 = .ok (.aload_n 0, 1) := by decide +kernel
theorem dX7_init_5 : decode cX7_init 5 = .ok (.iconst 2, 1) := by decide +kernel
theorem dX7_init_6 : decode cX7_init 6 = .ok (.putfield 7, 3) := by decide +kernel
theorem dX7_init_9 : decode cX7_init 9 = .ok (.aload_n 0, 1) := by decide +kernel
theorem dX7_init_10 : decode cX7_init 10 = .ok (.bipush 6, 2) := by decide +kernel
theorem dX7_init_12 : decode cX7_init 12 = .ok (.newarray .int, 2) := by decide +kernel
theorem dX7_init_14 : decode cX7_init 14 = .ok (.putfield 13, 3) := by decide +kernel
theorem dX7_init_17 : decode cX7_init 17 = .ok (.aload_n 0, 1) := by decide +kernel
theorem dX7_init_18 : decode cX7_init 18 = .ok (.bipush 6, 2) := by decide +kernel
theorem dX7_init_20 : decode cX7_init 20 = .ok (.newarray .int, 2) := by decide +kernel
theorem dX7_init_22 : decode cX7_init 22 = .ok (.putfield 17, 3) := by decide +kernel
theorem dX7_init_25 : decode cX7_init 25 = .ok (.aload_n 0, 1) := by decide +kernel
theorem dX7_init_26 : decode cX7_init 26 = .ok (.bipush 6, 2) := by decide +kernel
theorem dX7_init_28 : decode cX7_init 28 = .ok (.newarray .int, 2) := by decide +kernel
theorem dX7_init_30 : decode cX7_init 30 = .ok (.putfield 20, 3) := by decide +kernel
theorem dX7_init_33 : decode cX7_init 33 = .ok (.aload_n 0, 1) := by decide +kernel
theorem dX7_init_34 : decode cX7_init 34 = .ok (.bipush 6, 2) := by decide +kernel
theorem dX7_init_36 : decode cX7_init 36 = .ok (.newarray .int, 2) := by decide +kernel
theorem dX7_init_38 : decode cX7_init 38 = .ok (.putfield 23, 3) := by decide +kernel
theorem dX7_init_41 : decode cX7_init 41 = .ok (.aload_n 0, 1) := by decide +kernel
theorem dX7_init_42 : decode cX7_init 42 = .ok (.bipush 6, 2) := by decide +kernel
theorem dX7_init_44 : decode cX7_init 44 = .ok (.newarray .int, 2) := by decide +kernel
theorem dX7_init_46 : decode cX7_init 46 = .ok (.putfield 26, 3) := by decide +kernel
theorem dX7_init_49 : decode cX7_init 49 = .ok (.aload_n 0, 1) := by decide +kernel
theorem dX7_init_50 : decode cX7_init 50 = .ok (.bipush 6, 2) := by decide +kernel
theorem dX7_init_52 : decode cX7_init 52 = .ok (.newarray .int, 2) := by decide +kernel
theorem dX7_init_54 : decode cX7_init 54 = .ok (.putfield 29, 3) := by decide +kernel
theorem dX7_init_57 : decode cX7_init 57 = .ok (.aload_n 0, 1) := by decide +kernel
theorem dX7_init_58 : decode cX7_init 58 = .ok (.bipush 6, 2) := by decide +kernel
theorem dX7_init_60 : decode cX7_init 60 = .ok (.newarray .int, 2) := by decide +kernel
theorem dX7_init_62 : decode cX7_init 62 = .ok (.putfield 32, 3) := by decide +kernel
theorem dX7_init_65 : decode cX7_init 65 = .ok (.aload_n 0, 1) := by decide +kernel
theorem dX7_init_66 : decode cX7_init 66 = .ok (.bipush 6, 2) := by decide +kernel
theorem dX7_init_68 : decode cX7_init 68 = .ok (.newarray .int, 2) := by decide +kernel
theorem dX7_init_70 : decode cX7_init 70 = .ok (.putfield 35, 3) := by decide +kernel
theorem dX7_init_73 : decode cX7_init 73 = .ok (.aload_n 0, 1) := by decide +kernel
theorem dX7_init_74 : decode cX7_init 74 = .ok (.bipush 6, 2) := by decide +kernel
theorem dX7_init_76 : decode cX7_init 76 = .ok (.newarray .int, 2) := by decide +kernel
theorem dX7_init_78 : decode cX7_init 78 = .ok (.putfield 38, 3) := by decide +kernel
theorem dX7_init_81 : decode cX7_init 81 = .ok (.aload_n 0, 1) := by decide +kernel
theorem dX7_init_82 : decode cX7_init 82 = .ok (.bipush 6, 2) := by decide +kernel
theorem dX7_init_84 : decode cX7_init 84 = .ok (.newarray .int, 2) := by decide +kernel
theorem dX7_init_86 : decode cX7_init 86 = .ok (.putfield 41, 3) := by decide +kernel
theorem dX7_init_89 : decode cX7_init 89 = .ok (.aload_n 0, 1) := by decide +kernel
theorem dX7_init_90 : decode cX7_init 90 = .ok (.bipush 6, 2) := by decide +kernel
theorem dX7_init_92 : decode cX7_init 92 = .ok (.newarray .int, 2) := by decide +kernel
theorem dX7_init_94 : decode cX7_init 94 = .ok (.putfield 44, 3) := by decide +kernel
theorem dX7_init_97 : decode cX7_init 97 = .ok (.aload_n 0, 1) := by decide +kernel
theorem dX7_init_98 : decode cX7_init 98 = .ok (.bipush 6, 2) := by decide +kernel
theorem dX7_init_100 : decode cX7_init 100 = .ok (.newarray .int, 2) := by decide +kernel
theorem dX7_init_102 : decode cX7_init 102 = .ok (.putfield 47, 3) := by decide +kernel
theorem dX7_init_105 : decode cX7_init 105 = .ok (.aload_n 0, 1) := by decide +kernel
theorem dX7_init_106 : decode cX7_init 106 = .ok (.bipush 6, 2) := by decide +kernel
theorem dX7_init_108 : decode cX7_init 108 = .ok (.newarray .int, 2) := by decide +kernel
theorem dX7_init_110 : decode cX7_init 110 = .ok (.putfield 50, 3) := by decide +kernel
theorem dX7_init_113 : decode cX7_init 113 = .ok (.aload_n 0, 1) := by decide +kernel
theorem dX7_init_114 : decode cX7_init 114 = .ok (.bipush 8, 2) := by decide +kernel
theorem dX7_init_116 : decode cX7_init 116 = .ok (.newarray .int, 2) := by decide +kernel
theorem dX7_init_118 : decode cX7_init 118 = .ok (.putfield 53, 3) := by decide +kernel
theorem dX7_init_121 : decode cX7_init 121 = .ok (.aload_n 0, 1) := by decide +kernel
theorem dX7_init_122 : decode cX7_init 122 = .ok (.bipush 8, 2) := by decide +kernel
theorem dX7_init_124 : decode cX7_init 124 = .ok (.newarray .int, 2) := by decide +kernel
theorem dX7_init_126 : decode cX7_init 126 = .ok (.putfield 56, 3) := by decide +kernel
theorem dX7_init_129 : decode cX7_init 129 = .ok (.aload_n 0, 1) := by decide +kernel
theorem dX7_init_130 : decode cX7_init 130 = .ok (.bipush 8, 2) := by decide +kernel
theorem dX7_init_132 : decode cX7_init 132 = .ok (.newarray .int, 2) := by decide +kernel
theorem dX7_init_134 : decode cX7_init 134 = .ok (.putfield 59, 3) := by decide +kernel
theorem dX7_init_137 : decode cX7_init 137 = .ok (.aload_n 0, 1) := by decide +kernel
theorem dX7_init_138 : decode cX7_init 138 = .ok (.bipush 8, 2) := by decide +kernel
theorem dX7_init_140 : decode cX7_init 140 = .ok (.newarray .int, 2) := by decide +kernel
theorem dX7_init_142 : decode cX7_init 142 = .ok (.putfield 62, 3) := by decide +kernel
theorem dX7_init_145 : decode cX7_init 145 = .ok (.aload_n 0, 1) := by decide +kernel
theorem dX7_init_146 : decode cX7_init 146 = .ok (.sipush 200, 3) := by decide +kernel
theorem dX7_init_149 : decode cX7_init 149 = .ok (.newarray .int, 2) := by decide +kernel
theorem dX7_init_151 : decode cX7_init 151 = .ok (.putfield 65, 3) := by decide +kernel
theorem dX7_init_154 : decode cX7_init 154 = .ok (.aload_n 0, 1) := by decide +kernel
theorem dX7_init_155 : decode cX7_init 155 = .ok (.sipush 200, 3) := by decide +kernel
theorem dX7_init_158 : decode cX7_init 158 = .ok (.newarray .int, 2) := by decide +kernel
theorem dX7_init_160 : decode cX7_init 160 = .ok (.putfield 68, 3) := by decide +kernel
theorem dX7_init_163 : decode cX7_init 163 = .ok (.aload_n 0, 1) := by decide +kernel
theorem dX7_init_164 : decode cX7_init 164 = .ok (.sipush 200, 3) := by decide +kernel
theorem dX7_init_167 : decode cX7_init 167 = .ok (.newarray .int, 2) := by decide +kernel
theorem dX7_init_169 : decode cX7_init 169 = .ok (.putfield 71, 3) := by decide +kernel
theorem dX7_init_172 : decode cX7_init 172 = .ok (.aload_n 0, 1) := by decide +kernel
theorem dX7_init_173 : decode cX7_init 173 = .ok (.bipush 30, 2) := by decide +kernel
theorem dX7_init_175 : decode cX7_init 175 = .ok (.newarray .boolean, 2) := by decide +kernel
theorem dX7_init_177 : decode cX7_init 177 = .ok (.putfield 74, 3) := by decide +kernel
theorem dX7_init_180 : decode cX7_init 180 = .ok (.aload_n 0, 1) := by decide +kernel
theorem dX7_init_181 : decode cX7_init 181 = .ok (.bipush 30, 2) := by decide +kernel
theorem dX7_init_183 : decode cX7_init 183 = .ok (.newarray .int, 2) := by decide +kernel
theorem dX7_init_185 : decode cX7_init 185 = .ok (.putfield 78, 3) := by decide +kernel
theorem dX7_init_188 : decode cX7_init 188 = .ok (.aload_n 0, 1) := by decide +kernel
theorem dX7_init_189 : decode cX7_init 189 = .ok (.bipush 6, 2) := by decide +kernel
theorem dX7_init_191 : decode cX7_init 191 = .ok (.newarray .boolean, 2) := by decide +kernel
theorem dX7_init_193 : decode cX7_init 193 = .ok (.putfield 81, 3) := by decide +kernel
theorem dX7_init_196 : decode cX7_init 196 = .ok (.aload_n 0, 1) := by decide +kernel
theorem dX7_init_197 : decode cX7_init 197 = .ok (.bipush 6, 2) := by decide +kernel
theorem dX7_init_199 : decode cX7_init 199 = .ok (.newarray .int, 2) := by decide +kernel
theorem dX7_init_201 : decode cX7_init 201 = .ok (.putfield 84, 3) := by decide +kernel
theorem dX7_init_204 : decode cX7_init 204 = .ok (.aload_n 0, 1) := by decide +kernel
theorem dX7_init_205 : decode cX7_init 205 = .ok (.bipush 36, 2) := by decide +kernel
theorem dX7_init_207 : decode cX7_init 207 = .ok (.newarray .int, 2) := by decide +kernel
theorem dX7_init_209 : decode cX7_init 209 = .ok (.putfield 87, 3) := by decide +kernel
theorem dX7_init_212 : decode cX7_init 212 = .ok (.aload_n 0, 1) := by decide +kernel
theorem dX7_init_213 : decode cX7_init 213 = .ok (.bipush 6, 2) := by decide +kernel
theorem dX7_init_215 : decode cX7_init 215 = .ok (.newarray .int, 2) := by decide +kernel
theorem dX7_init_217 : decode cX7_init 217 = .ok (.putfield 90, 3) := by decide +kernel
theorem dX7_init_220 : decode cX7_init 220 = .ok (.aload_n 0, 1) := by decide +kernel
theorem dX7_init_221 : decode cX7_init 221 = .ok (.sipush 169, 3) := by decide +kernel
theorem dX7_init_224 : decode cX7_init 224 = .ok (.newarray .int, 2) := by decide +kernel
theorem dX7_init_226 : decode cX7_init 226 = .ok (.putfield 93, 3) := by decide +kernel
theorem dX7_init_229 : decode cX7_init 229 = .ok (.aload_n 0, 1) := by decide +kernel
theorem dX7_init_230 : decode cX7_init 230 = .ok (.sipush 576, 3) := by decide +kernel
theorem dX7_init_233 : decode cX7_init 233 = .ok (.newarray .int, 2) := by decide +kernel
theorem dX7_init_235 : decode cX7_init 235 = .ok (.putfield 96, 3) := by decide +kernel
theorem dX7_init_238 : decode cX7_init 238 = .ok (.aload_n 0, 1) := by decide +kernel
theorem dX7_init_239 : decode cX7_init 239 = .ok (.sipush 1200, 3) := by decide +kernel
theorem dX7_init_242 : decode cX7_init 242 = .ok (.newarray .int, 2) := by decide +kernel
theorem dX7_init_244 : decode cX7_init 244 = .ok (.putfield 99, 3) := by decide +kernel
theorem dX7_init_247 : decode cX7_init 247 = .ok (.aload_n 0, 1) := by decide +kernel
theorem dX7_init_248 : decode cX7_init 248 = .ok (.sipush 384, 3) := by decide +kernel
theorem dX7_init_251 : decode cX7_init 251 = .ok (.newarray .int, 2) := by decide +kernel
theorem dX7_init_253 : decode cX7_init 253 = .ok (.putfield 102, 3) := by decide +kernel
theorem dX7_init_256 : decode cX7_init 256 = .ok (.aload_n 0, 1) := by decide +kernel
theorem dX7_init_257 : decode cX7_init 257 = .ok (.getfield 84, 3) := by decide +kernel
theorem dX7_init_260 : decode cX7_init 260 = .ok (.iconst 0, 1) := by decide +kernel
theorem dX7_init_261 : decode cX7_init 261 = .ok (.iconst 4, 1) := by decide +kernel
theorem dX7_init_262 : decode cX7_init 262 = .ok (.iastore, 1) := by decide +kernel
theorem dX7_init_263 : decode cX7_init 263 = .ok (.aload_n 0, 1) := by decide +kernel
theorem dX7_init_264 : decode cX7_init 264 = .ok (.getfield 84, 3) := by decide +kernel
theorem dX7_init_267 : decode cX7_init 267 = .ok (.iconst 1, 1) := by decide +kernel
theorem dX7_init_268 : decode cX7_init 268 = .ok (.bipush 6, 2) := by decide +kernel
theorem dX7_init_270 : decode cX7_init 270 = .ok (.iastore, 1) := by decide +kernel
theorem dX7_init_271 : decode cX7_init 271 = .ok (.aload_n 0, 1) := by decide +kernel
theorem dX7_init_272 : decode cX7_init 272 = .ok (.getfield 84, 3) := by decide +kernel
theorem dX7_init_275 : decode cX7_init 275 = .ok (.iconst 2, 1) := by decide +kernel
theorem dX7_init_276 : decode cX7_init 276 = .ok (.bipush 100, 2) := by decide +kernel
theorem dX7_init_278 : decode cX7_init 278 = .ok (.iastore, 1) := by decide +kernel
theorem dX7_init_279 : decode cX7_init 279 = .ok (.aload_n 0, 1) := by decide +kernel
theorem dX7_init_280 : decode cX7_init 280 = .ok (.getfield 84, 3) := by decide +kernel
theorem dX7_init_283 : decode cX7_init 283 = .ok (.iconst 3, 1) := by decide +kernel
theorem dX7_init_284 : decode cX7_init 284 = .ok (.bipush 50, 2) := by decide +kernel
theorem dX7_init_286 : decode cX7_init 286 = .ok (.iastore, 1) := by decide +kernel
theorem dX7_init_287 : decode cX7_init 287 = .ok (.aload_n 0, 1) := by decide +kernel
theorem dX7_init_288 : decode cX7_init 288 = .ok (.getfield 84, 3) := by decide +kernel
theorem dX7_init_291 : decode cX7_init 291 = .ok (.iconst 4, 1) := by decide +kernel
theorem dX7_init_292 : decode cX7_init 292 = .ok (.iconst 5, 1) := by decide +kernel
theorem dX7_init_293 : decode cX7_init 293 = .ok (.iastore, 1) := by decide +kernel
theorem dX7_init_294 : decode cX7_init 294 = .ok (.aload_n 0, 1) := by decide +kernel
theorem dX7_init_295 : decode cX7_init 295 = .ok (.getfield 84, 3) := by decide +kernel
theorem dX7_init_298 : decode cX7_init 298 = .ok (.iconst 5, 1) := by decide +kernel
theorem dX7_init_299 : decode cX7_init 299 = .ok (.bipush 60, 2) := by decide +kernel
theorem dX7_init_301 : decode cX7_init 301 = .ok (.iastore, 1) := by decide +kernel
theorem dX7_init_302 : decode cX7_init 302 = .ok (.iconst 0, 1) := by decide +kernel
theorem dX7_init_303 : decode cX7_init 303 = .ok (.istore_n 1, 1) := by decide +kernel
theorem dX7_init_304 : decode cX7_init 304 = .ok (.iload_n 1, 1) := by decide +kernel
theorem dX7_init_305 : decode cX7_init 305 = .ok (.bipush 30, 2) := by decide +kernel
theorem dX7_init_307 : decode cX7_init 307 = .ok (.if_icmp .ge 17, 3) := by decide +kernel
theorem dX7_init_310 : decode cX7_init 310 = .ok (.aload_n 0, 1) := by decide +kernel
theorem dX7_init_311 : decode cX7_init 311 = .ok (.getfield 78, 3) := by decide +kernel
theorem dX7_init_314 : decode cX7_init 314 = .ok (.iload_n 1, 1) := by decide +kernel
theorem dX7_init_315 : decode cX7_init 315 = .ok (.bipush (-4), 2) := by decide +kernel
theorem dX7_init_317 : decode cX7_init 317 = .ok (.iastore, 1) := by decide +kernel
theorem dX7_init_318 : decode cX7_init 318 = .ok (.iinc 1 1, 3) := by decide +kernel
theorem dX7_init_321 : decode cX7_init 321 = .ok (.goto (-17), 3) := by decide +kernel
theorem dX7_init_324 : decode cX7_init 324 = .ok (.iconst 0, 1) := by decide +kernel
theorem dX7_init_325 : decode cX7_init 325 = .ok (.istore_n 1, 1) := by decide +kernel
theorem dX7_init_326 : decode cX7_init 326 = .ok (.iload_n 1, 1) := by decide +kernel
theorem dX7_init_327 : decode cX7_init 327 = .ok (.bipush 36, 2) := by decide +kernel
theorem dX7_init_329 : decode cX7_init 329 = .ok (.if_icmp .ge 32, 3) := by decide +kernel
theorem dX7_init_332 : decode cX7_init 332 = .ok (.aload_n 0, 1) := by decide +kernel
theorem dX7_init_333 : decode cX7_init 333 = .ok (.getfield 87, 3) := by decide +kernel
theorem dX7_init_336 : decode cX7_init 336 = .ok (.iload_n 1, 1) := by decide +kernel
theorem dX7_init_337 : decode cX7_init 337 = .ok (.iload_n 1, 1) := by decide +kernel
theorem dX7_init_338 : decode cX7_init 338 = .ok (.bipush 6, 2) := by decide +kernel
theorem dX7_init_340 : decode cX7_init 340 = .ok (.idiv, 1) := by decide +kernel
theorem dX7_init_341 : decode cX7_init 341 = .ok (.iload_n 1, 1) := by decide +kernel
theorem dX7_init_342 : decode cX7_init 342 = .ok (.bipush 6, 2) := by decide +kernel
theorem dX7_init_344 : decode cX7_init 344 = .ok (.irem, 1) := by decide +kernel
theorem dX7_init_345 : decode cX7_init 345 = .ok (.if_icmp .ne 7, 3) := by decide +kernel
theorem dX7_init_348 : decode cX7_init 348 = .ok (.iconst 0, 1) := by decide +kernel
theorem dX7_init_349 : decode cX7_init 349 = .ok (.goto 5, 3) := by decide +kernel
theorem dX7_init_352 : decode cX7_init 352 = .ok (.bipush 30, 2) := by decide +kernel
theorem dX7_init_354 : decode cX7_init 354 = .ok (.iastore, 1) := by decide +kernel
theorem dX7_init_355 : decode cX7_init 355 = .ok (.iinc 1 1, 3) := by decide +kernel
theorem dX7_init_358 : decode cX7_init 358 = .ok (.goto (-32), 3) := by decide +kernel
theorem dX7_init_361 : decode cX7_init 361 = .ok (.aload_n 0, 1) := by decide +kernel
theorem dX7_init_362 : decode cX7_init 362 = .ok (.iconst 2, 1) := by decide +kernel
theorem dX7_init_363 : decode cX7_init 363 = .ok (.invokevirtual 105, 3) := by decide +kernel
theorem dX7_init_366 : decode cX7_init 366 = .ok (.return_, 1) := by decide +kernel
theorem dX7_in_0 : decode cX7_in 0 = .ok (.iload_n 0, 1) := by decide +kernel
theorem dX7_in_1 : decode cX7_in 1 = .ok (.iload_n 1, 1) := by decide +kernel
theorem dX7_in_2 : decode cX7_in 2 = .ok (.if_icmp .lt 12, 3) := by decide +kernel
theorem dX7_in_5 : decode cX7_in 5 = .ok (.iload_n 0, 1) := by decide +kernel
theorem dX7_in_6 : decode cX7_in 6 = .ok (.iload_n 2, 1) := by decide +kernel
theorem dX7_in_7 : decode cX7_in 7 = .ok (.if_icmp .gt 7, 3) := by decide +kernel
theorem dX7_in_10 : decode cX7_in 10 = .ok (.iconst 1, 1) := by decide +kernel
theorem dX7_in_11 : decode cX7_in 11 = .ok (.goto 4, 3) := by decide +kernel
theorem dX7_in_14 : decode cX7_in 14 = .ok (.iconst 0, 1) := by decide +kernel
theorem dX7_in_15 : decode cX7_in 15 = .ok (.ireturn, 1) := by decide +kernel
theorem dX7_begins_0 : decode cX7_begins 0 = .ok (.aload_n 0, 1) := by decide +kernel
theorem dX7_begins_1 : decode cX7_begins 1 = .ok (.iload_n 1, 1) := by decide +kernel
theorem dX7_begins_2 : decode cX7_begins 2 = .ok (.putfield 7, 3) := by decide +kernel
theorem dX7_begins_5 : decode cX7_begins 5 = .ok (.iconst 0, 1) := by decide +kernel
theorem dX7_begins_6 : decode cX7_begins 6 = .ok (.istore_n 2, 1) := by decide +kernel
theorem dX7_begins_7 : decode cX7_begins 7 = .ok (.iload_n 2, 1) := by decide +kernel
theorem dX7_begins_8 : decode cX7_begins 8 = .ok (.bipush 6, 2) := by decide +kernel
theorem dX7_begins_10 : decode cX7_begins 10 = .ok (.if_icmp .ge 94, 3) := by decide +kernel
theorem dX7_begins_13 : decode cX7_begins 13 = .ok (.aload_n 0, 1) := by decide +kernel
theorem dX7_begins_14 : decode cX7_begins 14 = .ok (.getfield 13, 3) := by decide +kernel
theorem dX7_begins_17 : decode cX7_begins 17 = .ok (.iload_n 2, 1) := by decide +kernel
theorem dX7_begins_18 : decode cX7_begins 18 = .ok (.iconst 1, 1) := by decide +kernel
theorem dX7_begins_19 : decode cX7_begins 19 = .ok (.iastore, 1) := by decide +kernel
theorem dX7_begins_20 : decode cX7_begins 20 = .ok (.aload_n 0, 1) := by decide +kernel
theorem dX7_begins_21 : decode cX7_begins 21 = .ok (.getfield 17, 3) := by decide +kernel
theorem dX7_begins_24 : decode cX7_begins 24 = .ok (.iload_n 2, 1) := by decide +kernel
theorem dX7_begins_25 : decode cX7_begins 25 = .ok (.iconst 0, 1) := by decide +kernel
theorem dX7_begins_26 : decode cX7_begins 26 = .ok (.iastore, 1) := by decide +kernel
theorem dX7_begins_27 : decode cX7_begins 27 = .ok (.aload_n 0, 1) := by decide +kernel
theorem dX7_begins_28 : decode cX7_begins 28 = .ok (.getfield 20, 3) := by decide +kernel
theorem dX7_begins_31 : decode cX7_begins 31 = .ok (.iload_n 2, 1) := by decide +kernel
theorem dX7_begins_32 : decode cX7_begins 32 = .ok (.iconst 0, 1) := by decide +kernel
theorem dX7_begins_33 : decode cX7_begins 33 = .ok (.iastore, 1) := by decide +kernel
theorem dX7_begins_34 : decode cX7_begins 34 = .ok (.aload_n 0, 1) := by decide +kernel
theorem dX7_begins_35 : decode cX7_begins 35 = .ok (.getfield 23, 3) := by decide +kernel
theorem dX7_begins_38 : decode cX7_begins 38 = .ok (.iload_n 2, 1) := by decide +kernel
theorem dX7_begins_39 : decode cX7_begins 39 = .ok (.iconst 2, 1) := by decide +kernel
theorem dX7_begins_40 : decode cX7_begins 40 = .ok (.iastore, 1) := by decide +kernel
theorem dX7_begins_41 : decode cX7_begins 41 = .ok (.aload_n 0, 1) := by decide +kernel
theorem dX7_begins_42 : decode cX7_begins 42 = .ok (.getfield 26, 3) := by decide +kernel
theorem dX7_begins_45 : decode cX7_begins 45 = .ok (.iload_n 2, 1) := by decide +kernel
theorem dX7_begins_46 : decode cX7_begins 46 = .ok (.iconst 0, 1) := by decide +kernel
theorem dX7_begins_47 : decode cX7_begins 47 = .ok (.iastore, 1) := by decide +kernel
theorem dX7_begins_48 : decode cX7_begins 48 = .ok (.aload_n 0, 1) := by decide +kernel
theorem dX7_begins_49 : decode cX7_begins 49 = .ok (.getfield 29, 3) := by decide +kernel
theorem dX7_begins_52 : decode cX7_begins 52 = .ok (.iload_n 2, 1) := by decide +kernel
theorem dX7_begins_53 : decode cX7_begins 53 = .ok (.bipush (-4), 2) := by decide +kernel
theorem dX7_begins_55 : decode cX7_begins 55 = .ok (.iastore, 1) := by decide +kernel
theorem dX7_begins_56 : decode cX7_begins 56 = .ok (.aload_n 0, 1) := by decide +kernel
theorem dX7_begins_57 : decode cX7_begins 57 = .ok (.getfield 32, 3) := by decide +kernel
theorem dX7_begins_60 : decode cX7_begins 60 = .ok (.iload_n 2, 1) := by decide +kernel
theorem dX7_begins_61 : decode cX7_begins 61 = .ok (.iconst 0, 1) := by decide +kernel
theorem dX7_begins_62 : decode cX7_begins 62 = .ok (.iastore, 1) := by decide +kernel
theorem dX7_begins_63 : decode cX7_begins 63 = .ok (.aload_n 0, 1) := by decide +kernel
theorem dX7_begins_64 : decode cX7_begins 64 = .ok (.getfield 35, 3) := by decide +kernel
theorem dX7_begins_67 : decode cX7_begins 67 = .ok (.iload_n 2, 1) := by decide +kernel
theorem dX7_begins_68 : decode cX7_begins 68 = .ok (.iconst 0, 1) := by decide +kernel
theorem dX7_begins_69 : decode cX7_begins 69 = .ok (.iastore, 1) := by decide +kernel
theorem dX7_begins_70 : decode cX7_begins 70 = .ok (.aload_n 0, 1) := by decide +kernel
theorem dX7_begins_71 : decode cX7_begins 71 = .ok (.getfield 38, 3) := by decide +kernel
theorem dX7_begins_74 : decode cX7_begins 74 = .ok (.iload_n 2, 1) := by decide +kernel
theorem dX7_begins_75 : decode cX7_begins 75 = .ok (.iconst 0, 1) := by decide +kernel
theorem dX7_begins_76 : decode cX7_begins 76 = .ok (.iastore, 1) := by decide +kernel
theorem dX7_begins_77 : decode cX7_begins 77 = .ok (.aload_n 0, 1) := by decide +kernel
theorem dX7_begins_78 : decode cX7_begins 78 = .ok (.getfield 41, 3) := by decide +kernel
theorem dX7_begins_81 : decode cX7_begins 81 = .ok (.iload_n 2, 1) := by decide +kernel
theorem dX7_begins_82 : decode cX7_begins 82 = .ok (.iconst 0, 1) := by decide +kernel
theorem dX7_begins_83 : decode cX7_begins 83 = .ok (.iastore, 1) := by decide +kernel
theorem dX7_begins_84 : decode cX7_begins 84 = .ok (.aload_n 0, 1) := by decide +kernel
theorem dX7_begins_85 : decode cX7_begins 85 = .ok (.getfield 44, 3) := by decide +kernel
theorem dX7_begins_88 : decode cX7_begins 88 = .ok (.iload_n 2, 1) := by decide +kernel
theorem dX7_begins_89 : decode cX7_begins 89 = .ok (.iconst (-1), 1) := by decide +kernel
theorem dX7_begins_90 : decode cX7_begins 90 = .ok (.iastore, 1) := by decide +kernel
theorem dX7_begins_91 : decode cX7_begins 91 = .ok (.aload_n 0, 1) := by decide +kernel
theorem dX7_begins_92 : decode cX7_begins 92 = .ok (.getfield 47, 3) := by decide +kernel
theorem dX7_begins_95 : decode cX7_begins 95 = .ok (.iload_n 2, 1) := by decide +kernel
theorem dX7_begins_96 : decode cX7_begins 96 = .ok (.iconst 0, 1) := by decide +kernel
theorem dX7_begins_97 : decode cX7_begins 97 = .ok (.iastore, 1) := by decide +kernel
theorem dX7_begins_98 : decode cX7_begins 98 = .ok (.iinc 2 1, 3) := by decide +kernel
theorem dX7_begins_101 : decode cX7_begins 101 = .ok (.goto (-94), 3) := by decide +kernel
theorem dX7_begins_104 : decode cX7_begins 104 = .ok (.iconst 0, 1) := by decide +kernel
theorem dX7_begins_105 : decode cX7_begins 105 = .ok (.istore_n 2, 1) := by decide +kernel
theorem dX7_begins_106 : decode cX7_begins 106 = .ok (.iload_n 2, 1) := by decide +kernel
theorem dX7_begins_107 : decode cX7_begins 107 = .ok (.bipush 8, 2) := by decide +kernel
theorem dX7_begins_109 : decode cX7_begins 109 = .ok (.if_icmp .ge 16, 3) := by decide +kernel
theorem dX7_begins_112 : decode cX7_begins 112 = .ok (.aload_n 0, 1) := by decide +kernel
theorem dX7_begins_113 : decode cX7_begins 113 = .ok (.getfield 62, 3) := by decide +kernel
theorem dX7_begins_116 : decode cX7_begins 116 = .ok (.iload_n 2, 1) := by decide +kernel
theorem dX7_begins_117 : decode cX7_begins 117 = .ok (.iconst 0, 1) := by decide +kernel
theorem dX7_begins_118 : decode cX7_begins 118 = .ok (.iastore, 1) := by decide +kernel
theorem dX7_begins_119 : decode cX7_begins 119 = .ok (.iinc 2 1, 3) := by decide +kernel
theorem dX7_begins_122 : decode cX7_begins 122 = .ok (.goto (-16), 3) := by decide +kernel
theorem dX7_begins_125 : decode cX7_begins 125 = .ok (.aload_n 0, 1) := by decide +kernel
theorem dX7_begins_126 : decode cX7_begins 126 = .ok (.iconst 0, 1) := by decide +kernel
theorem dX7_begins_127 : decode cX7_begins 127 = .ok (.putfield 109, 3) := by decide +kernel
theorem dX7_begins_130 : decode cX7_begins 130 = .ok (.aload_n 0, 1) := by decide +kernel
theorem dX7_begins_131 : decode cX7_begins 131 = .ok (.iconst 0, 1) := by decide +kernel
theorem dX7_begins_132 : decode cX7_begins 132 = .ok (.putfield 112, 3) := by decide +kernel
theorem dX7_begins_135 : decode cX7_begins 135 = .ok (.aload_n 0, 1) := by decide +kernel
theorem dX7_begins_136 : decode cX7_begins 136 = .ok (.iconst 0, 1) := by decide +kernel
theorem dX7_begins_137 : decode cX7_begins 137 = .ok (.putfield 115, 3) := by decide +kernel
theorem dX7_begins_140 : decode cX7_begins 140 = .ok (.aload_n 0, 1) := by decide +kernel
theorem dX7_begins_141 : decode cX7_begins 141 = .ok (.iconst 0, 1) := by decide +kernel
theorem dX7_begins_142 : decode cX7_begins 142 = .ok (.putfield 118, 3) := by decide +kernel
theorem dX7_begins_145 : decode cX7_begins 145 = .ok (.aload_n 0, 1) := by decide +kernel
theorem dX7_begins_146 : decode cX7_begins 146 = .ok (.iconst 0, 1) := by decide +kernel
theorem dX7_begins_147 : decode cX7_begins 147 = .ok (.putfield 121, 3) := by decide +kernel
theorem dX7_begins_150 : decode cX7_begins 150 = .ok (.aload_n 0, 1) := by decide +kernel
theorem dX7_begins_151 : decode cX7_begins 151 = .ok (.iconst 0, 1) := by decide +kernel
theorem dX7_begins_152 : decode cX7_begins 152 = .ok (.putfield 124, 3) := by decide +kernel
theorem dX7_begins_155 : decode cX7_begins 155 = .ok (.return_, 1) := by decide +kernel
set_option maxRecDepth 20000 in
theorem ggX7_line_X7_in : GoodIn wsX7_line wsX7_in := goodIn_r _ [4] (by decide +kernel) (by decide +kernel)
set_option maxRecDepth 20000 in
theorem gX7_line_X7_in : GoodIn wsX7_line (va_wsS RX7 127 yX7_in wsX7_in) := goodIn_app (goodIn_of _ (by decide +kernel)) ggX7_line_X7_in
set_option maxRecDepth 20000 in
theorem ggX7_line_X7_begins : GoodIn wsX7_line wsX7_begins := goodIn_r _ [8, 9, 10, 11, 12, 13, 14, 15, 16, 17, 18, 19, 20, 21, 22, 23, 24, 25, 26, 27, 28, 29, 30, 31, 32, 33, 34, 35, 36, 37, 38, 39, 40, 41, 42, 43, 44, 45, 46, 47, 48, 49, 50, 51, 52, 53, 54, 55, 56, 57, 58, 59, 60, 61, 62, 63, 64, 65, 66, 67, 68, 69, 70, 71] (by decide +kernel) (by decide +kernel)
set_option maxRecDepth 20000 in
theorem gX7_line_X7_begins : GoodIn wsX7_line (wsV RX7 105 RX7 yX7_begins wsX7_begins) := goodIn_app (goodIn_of _ (by decide +kernel)) ggX7_line_X7_begins
theorem dX7_line_0 : decode cX7_line 0 = .ok (.iload_n 1, 1) := by decide +kernel
theorem dX7_line_1 : decode cX7_line 1 = .ok (.iconst 2, 1) := by decide +kernel
theorem dX7_line_2 : decode cX7_line 2 = .ok (.bipush 6, 2) := by decide +kernel
theorem dX7_line_4 : decode cX7_line 4 = .ok (.invokestatic 127, 3) := by decide +kernel
theorem dX7_line_7 : decode cX7_line 7 = .ok (.ifCond .ne 5, 3) := by decide +kernel
theorem dX7_line_10 : decode cX7_line 10 = .ok (.iconst (-1), 1) := by decide +kernel
theorem dX7_line_11 : decode cX7_line 11 = .ok (.ireturn, 1) := by decide +kernel
theorem dX7_line_12 : decode cX7_line 12 = .ok (.aload_n 0, 1) := by decide +kernel
theorem dX7_line_13 : decode cX7_line 13 = .ok (.iload_n 1, 1) := by decide +kernel
theorem dX7_line_14 : decode cX7_line 14 = .ok (.invokevirtual 105, 3) := by decide +kernel
theorem dX7_line_17 : decode cX7_line 17 = .ok (.iload_n 1, 1) := by decide +kernel
theorem dX7_line_18 : decode cX7_line 18 = .ok (.ireturn, 1) := by decide +kernel
set_option maxRecDepth 20000 in
theorem ggX7_isMachine_X7_in : GoodIn wsX7_isMachine wsX7_in := goodIn_r _ [5] (by decide +kernel) (by decide +kernel)
set_option maxRecDepth 20000 in
theorem gX7_isMachine_X7_in : GoodIn wsX7_isMachine (va_wsS RX7 127 yX7_in wsX7_in) := goodIn_app (goodIn_of _ (by decide +kernel)) ggX7_isMachine_X7_in
theorem dX7_isMachine_0 : decode cX7_isMachine 0 = .ok (.iload_n 1, 1) := by decide +kernel
theorem dX7_isMachine_1 : decode cX7_isMachine 1 = .ok (.iconst 0, 1) := by decide +kernel
theorem dX7_isMachine_2 : decode cX7_isMachine 2 = .ok (.aload_n 0, 1) := by decide +kernel
theorem dX7_isMachine_3 : decode cX7_isMachine 3 = .ok (.getfield 7, 3) := by decide +kernel
theorem dX7_isMachine_6 : decode cX7_isMachine 6 = .ok (.iconst 1, 1) := by decide +kernel
theorem dX7_isMachine_7 : decode cX7_isMachine 7 = .ok (.isub, 1) := by decide +kernel
theorem dX7_isMachine_8 : decode cX7_isMachine 8 = .ok (.invokestatic 127, 3) := by decide +kernel
theorem dX7_isMachine_11 : decode cX7_isMachine 11 = .ok (.ireturn, 1) := by decide +kernel
set_option maxRecDepth 20000 in
theorem ggX7_set_X7_isMachine : GoodIn wsX7_set wsX7_isMachine := goodIn_r _ [11, 1, 12, 13, 10, 14, 15, 16, 17, 18, 19, 20, 21, 22, 23, 24, 25, 26, 27, 28, 29, 30, 31, 32, 33, 34, 35, 36, 37, 38, 39, 40, 41, 42, 43, 44, 45, 46, 47, 48, 49, 50, 51, 52, 53, 54, 55, 56, 57] (by decide +kernel) (by decide +kernel)
set_option maxRecDepth 20000 in
theorem gX7_set_X7_isMachine : GoodIn wsX7_set (wsV RX7 131 RX7 yX7_isMachine wsX7_isMachine) := goodIn_app (goodIn_of _ (by decide +kernel)) ggX7_set_X7_isMachine
set_option maxRecDepth 20000 in
theorem ggX7_set_X7_in : GoodIn wsX7_set wsX7_in := goodIn_r _ [14] (by decide +kernel) (by decide +kernel)
set_option maxRecDepth 20000 in
theorem gX7_set_X7_in : GoodIn wsX7_set (va_wsS RX7 127 yX7_in wsX7_in) := goodIn_app (goodIn_of _ (by decide +kernel)) ggX7_set_X7_in
theorem dX7_set_0 : decode cX7_set 0 = .ok (.aload_n 0, 1) := by decide +kernel
theorem dX7_set_1 : decode cX7_set 1 = .ok (.iload_n 1, 1) := by decide +kernel
theorem dX7_set_2 : decode cX7_set 2 = .ok (.invokevirtual 131, 3) := by decide +kernel
theorem dX7_set_5 : decode cX7_set 5 = .ok (.ifCond .eq 68, 3) := by decide +kernel
theorem dX7_set_8 : decode cX7_set 8 = .ok (.iload_n 2, 1) := by decide +kernel
theorem dX7_set_9 : decode cX7_set 9 = .ok (.iconst 0, 1) := by decide +kernel
theorem dX7_set_10 : decode cX7_set 10 = .ok (.iconst 3, 1) := by decide +kernel
theorem dX7_set_11 : decode cX7_set 11 = .ok (.invokestatic 127, 3) := by decide +kernel
theorem dX7_set_14 : decode cX7_set 14 = .ok (.ifCond .eq 59, 3) := by decide +kernel
theorem dX7_set_17 : decode cX7_set 17 = .ok (.iload_n 2, 1) := by decide +kernel
theorem dX7_set_18 : decode cX7_set 18 = .ok (.iconst 3, 1) := by decide +kernel
theorem dX7_set_19 : decode cX7_set 19 = .ok (.if_icmp .ne 13, 3) := by decide +kernel
theorem dX7_set_22 : decode cX7_set 22 = .ok (.iload_n 1, 1) := by decide +kernel
theorem dX7_set_23 : decode cX7_set 23 = .ok (.aload_n 0, 1) := by decide +kernel
theorem dX7_set_24 : decode cX7_set 24 = .ok (.getfield 7, 3) := by decide +kernel
theorem dX7_set_27 : decode cX7_set 27 = .ok (.iconst 1, 1) := by decide +kernel
theorem dX7_set_28 : decode cX7_set 28 = .ok (.isub, 1) := by decide +kernel
theorem dX7_set_29 : decode cX7_set 29 = .ok (.if_icmp .eq 44, 3) := by decide +kernel
theorem dX7_set_32 : decode cX7_set 32 = .ok (.iload_n 3, 1) := by decide +kernel
theorem dX7_set_33 : decode cX7_set 33 = .ok (.iload_n 2, 1) := by decide +kernel
theorem dX7_set_34 : decode cX7_set 34 = .ok (.ifCond .eq 8, 3) := by decide +kernel
theorem dX7_set_37 : decode cX7_set 37 = .ok (.iload_n 2, 1) := by decide +kernel
theorem dX7_set_38 : decode cX7_set 38 = .ok (.iconst 3, 1) := by decide +kernel
theorem dX7_set_39 : decode cX7_set 39 = .ok (.if_icmp .ne 7, 3) := by decide +kernel
theorem dX7_set_42 : decode cX7_set 42 = .ok (.iconst 1, 1) := by decide +kernel
theorem dX7_set_43 : decode cX7_set 43 = .ok (.goto 4, 3) := by decide +kernel
theorem dX7_set_46 : decode cX7_set 46 = .ok (.iconst 0, 1) := by decide +kernel
theorem dX7_set_47 : decode cX7_set 47 = .ok (.iload_n 2, 1) := by decide +kernel
theorem dX7_set_48 : decode cX7_set 48 = .ok (.ifCond .ne 7, 3) := by decide +kernel
theorem dX7_set_51 : decode cX7_set 51 = .ok (.iconst 5, 1) := by decide +kernel
theorem dX7_set_52 : decode cX7_set 52 = .ok (.goto 15, 3) := by decide +kernel
theorem dX7_set_55 : decode cX7_set 55 = .ok (.iload_n 2, 1) := by decide +kernel
theorem dX7_set_56 : decode cX7_set 56 = .ok (.iconst 3, 1) := by decide +kernel
theorem dX7_set_57 : decode cX7_set 57 = .ok (.if_icmp .ne 8, 3) := by decide +kernel
theorem dX7_set_60 : decode cX7_set 60 = .ok (.bipush 20, 2) := by decide +kernel
theorem dX7_set_62 : decode cX7_set 62 = .ok (.goto 5, 3) := by decide +kernel
theorem dX7_set_65 : decode cX7_set 65 = .ok (.bipush 99, 2) := by decide +kernel
theorem dX7_set_67 : decode cX7_set 67 = .ok (.invokestatic 127, 3) := by decide +kernel
theorem dX7_set_70 : decode cX7_set 70 = .ok (.ifCond .ne 5, 3) := by decide +kernel
theorem dX7_set_73 : decode cX7_set 73 = .ok (.iconst (-1), 1) := by decide +kernel
theorem dX7_set_74 : decode cX7_set 74 = .ok (.ireturn, 1) := by decide +kernel
theorem dX7_set_75 : decode cX7_set 75 = .ok (.iload_n 2, 1) := by decide +kernel
theorem dX7_set_76 : decode cX7_set 76 = .ok (.iconst 3, 1) := by decide +kernel
theorem dX7_set_77 : decode cX7_set 77 = .ok (.if_icmp .ne 16, 3) := by decide +kernel
theorem dX7_set_80 : decode cX7_set 80 = .ok (.aload_n 0, 1) := by decide +kernel
theorem dX7_set_81 : decode cX7_set 81 = .ok (.getfield 26, 3) := by decide +kernel
theorem dX7_set_84 : decode cX7_set 84 = .ok (.iload_n 1, 1) := by decide +kernel
theorem dX7_set_85 : decode cX7_set 85 = .ok (.iaload, 1) := by decide +kernel
theorem dX7_set_86 : decode cX7_set 86 = .ok (.iload_n 3, 1) := by decide +kernel
theorem dX7_set_87 : decode cX7_set 87 = .ok (.if_icmp .le 6, 3) := by decide +kernel
theorem dX7_set_90 : decode cX7_set 90 = .ok (.bipush (-2), 2) := by decide +kernel
theorem dX7_set_92 : decode cX7_set 92 = .ok (.ireturn, 1) := by decide +kernel
theorem dX7_set_93 : decode cX7_set 93 = .ok (.iload_n 2, 1) := by decide +kernel
theorem dX7_set_94 : decode cX7_set 94 = .ok (.ifCond .ne 12, 3) := by decide +kernel
theorem dX7_set_97 : decode cX7_set 97 = .ok (.aload_n 0, 1) := by decide +kernel
theorem dX7_set_98 : decode cX7_set 98 = .ok (.getfield 13, 3) := by decide +kernel
theorem dX7_set_101 : decode cX7_set 101 = .ok (.iload_n 1, 1) := by decide +kernel
theorem dX7_set_102 : decode cX7_set 102 = .ok (.iaload, 1) := by decide +kernel
theorem dX7_set_103 : decode cX7_set 103 = .ok (.goto 37, 3) := by decide +kernel
theorem dX7_set_106 : decode cX7_set 106 = .ok (.iload_n 2, 1) := by decide +kernel
theorem dX7_set_107 : decode cX7_set 107 = .ok (.iconst 1, 1) := by decide +kernel
theorem dX7_set_108 : decode cX7_set 108 = .ok (.if_icmp .ne 12, 3) := by decide +kernel
theorem dX7_set_111 : decode cX7_set 111 = .ok (.aload_n 0, 1) := by decide +kernel
theorem dX7_set_112 : decode cX7_set 112 = .ok (.getfield 17, 3) := by decide +kernel
theorem dX7_set_115 : decode cX7_set 115 = .ok (.iload_n 1, 1) := by decide +kernel
theorem dX7_set_116 : decode cX7_set 116 = .ok (.iaload, 1) := by decide +kernel
theorem dX7_set_117 : decode cX7_set 117 = .ok (.goto 23, 3) := by decide +kernel
theorem dX7_set_120 : decode cX7_set 120 = .ok (.iload_n 2, 1) := by decide +kernel
theorem dX7_set_121 : decode cX7_set 121 = .ok (.iconst 2, 1) := by decide +kernel
theorem dX7_set_122 : decode cX7_set 122 = .ok (.if_icmp .ne 12, 3) := by decide +kernel
theorem dX7_set_125 : decode cX7_set 125 = .ok (.aload_n 0, 1) := by decide +kernel
theorem dX7_set_126 : decode cX7_set 126 = .ok (.getfield 20, 3) := by decide +kernel
theorem dX7_set_129 : decode cX7_set 129 = .ok (.iload_n 1, 1) := by decide +kernel
theorem dX7_set_130 : decode cX7_set 130 = .ok (.iaload, 1) := by decide +kernel
theorem dX7_set_131 : decode cX7_set 131 = .ok (.goto 9, 3) := by decide +kernel
theorem dX7_set_134 : decode cX7_set 134 = .ok (.aload_n 0, 1) := by decide +kernel
theorem dX7_set_135 : decode cX7_set 135 = .ok (.getfield 23, 3) := by decide +kernel
theorem dX7_set_138 : decode cX7_set 138 = .ok (.iload_n 1, 1) := by decide +kernel
theorem dX7_set_139 : decode cX7_set 139 = .ok (.iaload, 1) := by decide +kernel
theorem dX7_set_140 : decode cX7_set 140 = .ok (.istore 4, 2) := by decide +kernel
theorem dX7_set_142 : decode cX7_set 142 = .ok (.aload_n 0, 1) := by decide +kernel
theorem dX7_set_143 : decode cX7_set 143 = .ok (.getfield 13, 3) := by decide +kernel
theorem dX7_set_146 : decode cX7_set 146 = .ok (.iload_n 1, 1) := by decide +kernel
theorem dX7_set_147 : decode cX7_set 147 = .ok (.iload_n 2, 1) := by decide +kernel
theorem dX7_set_148 : decode cX7_set 148 = .ok (.ifCond .ne 7, 3) := by decide +kernel
theorem dX7_set_151 : decode cX7_set 151 = .ok (.iload_n 3, 1) := by decide +kernel
theorem dX7_set_152 : decode cX7_set 152 = .ok (.goto 9, 3) := by decide +kernel
theorem dX7_set_155 : decode cX7_set 155 = .ok (.aload_n 0, 1) := by decide +kernel
theorem dX7_set_156 : decode cX7_set 156 = .ok (.getfield 13, 3) := by decide +kernel
theorem dX7_set_159 : decode cX7_set 159 = .ok (.iload_n 1, 1) := by decide +kernel
theorem dX7_set_160 : decode cX7_set 160 = .ok (.iaload, 1) := by decide +kernel
theorem dX7_set_161 : decode cX7_set 161 = .ok (.iastore, 1) := by decide +kernel
theorem dX7_set_162 : decode cX7_set 162 = .ok (.aload_n 0, 1) := by decide +kernel
theorem dX7_set_163 : decode cX7_set 163 = .ok (.getfield 17, 3) := by decide +kernel
theorem dX7_set_166 : decode cX7_set 166 = .ok (.iload_n 1, 1) := by decide +kernel
theorem dX7_set_167 : decode cX7_set 167 = .ok (.iload_n 2, 1) := by decide +kernel
theorem dX7_set_168 : decode cX7_set 168 = .ok (.iconst 1, 1) := by decide +kernel
theorem dX7_set_169 : decode cX7_set 169 = .ok (.if_icmp .ne 7, 3) := by decide +kernel
theorem dX7_set_172 : decode cX7_set 172 = .ok (.iload_n 3, 1) := by decide +kernel
theorem dX7_set_173 : decode cX7_set 173 = .ok (.goto 9, 3) := by decide +kernel
theorem dX7_set_176 : decode cX7_set 176 = .ok (.aload_n 0, 1) := by decide +kernel
theorem dX7_set_177 : decode cX7_set 177 = .ok (.getfield 17, 3) := by decide +kernel
theorem dX7_set_180 : decode cX7_set 180 = .ok (.iload_n 1, 1) := by decide +kernel
theorem dX7_set_181 : decode cX7_set 181 = .ok (.iaload, 1) := by decide +kernel
theorem dX7_set_182 : decode cX7_set 182 = .ok (.iastore, 1) := by decide +kernel
theorem dX7_set_183 : decode cX7_set 183 = .ok (.aload_n 0, 1) := by decide +kernel
theorem dX7_set_184 : decode cX7_set 184 = .ok (.getfield 20, 3) := by decide +kernel
theorem dX7_set_187 : decode cX7_set 187 = .ok (.iload_n 1, 1) := by decide +kernel
theorem dX7_set_188 : decode cX7_set 188 = .ok (.iload_n 2, 1) := by decide +kernel
theorem dX7_set_189 : decode cX7_set 189 = .ok (.iconst 2, 1) := by decide +kernel
theorem dX7_set_190 : decode cX7_set 190 = .ok (.if_icmp .ne 7, 3) := by decide +kernel
theorem dX7_set_193 : decode cX7_set 193 = .ok (.iload_n 3, 1) := by decide +kernel
theorem dX7_set_194 : decode cX7_set 194 = .ok (.goto 9, 3) := by decide +kernel
theorem dX7_set_197 : decode cX7_set 197 = .ok (.aload_n 0, 1) := by decide +kernel
theorem dX7_set_198 : decode cX7_set 198 = .ok (.getfield 20, 3) := by decide +kernel
theorem dX7_set_201 : decode cX7_set 201 = .ok (.iload_n 1, 1) := by decide +kernel
theorem dX7_set_202 : decode cX7_set 202 = .ok (.iaload, 1) := by decide +kernel
theorem dX7_set_203 : decode cX7_set 203 = .ok (.iastore, 1) := by decide +kernel
theorem dX7_set_204 : decode cX7_set 204 = .ok (.aload_n 0, 1) := by decide +kernel
theorem dX7_set_205 : decode cX7_set 205 = .ok (.getfield 23, 3) := by decide +kernel
theorem dX7_set_208 : decode cX7_set 208 = .ok (.iload_n 1, 1) := by decide +kernel
theorem dX7_set_209 : decode cX7_set 209 = .ok (.iload_n 2, 1) := by decide +kernel
theorem dX7_set_210 : decode cX7_set 210 = .ok (.iconst 3, 1) := by decide +kernel
theorem dX7_set_211 : decode cX7_set 211 = .ok (.if_icmp .ne 7, 3) := by decide +kernel
theorem dX7_set_214 : decode cX7_set 214 = .ok (.iload_n 3, 1) := by decide +kernel
theorem dX7_set_215 : decode cX7_set 215 = .ok (.goto 9, 3) := by decide +kernel
theorem dX7_set_218 : decode cX7_set 218 = .ok (.aload_n 0, 1) := by decide +kernel
theorem dX7_set_219 : decode cX7_set 219 = .ok (.getfield 23, 3) := by decide +kernel
theorem dX7_set_222 : decode cX7_set 222 = .ok (.iload_n 1, 1) := by decide +kernel
theorem dX7_set_223 : decode cX7_set 223 = .ok (.iaload, 1) := by decide +kernel
theorem dX7_set_224 : decode cX7_set 224 = .ok (.iastore, 1) := by decide +kernel
theorem dX7_set_225 : decode cX7_set 225 = .ok (.iload 4, 2) := by decide +kernel
theorem dX7_set_227 : decode cX7_set 227 = .ok (.ireturn, 1) := by decide +kernel
set_option maxRecDepth 20000 in
theorem ggX7_fault_X7_isMachine : GoodIn wsX7_fault wsX7_isMachine := goodIn_r _ [10, 11, 12, 13, 9, 14, 15, 16, 17, 18, 19, 20, 21, 22, 23, 24, 25, 26, 27, 28, 29, 30, 31, 32, 33, 34, 35, 36, 37, 38, 39, 40, 41, 42, 43, 44, 45, 46, 47, 48, 49, 50, 51, 52, 53, 54, 55, 56, 57] (by decide +kernel) (by decide +kernel)
set_option maxRecDepth 20000 in
theorem gX7_fault_X7_isMachine : GoodIn wsX7_fault (wsV RX7 131 RX7 yX7_isMachine wsX7_isMachine) := goodIn_app (goodIn_of _ (by decide +kernel)) ggX7_fault_X7_isMachine
set_option maxRecDepth 20000 in
theorem ggX7_fault_X7_in : GoodIn wsX7_fault wsX7_in := goodIn_r _ [14] (by decide +kernel) (by decide +kernel)
set_option maxRecDepth 20000 in
theorem gX7_fault_X7_in : GoodIn wsX7_fault (va_wsS RX7 127 yX7_in wsX7_in) := goodIn_app (goodIn_of _ (by decide +kernel)) ggX7_fault_X7_in
theorem dX7_fault_0 : decode cX7_fault 0 = .ok (.aload_n 0, 1) := by decide +kernel
theorem dX7_fault_1 : decode cX7_fault 1 = .ok (.iload_n 1, 1) := by decide +kernel
theorem dX7_fault_2 : decode cX7_fault 2 = .ok (.invokevirtual 131, 3) := by decide +kernel
theorem dX7_fault_5 : decode cX7_fault 5 = .ok (.ifCond .eq 25, 3) := by decide +kernel
theorem dX7_fault_8 : decode cX7_fault 8 = .ok (.iload_n 2, 1) := by decide +kernel
theorem dX7_fault_9 : decode cX7_fault 9 = .ok (.iconst 0, 1) := by decide +kernel
theorem dX7_fault_10 : decode cX7_fault 10 = .ok (.sipush 9999, 3) := by decide +kernel
theorem dX7_fault_13 : decode cX7_fault 13 = .ok (.invokestatic 127, 3) := by decide +kernel
theorem dX7_fault_16 : decode cX7_fault 16 = .ok (.ifCond .eq 14, 3) := by decide +kernel
theorem dX7_fault_19 : decode cX7_fault 19 = .ok (.iload_n 3, 1) := by decide +kernel
theorem dX7_fault_20 : decode cX7_fault 20 = .ok (.iload_n 2, 1) := by decide +kernel
theorem dX7_fault_21 : decode cX7_fault 21 = .ok (.sipush 9999, 3) := by decide +kernel
theorem dX7_fault_24 : decode cX7_fault 24 = .ok (.invokestatic 127, 3) := by decide +kernel
theorem dX7_fault_27 : decode cX7_fault 27 = .ok (.ifCond .ne 5, 3) := by decide +kernel
theorem dX7_fault_30 : decode cX7_fault 30 = .ok (.iconst (-1), 1) := by decide +kernel
theorem dX7_fault_31 : decode cX7_fault 31 = .ok (.ireturn, 1) := by decide +kernel
theorem dX7_fault_32 : decode cX7_fault 32 = .ok (.iload_n 2, 1) := by decide +kernel
theorem dX7_fault_33 : decode cX7_fault 33 = .ok (.aload_n 0, 1) := by decide +kernel
theorem dX7_fault_34 : decode cX7_fault 34 = .ok (.getfield 112, 3) := by decide +kernel
theorem dX7_fault_37 : decode cX7_fault 37 = .ok (.if_icmp .ge 6, 3) := by decide +kernel
theorem dX7_fault_40 : decode cX7_fault 40 = .ok (.bipush (-2), 2) := by decide +kernel
theorem dX7_fault_42 : decode cX7_fault 42 = .ok (.ireturn, 1) := by decide +kernel
theorem dX7_fault_43 : decode cX7_fault 43 = .ok (.aload_n 0, 1) := by decide +kernel
theorem dX7_fault_44 : decode cX7_fault 44 = .ok (.getfield 109, 3) := by decide +kernel
theorem dX7_fault_47 : decode cX7_fault 47 = .ok (.bipush 8, 2) := by decide +kernel
theorem dX7_fault_49 : decode cX7_fault 49 = .ok (.if_icmp .ne 6, 3) := by decide +kernel
theorem dX7_fault_52 : decode cX7_fault 52 = .ok (.bipush (-3), 2) := by decide +kernel
theorem dX7_fault_54 : decode cX7_fault 54 = .ok (.ireturn, 1) := by decide +kernel
theorem dX7_fault_55 : decode cX7_fault 55 = .ok (.aload_n 0, 1) := by decide +kernel
theorem dX7_fault_56 : decode cX7_fault 56 = .ok (.getfield 53, 3) := by decide +kernel
theorem dX7_fault_59 : decode cX7_fault 59 = .ok (.aload_n 0, 1) := by decide +kernel
theorem dX7_fault_60 : decode cX7_fault 60 = .ok (.getfield 109, 3) := by decide +kernel
theorem dX7_fault_63 : decode cX7_fault 63 = .ok (.iload_n 1, 1) := by decide +kernel
theorem dX7_fault_64 : decode cX7_fault 64 = .ok (.iastore, 1) := by decide +kernel
theorem dX7_fault_65 : decode cX7_fault 65 = .ok (.aload_n 0, 1) := by decide +kernel
theorem dX7_fault_66 : decode cX7_fault 66 = .ok (.getfield 56, 3) := by decide +kernel
theorem dX7_fault_69 : decode cX7_fault 69 = .ok (.aload_n 0, 1) := by decide +kernel
theorem dX7_fault_70 : decode cX7_fault 70 = .ok (.getfield 109, 3) := by decide +kernel
theorem dX7_fault_73 : decode cX7_fault 73 = .ok (.iload_n 2, 1) := by decide +kernel
theorem dX7_fault_74 : decode cX7_fault 74 = .ok (.iastore, 1) := by decide +kernel
theorem dX7_fault_75 : decode cX7_fault 75 = .ok (.aload_n 0, 1) := by decide +kernel
theorem dX7_fault_76 : decode cX7_fault 76 = .ok (.getfield 59, 3) := by decide +kernel
theorem dX7_fault_79 : decode cX7_fault 79 = .ok (.aload_n 0, 1) := by decide +kernel
theorem dX7_fault_80 : decode cX7_fault 80 = .ok (.getfield 109, 3) := by decide +kernel
theorem dX7_fault_83 : decode cX7_fault 83 = .ok (.iload_n 3, 1) := by decide +kernel
theorem dX7_fault_84 : decode cX7_fault 84 = .ok (.iastore, 1) := by decide +kernel
theorem dX7_fault_85 : decode cX7_fault 85 = .ok (.aload_n 0, 1) := by decide +kernel
theorem dX7_fault_86 : decode cX7_fault 86 = .ok (.dup, 1) := by decide +kernel
theorem dX7_fault_87 : decode cX7_fault 87 = .ok (.getfield 109, 3) := by decide +kernel
theorem dX7_fault_90 : decode cX7_fault 90 = .ok (.iconst 1, 1) := by decide +kernel
theorem dX7_fault_91 : decode cX7_fault 91 = .ok (.iadd, 1) := by decide +kernel
theorem dX7_fault_92 : decode cX7_fault 92 = .ok (.putfield 109, 3) := by decide +kernel
theorem dX7_fault_95 : decode cX7_fault 95 = .ok (.aload_n 0, 1) := by decide +kernel
theorem dX7_fault_96 : decode cX7_fault 96 = .ok (.getfield 109, 3) := by decide +kernel
theorem dX7_fault_99 : decode cX7_fault 99 = .ok (.ireturn, 1) := by decide +kernel
set_option maxRecDepth 20000 in
theorem ggX7_supply_X7_in : GoodIn wsX7_supply wsX7_in := goodIn_r _ [6] (by decide +kernel) (by decide +kernel)
set_option maxRecDepth 20000 in
theorem gX7_supply_X7_in : GoodIn wsX7_supply (va_wsS RX7 127 yX7_in wsX7_in) := goodIn_app (goodIn_of _ (by decide +kernel)) ggX7_supply_X7_in
theorem dX7_supply_0 : decode cX7_supply 0 = .ok (.iload_n 1, 1) := by decide +kernel
theorem dX7_supply_1 : decode cX7_supply 1 = .ok (.iconst 1, 1) := by decide +kernel
theorem dX7_supply_2 : decode cX7_supply 2 = .ok (.sipush 1000, 3) := by decide +kernel
theorem dX7_supply_5 : decode cX7_supply 5 = .ok (.invokestatic 127, 3) := by decide +kernel
theorem dX7_supply_8 : decode cX7_supply 8 = .ok (.ifCond .ne 5, 3) := by decide +kernel
theorem dX7_supply_11 : decode cX7_supply 11 = .ok (.iconst (-1), 1) := by decide +kernel
theorem dX7_supply_12 : decode cX7_supply 12 = .ok (.ireturn, 1) := by decide +kernel
theorem dX7_supply_13 : decode cX7_supply 13 = .ok (.aload_n 0, 1) := by decide +kernel
theorem dX7_supply_14 : decode cX7_supply 14 = .ok (.getfield 115, 3) := by decide +kernel
theorem dX7_supply_17 : decode cX7_supply 17 = .ok (.iload_n 1, 1) := by decide +kernel
theorem dX7_supply_18 : decode cX7_supply 18 = .ok (.iadd, 1) := by decide +kernel
theorem dX7_supply_19 : decode cX7_supply 19 = .ok (.ldc 135, 2) := by decide +kernel
theorem dX7_supply_21 : decode cX7_supply 21 = .ok (.if_icmp .le 6, 3) := by decide +kernel
theorem dX7_supply_24 : decode cX7_supply 24 = .ok (.bipush (-3), 2) := by decide +kernel
theorem dX7_supply_26 : decode cX7_supply 26 = .ok (.ireturn, 1) := by decide +kernel
theorem dX7_supply_27 : decode cX7_supply 27 = .ok (.aload_n 0, 1) := by decide +kernel
theorem dX7_supply_28 : decode cX7_supply 28 = .ok (.dup, 1) := by decide +kernel
theorem dX7_supply_29 : decode cX7_supply 29 = .ok (.getfield 115, 3) := by decide +kernel
theorem dX7_supply_32 : decode cX7_supply 32 = .ok (.iload_n 1, 1) := by decide +kernel
theorem dX7_supply_33 : decode cX7_supply 33 = .ok (.iadd, 1) := by decide +kernel
theorem dX7_supply_34 : decode cX7_supply 34 = .ok (.putfield 115, 3) := by decide +kernel
theorem dX7_supply_37 : decode cX7_supply 37 = .ok (.aload_n 0, 1) := by decide +kernel
theorem dX7_supply_38 : decode cX7_supply 38 = .ok (.getfield 115, 3) := by decide +kernel
theorem dX7_supply_41 : decode cX7_supply 41 = .ok (.ireturn, 1) := by decide +kernel
set_option maxRecDepth 20000 in
theorem ggX7_lot_X7_in : GoodIn wsX7_lot wsX7_in := goodIn_r _ [5] (by decide +kernel) (by decide +kernel)
set_option maxRecDepth 20000 in
theorem gX7_lot_X7_in : GoodIn wsX7_lot (va_wsS RX7 127 yX7_in wsX7_in) := goodIn_app (goodIn_of _ (by decide +kernel)) ggX7_lot_X7_in
theorem dX7_lot_0 : decode cX7_lot 0 = .ok (.iload_n 1, 1) := by decide +kernel
theorem dX7_lot_1 : decode cX7_lot 1 = .ok (.iconst 0, 1) := by decide +kernel
theorem dX7_lot_2 : decode cX7_lot 2 = .ok (.bipush 15, 2) := by decide +kernel
theorem dX7_lot_4 : decode cX7_lot 4 = .ok (.invokestatic 127, 3) := by decide +kernel
theorem dX7_lot_7 : decode cX7_lot 7 = .ok (.ifCond .ne 5, 3) := by decide +kernel
theorem dX7_lot_10 : decode cX7_lot 10 = .ok (.iconst (-1), 1) := by decide +kernel
theorem dX7_lot_11 : decode cX7_lot 11 = .ok (.ireturn, 1) := by decide +kernel
theorem dX7_lot_12 : decode cX7_lot 12 = .ok (.aload_n 0, 1) := by decide +kernel
theorem dX7_lot_13 : decode cX7_lot 13 = .ok (.getfield 136, 3) := by decide +kernel
theorem dX7_lot_16 : decode cX7_lot 16 = .ok (.istore_n 2, 1) := by decide +kernel
theorem dX7_lot_17 : decode cX7_lot 17 = .ok (.aload_n 0, 1) := by decide +kernel
theorem dX7_lot_18 : decode cX7_lot 18 = .ok (.iload_n 1, 1) := by decide +kernel
theorem dX7_lot_19 : decode cX7_lot 19 = .ok (.putfield 136, 3) := by decide +kernel
theorem dX7_lot_22 : decode cX7_lot 22 = .ok (.iload_n 2, 1) := by decide +kernel
theorem dX7_lot_23 : decode cX7_lot 23 = .ok (.ireturn, 1) := by decide +kernel
set_option maxRecDepth 20000 in
theorem ggX7_isFaulty_X7_in : GoodIn wsX7_isFaulty wsX7_in := goodIn_r _ [9] (by decide +kernel) (by decide +kernel)
set_option maxRecDepth 20000 in
theorem gX7_isFaulty_X7_in : GoodIn wsX7_isFaulty (va_wsS RX7 127 yX7_in wsX7_in) := goodIn_app (goodIn_of _ (by decide +kernel)) ggX7_isFaulty_X7_in
theorem dX7_isFaulty_0 : decode cX7_isFaulty 0 = .ok (.iconst 0, 1) := by decide +kernel
theorem dX7_isFaulty_1 : decode cX7_isFaulty 1 = .ok (.istore_n 2, 1) := by decide +kernel
theorem dX7_isFaulty_2 : decode cX7_isFaulty 2 = .ok (.iconst 0, 1) := by decide +kernel
theorem dX7_isFaulty_3 : decode cX7_isFaulty 3 = .ok (.istore_n 3, 1) := by decide +kernel
theorem dX7_isFaulty_4 : decode cX7_isFaulty 4 = .ok (.iload_n 3, 1) := by decide +kernel
theorem dX7_isFaulty_5 : decode cX7_isFaulty 5 = .ok (.aload_n 0, 1) := by decide +kernel
theorem dX7_isFaulty_6 : decode cX7_isFaulty 6 = .ok (.getfield 109, 3) := by decide +kernel
theorem dX7_isFaulty_9 : decode cX7_isFaulty 9 = .ok (.if_icmp .ge 51, 3) := by decide +kernel
theorem dX7_isFaulty_12 : decode cX7_isFaulty 12 = .ok (.iload_n 2, 1) := by decide +kernel
theorem dX7_isFaulty_13 : decode cX7_isFaulty 13 = .ok (.ifCond .ne 35, 3) := by decide +kernel
theorem dX7_isFaulty_16 : decode cX7_isFaulty 16 = .ok (.aload_n 0, 1) := by decide +kernel
theorem dX7_isFaulty_17 : decode cX7_isFaulty 17 = .ok (.getfield 53, 3) := by decide +kernel
theorem dX7_isFaulty_20 : decode cX7_isFaulty 20 = .ok (.iload_n 3, 1) := by decide +kernel
theorem dX7_isFaulty_21 : decode cX7_isFaulty 21 = .ok (.iaload, 1) := by decide +kernel
theorem dX7_isFaulty_22 : decode cX7_isFaulty 22 = .ok (.iload_n 1, 1) := by decide +kernel
theorem dX7_isFaulty_23 : decode cX7_isFaulty 23 = .ok (.if_icmp .ne 29, 3) := by decide +kernel
theorem dX7_isFaulty_26 : decode cX7_isFaulty 26 = .ok (.aload_n 0, 1) := by decide +kernel
theorem dX7_isFaulty_27 : decode cX7_isFaulty 27 = .ok (.getfield 112, 3) := by decide +kernel
theorem dX7_isFaulty_30 : decode cX7_isFaulty 30 = .ok (.aload_n 0, 1) := by decide +kernel
theorem dX7_isFaulty_31 : decode cX7_isFaulty 31 = .ok (.getfield 56, 3) := by decide +kernel
theorem dX7_isFaulty_34 : decode cX7_isFaulty 34 = .ok (.iload_n 3, 1) := by decide +kernel
theorem dX7_isFaulty_35 : decode cX7_isFaulty 35 = .ok (.iaload, 1) := by decide +kernel
theorem dX7_isFaulty_36 : decode cX7_isFaulty 36 = .ok (.aload_n 0, 1) := by decide +kernel
theorem dX7_isFaulty_37 : decode cX7_isFaulty 37 = .ok (.getfield 59, 3) := by decide +kernel
theorem dX7_isFaulty_40 : decode cX7_isFaulty 40 = .ok (.iload_n 3, 1) := by decide +kernel
theorem dX7_isFaulty_41 : decode cX7_isFaulty 41 = .ok (.iaload, 1) := by decide +kernel
theorem dX7_isFaulty_42 : decode cX7_isFaulty 42 = .ok (.invokestatic 127, 3) := by decide +kernel
theorem dX7_isFaulty_45 : decode cX7_isFaulty 45 = .ok (.ifCond .eq 7, 3) := by decide +kernel
theorem dX7_isFaulty_48 : decode cX7_isFaulty 48 = .ok (.iconst 1, 1) := by decide +kernel
theorem dX7_isFaulty_49 : decode cX7_isFaulty 49 = .ok (.goto 4, 3) := by decide +kernel
theorem dX7_isFaulty_52 : decode cX7_isFaulty 52 = .ok (.iconst 0, 1) := by decide +kernel
theorem dX7_isFaulty_53 : decode cX7_isFaulty 53 = .ok (.istore_n 2, 1) := by decide +kernel
theorem dX7_isFaulty_54 : decode cX7_isFaulty 54 = .ok (.iinc 3 1, 3) := by decide +kernel
theorem dX7_isFaulty_57 : decode cX7_isFaulty 57 = .ok (.goto (-53), 3) := by decide +kernel
theorem dX7_isFaulty_60 : decode cX7_isFaulty 60 = .ok (.iload_n 2, 1) := by decide +kernel
theorem dX7_isFaulty_61 : decode cX7_isFaulty 61 = .ok (.ireturn, 1) := by decide +kernel
theorem dX7_finishes_0 : decode cX7_finishes 0 = .ok (.aload_n 0, 1) := by decide +kernel
theorem dX7_finishes_1 : decode cX7_finishes 1 = .ok (.getfield 44, 3) := by decide +kernel
theorem dX7_finishes_4 : decode cX7_finishes 4 = .ok (.iload_n 1, 1) := by decide +kernel
theorem dX7_finishes_5 : decode cX7_finishes 5 = .ok (.iconst (-1), 1) := by decide +kernel
theorem dX7_finishes_6 : decode cX7_finishes 6 = .ok (.iastore, 1) := by decide +kernel
theorem dX7_finishes_7 : decode cX7_finishes 7 = .ok (.aload_n 0, 1) := by decide +kernel
theorem dX7_finishes_8 : decode cX7_finishes 8 = .ok (.getfield 32, 3) := by decide +kernel
theorem dX7_finishes_11 : decode cX7_finishes 11 = .ok (.iload_n 1, 1) := by decide +kernel
theorem dX7_finishes_12 : decode cX7_finishes 12 = .ok (.dup2, 1) := by decide +kernel
theorem dX7_finishes_13 : decode cX7_finishes 13 = .ok (.iaload, 1) := by decide +kernel
theorem dX7_finishes_14 : decode cX7_finishes 14 = .ok (.iconst 1, 1) := by decide +kernel
theorem dX7_finishes_15 : decode cX7_finishes 15 = .ok (.iadd, 1) := by decide +kernel
theorem dX7_finishes_16 : decode cX7_finishes 16 = .ok (.iastore, 1) := by decide +kernel
theorem dX7_finishes_17 : decode cX7_finishes 17 = .ok (.aload_n 0, 1) := by decide +kernel
theorem dX7_finishes_18 : decode cX7_finishes 18 = .ok (.getfield 17, 3) := by decide +kernel
theorem dX7_finishes_21 : decode cX7_finishes 21 = .ok (.iload_n 1, 1) := by decide +kernel
theorem dX7_finishes_22 : decode cX7_finishes 22 = .ok (.iaload, 1) := by decide +kernel
theorem dX7_finishes_23 : decode cX7_finishes 23 = .ok (.ifCond .le 70, 3) := by decide +kernel
theorem dX7_finishes_26 : decode cX7_finishes 26 = .ok (.aload_n 0, 1) := by decide +kernel
theorem dX7_finishes_27 : decode cX7_finishes 27 = .ok (.getfield 32, 3) := by decide +kernel
theorem dX7_finishes_30 : decode cX7_finishes 30 = .ok (.iload_n 1, 1) := by decide +kernel
theorem dX7_finishes_31 : decode cX7_finishes 31 = .ok (.iaload, 1) := by decide +kernel
theorem dX7_finishes_32 : decode cX7_finishes 32 = .ok (.aload_n 0, 1) := by decide +kernel
theorem dX7_finishes_33 : decode cX7_finishes 33 = .ok (.getfield 17, 3) := by decide +kernel
theorem dX7_finishes_36 : decode cX7_finishes 36 = .ok (.iload_n 1, 1) := by decide +kernel
theorem dX7_finishes_37 : decode cX7_finishes 37 = .ok (.iaload, 1) := by decide +kernel
theorem dX7_finishes_38 : decode cX7_finishes 38 = .ok (.irem, 1) := by decide +kernel
theorem dX7_finishes_39 : decode cX7_finishes 39 = .ok (.ifCond .ne 54, 3) := by decide +kernel
theorem dX7_finishes_42 : decode cX7_finishes 42 = .ok (.aload_n 0, 1) := by decide +kernel
theorem dX7_finishes_43 : decode cX7_finishes 43 = .ok (.getfield 35, 3) := by decide +kernel
theorem dX7_finishes_46 : decode cX7_finishes 46 = .ok (.iload_n 1, 1) := by decide +kernel
theorem dX7_finishes_47 : decode cX7_finishes 47 = .ok (.dup2, 1) := by decide +kernel
theorem dX7_finishes_48 : decode cX7_finishes 48 = .ok (.iaload, 1) := by decide +kernel
theorem dX7_finishes_49 : decode cX7_finishes 49 = .ok (.iconst 1, 1) := by decide +kernel
theorem dX7_finishes_50 : decode cX7_finishes 50 = .ok (.iadd, 1) := by decide +kernel
theorem dX7_finishes_51 : decode cX7_finishes 51 = .ok (.iastore, 1) := by decide +kernel
theorem dX7_finishes_52 : decode cX7_finishes 52 = .ok (.aload_n 0, 1) := by decide +kernel
theorem dX7_finishes_53 : decode cX7_finishes 53 = .ok (.getfield 50, 3) := by decide +kernel
theorem dX7_finishes_56 : decode cX7_finishes 56 = .ok (.iload_n 1, 1) := by decide +kernel
theorem dX7_finishes_57 : decode cX7_finishes 57 = .ok (.aload_n 0, 1) := by decide +kernel
theorem dX7_finishes_58 : decode cX7_finishes 58 = .ok (.getfield 47, 3) := by decide +kernel
theorem dX7_finishes_61 : decode cX7_finishes 61 = .ok (.iload_n 1, 1) := by decide +kernel
theorem dX7_finishes_62 : decode cX7_finishes 62 = .ok (.iaload, 1) := by decide +kernel
theorem dX7_finishes_63 : decode cX7_finishes 63 = .ok (.ifCond .ne 10, 3) := by decide +kernel
theorem dX7_finishes_66 : decode cX7_finishes 66 = .ok (.aload_n 0, 1) := by decide +kernel
theorem dX7_finishes_67 : decode cX7_finishes 67 = .ok (.getfield 112, 3) := by decide +kernel
theorem dX7_finishes_70 : decode cX7_finishes 70 = .ok (.goto 9, 3) := by decide +kernel
theorem dX7_finishes_73 : decode cX7_finishes 73 = .ok (.aload_n 0, 1) := by decide +kernel
theorem dX7_finishes_74 : decode cX7_finishes 74 = .ok (.getfield 50, 3) := by decide +kernel
theorem dX7_finishes_77 : decode cX7_finishes 77 = .ok (.iload_n 1, 1) := by decide +kernel
theorem dX7_finishes_78 : decode cX7_finishes 78 = .ok (.iaload, 1) := by decide +kernel
theorem dX7_finishes_79 : decode cX7_finishes 79 = .ok (.iastore, 1) := by decide +kernel
theorem dX7_finishes_80 : decode cX7_finishes 80 = .ok (.aload_n 0, 1) := by decide +kernel
theorem dX7_finishes_81 : decode cX7_finishes 81 = .ok (.getfield 47, 3) := by decide +kernel
theorem dX7_finishes_84 : decode cX7_finishes 84 = .ok (.iload_n 1, 1) := by decide +kernel
theorem dX7_finishes_85 : decode cX7_finishes 85 = .ok (.dup2, 1) := by decide +kernel
theorem dX7_finishes_86 : decode cX7_finishes 86 = .ok (.iaload, 1) := by decide +kernel
theorem dX7_finishes_87 : decode cX7_finishes 87 = .ok (.iconst 1, 1) := by decide +kernel
theorem dX7_finishes_88 : decode cX7_finishes 88 = .ok (.iadd, 1) := by decide +kernel
theorem dX7_finishes_89 : decode cX7_finishes 89 = .ok (.iastore, 1) := by decide +kernel
theorem dX7_finishes_90 : decode cX7_finishes 90 = .ok (.goto 127, 3) := by decide +kernel
theorem dX7_finishes_93 : decode cX7_finishes 93 = .ok (.aload_n 0, 1) := by decide +kernel
theorem dX7_finishes_94 : decode cX7_finishes 94 = .ok (.getfield 20, 3) := by decide +kernel
theorem dX7_finishes_97 : decode cX7_finishes 97 = .ok (.iload_n 1, 1) := by decide +kernel
theorem dX7_finishes_98 : decode cX7_finishes 98 = .ok (.iaload, 1) := by decide +kernel
theorem dX7_finishes_99 : decode cX7_finishes 99 = .ok (.ifCond .le 32, 3) := by decide +kernel
theorem dX7_finishes_102 : decode cX7_finishes 102 = .ok (.aload_n 0, 1) := by decide +kernel
theorem dX7_finishes_103 : decode cX7_finishes 103 = .ok (.getfield 32, 3) := by decide +kernel
theorem dX7_finishes_106 : decode cX7_finishes 106 = .ok (.iload_n 1, 1) := by decide +kernel
theorem dX7_finishes_107 : decode cX7_finishes 107 = .ok (.iaload, 1) := by decide +kernel
theorem dX7_finishes_108 : decode cX7_finishes 108 = .ok (.aload_n 0, 1) := by decide +kernel
theorem dX7_finishes_109 : decode cX7_finishes 109 = .ok (.getfield 20, 3) := by decide +kernel
theorem dX7_finishes_112 : decode cX7_finishes 112 = .ok (.iload_n 1, 1) := by decide +kernel
theorem dX7_finishes_113 : decode cX7_finishes 113 = .ok (.iaload, 1) := by decide +kernel
theorem dX7_finishes_114 : decode cX7_finishes 114 = .ok (.irem, 1) := by decide +kernel
theorem dX7_finishes_115 : decode cX7_finishes 115 = .ok (.ifCond .ne 16, 3) := by decide +kernel
theorem dX7_finishes_118 : decode cX7_finishes 118 = .ok (.aload_n 0, 1) := by decide +kernel
theorem dX7_finishes_119 : decode cX7_finishes 119 = .ok (.getfield 38, 3) := by decide +kernel
theorem dX7_finishes_122 : decode cX7_finishes 122 = .ok (.iload_n 1, 1) := by decide +kernel
theorem dX7_finishes_123 : decode cX7_finishes 123 = .ok (.dup2, 1) := by decide +kernel
theorem dX7_finishes_124 : decode cX7_finishes 124 = .ok (.iaload, 1) := by decide +kernel
theorem dX7_finishes_125 : decode cX7_finishes 125 = .ok (.iconst 1, 1) := by decide +kernel
theorem dX7_finishes_126 : decode cX7_finishes 126 = .ok (.iadd, 1) := by decide +kernel
theorem dX7_finishes_127 : decode cX7_finishes 127 = .ok (.iastore, 1) := by decide +kernel
theorem dX7_finishes_128 : decode cX7_finishes 128 = .ok (.goto 89, 3) := by decide +kernel
theorem dX7_finishes_131 : decode cX7_finishes 131 = .ok (.iload_n 1, 1) := by decide +kernel
theorem dX7_finishes_132 : decode cX7_finishes 132 = .ok (.aload_n 0, 1) := by decide +kernel
theorem dX7_finishes_133 : decode cX7_finishes 133 = .ok (.getfield 7, 3) := by decide +kernel
theorem dX7_finishes_136 : decode cX7_finishes 136 = .ok (.iconst 1, 1) := by decide +kernel
theorem dX7_finishes_137 : decode cX7_finishes 137 = .ok (.isub, 1) := by decide +kernel
theorem dX7_finishes_138 : decode cX7_finishes 138 = .ok (.if_icmp .ne 71, 3) := by decide +kernel
theorem dX7_finishes_141 : decode cX7_finishes 141 = .ok (.aload_n 0, 1) := by decide +kernel
theorem dX7_finishes_142 : decode cX7_finishes 142 = .ok (.dup, 1) := by decide +kernel
theorem dX7_finishes_143 : decode cX7_finishes 143 = .ok (.getfield 121, 3) := by decide +kernel
theorem dX7_finishes_146 : decode cX7_finishes 146 = .ok (.iconst 1, 1) := by decide +kernel
theorem dX7_finishes_147 : decode cX7_finishes 147 = .ok (.iadd, 1) := by decide +kernel
theorem dX7_finishes_148 : decode cX7_finishes 148 = .ok (.putfield 121, 3) := by decide +kernel
theorem dX7_finishes_151 : decode cX7_finishes 151 = .ok (.aload_n 0, 1) := by decide +kernel
theorem dX7_finishes_152 : decode cX7_finishes 152 = .ok (.getfield 139, 3) := by decide +kernel
theorem dX7_finishes_155 : decode cX7_finishes 155 = .ok (.sipush 200, 3) := by decide +kernel
theorem dX7_finishes_158 : decode cX7_finishes 158 = .ok (.if_icmp .ge 59, 3) := by decide +kernel
theorem dX7_finishes_161 : decode cX7_finishes 161 = .ok (.aload_n 0, 1) := by decide +kernel
theorem dX7_finishes_162 : decode cX7_finishes 162 = .ok (.getfield 65, 3) := by decide +kernel
theorem dX7_finishes_165 : decode cX7_finishes 165 = .ok (.aload_n 0, 1) := by decide +kernel
theorem dX7_finishes_166 : decode cX7_finishes 166 = .ok (.getfield 139, 3) := by decide +kernel
theorem dX7_finishes_169 : decode cX7_finishes 169 = .ok (.aload_n 0, 1) := by decide +kernel
theorem dX7_finishes_170 : decode cX7_finishes 170 = .ok (.getfield 136, 3) := by decide +kernel
theorem dX7_finishes_173 : decode cX7_finishes 173 = .ok (.iastore, 1) := by decide +kernel
theorem dX7_finishes_174 : decode cX7_finishes 174 = .ok (.aload_n 0, 1) := by decide +kernel
theorem dX7_finishes_175 : decode cX7_finishes 175 = .ok (.getfield 68, 3) := by decide +kernel
theorem dX7_finishes_178 : decode cX7_finishes 178 = .ok (.aload_n 0, 1) := by decide +kernel
theorem dX7_finishes_179 : decode cX7_finishes 179 = .ok (.getfield 139, 3) := by decide +kernel
theorem dX7_finishes_182 : decode cX7_finishes 182 = .ok (.bipush (-4), 2) := by decide +kernel
theorem dX7_finishes_184 : decode cX7_finishes 184 = .ok (.iastore, 1) := by decide +kernel
theorem dX7_finishes_185 : decode cX7_finishes 185 = .ok (.aload_n 0, 1) := by decide +kernel
theorem dX7_finishes_186 : decode cX7_finishes 186 = .ok (.getfield 71, 3) := by decide +kernel
theorem dX7_finishes_189 : decode cX7_finishes 189 = .ok (.aload_n 0, 1) := by decide +kernel
theorem dX7_finishes_190 : decode cX7_finishes 190 = .ok (.getfield 139, 3) := by decide +kernel
theorem dX7_finishes_193 : decode cX7_finishes 193 = .ok (.bipush (-4), 2) := by decide +kernel
theorem dX7_finishes_195 : decode cX7_finishes 195 = .ok (.iastore, 1) := by decide +kernel
theorem dX7_finishes_196 : decode cX7_finishes 196 = .ok (.aload_n 0, 1) := by decide +kernel
theorem dX7_finishes_197 : decode cX7_finishes 197 = .ok (.dup, 1) := by decide +kernel
theorem dX7_finishes_198 : decode cX7_finishes 198 = .ok (.getfield 139, 3) := by decide +kernel
theorem dX7_finishes_201 : decode cX7_finishes 201 = .ok (.iconst 1, 1) := by decide +kernel
theorem dX7_finishes_202 : decode cX7_finishes 202 = .ok (.iadd, 1) := by decide +kernel
theorem dX7_finishes_203 : decode cX7_finishes 203 = .ok (.putfield 139, 3) := by decide +kernel
theorem dX7_finishes_206 : decode cX7_finishes 206 = .ok (.goto 11, 3) := by decide +kernel
theorem dX7_finishes_209 : decode cX7_finishes 209 = .ok (.aload_n 0, 1) := by decide +kernel
theorem dX7_finishes_210 : decode cX7_finishes 210 = .ok (.getfield 44, 3) := by decide +kernel
theorem dX7_finishes_213 : decode cX7_finishes 213 = .ok (.iload_n 1, 1) := by decide +kernel
theorem dX7_finishes_214 : decode cX7_finishes 214 = .ok (.bipush 100, 2) := by decide +kernel
theorem dX7_finishes_216 : decode cX7_finishes 216 = .ok (.iastore, 1) := by decide +kernel
theorem dX7_finishes_217 : decode cX7_finishes 217 = .ok (.return_, 1) := by decide +kernel
theorem dX7_takes_0 : decode cX7_takes 0 = .ok (.iload_n 1, 1) := by decide +kernel
theorem dX7_takes_1 : decode cX7_takes 1 = .ok (.ifCond .ne 54, 3) := by decide +kernel
theorem dX7_takes_4 : decode cX7_takes 4 = .ok (.aload_n 0, 1) := by decide +kernel
theorem dX7_takes_5 : decode cX7_takes 5 = .ok (.getfield 115, 3) := by decide +kernel
theorem dX7_takes_8 : decode cX7_takes 8 = .ok (.ifCond .le 7, 3) := by decide +kernel
theorem dX7_takes_11 : decode cX7_takes 11 = .ok (.iconst 1, 1) := by decide +kernel
theorem dX7_takes_12 : decode cX7_takes 12 = .ok (.goto 4, 3) := by decide +kernel
theorem dX7_takes_15 : decode cX7_takes 15 = .ok (.iconst 0, 1) := by decide +kernel
theorem dX7_takes_16 : decode cX7_takes 16 = .ok (.istore_n 2, 1) := by decide +kernel
theorem dX7_takes_17 : decode cX7_takes 17 = .ok (.aload_n 0, 1) := by decide +kernel
theorem dX7_takes_18 : decode cX7_takes 18 = .ok (.dup, 1) := by decide +kernel
theorem dX7_takes_19 : decode cX7_takes 19 = .ok (.getfield 115, 3) := by decide +kernel
theorem dX7_takes_22 : decode cX7_takes 22 = .ok (.iload_n 2, 1) := by decide +kernel
theorem dX7_takes_23 : decode cX7_takes 23 = .ok (.ifCond .eq 7, 3) := by decide +kernel
theorem dX7_takes_26 : decode cX7_takes 26 = .ok (.iconst 1, 1) := by decide +kernel
theorem dX7_takes_27 : decode cX7_takes 27 = .ok (.goto 4, 3) := by decide +kernel
theorem dX7_takes_30 : decode cX7_takes 30 = .ok (.iconst 0, 1) := by decide +kernel
theorem dX7_takes_31 : decode cX7_takes 31 = .ok (.isub, 1) := by decide +kernel
theorem dX7_takes_32 : decode cX7_takes 32 = .ok (.putfield 115, 3) := by decide +kernel
theorem dX7_takes_35 : decode cX7_takes 35 = .ok (.aload_n 0, 1) := by decide +kernel
theorem dX7_takes_36 : decode cX7_takes 36 = .ok (.dup, 1) := by decide +kernel
theorem dX7_takes_37 : decode cX7_takes 37 = .ok (.getfield 118, 3) := by decide +kernel
theorem dX7_takes_40 : decode cX7_takes 40 = .ok (.iload_n 2, 1) := by decide +kernel
theorem dX7_takes_41 : decode cX7_takes 41 = .ok (.ifCond .eq 7, 3) := by decide +kernel
theorem dX7_takes_44 : decode cX7_takes 44 = .ok (.iconst 1, 1) := by decide +kernel
theorem dX7_takes_45 : decode cX7_takes 45 = .ok (.goto 4, 3) := by decide +kernel
theorem dX7_takes_48 : decode cX7_takes 48 = .ok (.iconst 0, 1) := by decide +kernel
theorem dX7_takes_49 : decode cX7_takes 49 = .ok (.iadd, 1) := by decide +kernel
theorem dX7_takes_50 : decode cX7_takes 50 = .ok (.putfield 118, 3) := by decide +kernel
theorem dX7_takes_53 : decode cX7_takes 53 = .ok (.iload_n 2, 1) := by decide +kernel
theorem dX7_takes_54 : decode cX7_takes 54 = .ok (.ireturn, 1) := by decide +kernel
theorem dX7_takes_55 : decode cX7_takes 55 = .ok (.aload_n 0, 1) := by decide +kernel
theorem dX7_takes_56 : decode cX7_takes 56 = .ok (.getfield 26, 3) := by decide +kernel
theorem dX7_takes_59 : decode cX7_takes 59 = .ok (.iload_n 1, 1) := by decide +kernel
theorem dX7_takes_60 : decode cX7_takes 60 = .ok (.iconst 1, 1) := by decide +kernel
theorem dX7_takes_61 : decode cX7_takes 61 = .ok (.isub, 1) := by decide +kernel
theorem dX7_takes_62 : decode cX7_takes 62 = .ok (.iaload, 1) := by decide +kernel
theorem dX7_takes_63 : decode cX7_takes 63 = .ok (.ifCond .le 7, 3) := by decide +kernel
theorem dX7_takes_66 : decode cX7_takes 66 = .ok (.iconst 1, 1) := by decide +kernel
theorem dX7_takes_67 : decode cX7_takes 67 = .ok (.goto 4, 3) := by decide +kernel
theorem dX7_takes_70 : decode cX7_takes 70 = .ok (.iconst 0, 1) := by decide +kernel
theorem dX7_takes_71 : decode cX7_takes 71 = .ok (.istore_n 2, 1) := by decide +kernel
theorem dX7_takes_72 : decode cX7_takes 72 = .ok (.aload_n 0, 1) := by decide +kernel
theorem dX7_takes_73 : decode cX7_takes 73 = .ok (.getfield 26, 3) := by decide +kernel
theorem dX7_takes_76 : decode cX7_takes 76 = .ok (.iload_n 1, 1) := by decide +kernel
theorem dX7_takes_77 : decode cX7_takes 77 = .ok (.iconst 1, 1) := by decide +kernel
theorem dX7_takes_78 : decode cX7_takes 78 = .ok (.isub, 1) := by decide +kernel
theorem dX7_takes_79 : decode cX7_takes 79 = .ok (.dup2, 1) := by decide +kernel
theorem dX7_takes_80 : decode cX7_takes 80 = .ok (.iaload, 1) := by decide +kernel
theorem dX7_takes_81 : decode cX7_takes 81 = .ok (.iload_n 2, 1) := by decide +kernel
theorem dX7_takes_82 : decode cX7_takes 82 = .ok (.ifCond .eq 7, 3) := by decide +kernel
theorem dX7_takes_85 : decode cX7_takes 85 = .ok (.iconst 1, 1) := by decide +kernel
theorem dX7_takes_86 : decode cX7_takes 86 = .ok (.goto 4, 3) := by decide +kernel
theorem dX7_takes_89 : decode cX7_takes 89 = .ok (.iconst 0, 1) := by decide +kernel
theorem dX7_takes_90 : decode cX7_takes 90 = .ok (.isub, 1) := by decide +kernel
theorem dX7_takes_91 : decode cX7_takes 91 = .ok (.iastore, 1) := by decide +kernel
theorem dX7_takes_92 : decode cX7_takes 92 = .ok (.iload_n 2, 1) := by decide +kernel
theorem dX7_takes_93 : decode cX7_takes 93 = .ok (.ireturn, 1) := by decide +kernel
set_option maxRecDepth 20000 in
theorem ggX7_steps_X7_isFaulty : GoodIn wsX7_steps wsX7_isFaulty := goodIn_r _ [13, 14, 15, 2, 16, 17, 18, 19, 12, 20, 43, 44, 45, 46, 47, 48, 49, 50, 51, 52, 53, 54, 55, 56, 57, 58, 59, 60, 61, 62, 63, 64, 65, 66, 67, 68, 69, 70, 71, 72, 73, 74, 75, 76, 77, 78, 79, 80, 81, 82, 83, 84, 85] (by decide +kernel) (by decide +kernel)
set_option maxRecDepth 20000 in
theorem gX7_steps_X7_isFaulty : GoodIn wsX7_steps (wsV RX7 142 RX7 yX7_isFaulty wsX7_isFaulty) := goodIn_app (goodIn_of _ (by decide +kernel)) ggX7_steps_X7_isFaulty
set_option maxRecDepth 20000 in
theorem ggX7_steps_X7_takes : GoodIn wsX7_steps wsX7_takes := goodIn_r _ [24, 25, 26, 5, 43, 44, 45, 46, 47, 48, 49, 50, 51, 52, 53, 54, 55, 56, 57, 58, 59, 60, 61, 62, 63, 64, 65, 66, 67, 68, 69, 70, 71, 72, 73, 74, 75, 76, 77, 78, 79, 80, 81, 82, 83, 84, 85] (by decide +kernel) (by decide +kernel)
set_option maxRecDepth 20000 in
theorem gX7_steps_X7_takes : GoodIn wsX7_steps (wsV RX7 145 RX7 yX7_takes wsX7_takes) := goodIn_app (goodIn_of _ (by decide +kernel)) ggX7_steps_X7_takes
set_option maxRecDepth 20000 in
theorem ggX7_steps_X7_finishes : GoodIn wsX7_steps wsX7_finishes := goodIn_r _ [30, 4, 31, 32, 33, 3, 1, 2, 34, 35, 36, 37, 38, 39, 40, 41, 42, 43, 44, 45, 46, 47, 48, 49, 50, 51, 52, 53, 54, 55, 56, 57, 58, 59, 60, 61, 62, 63, 64, 65, 66, 67, 68, 69, 70, 71, 72, 73, 74, 75, 76, 77, 78, 79, 80, 81, 82, 83, 84, 85] (by decide +kernel) (by decide +kernel)
set_option maxRecDepth 20000 in
theorem gX7_steps_X7_finishes : GoodIn wsX7_steps (wsV RX7 148 RX7 yX7_finishes wsX7_finishes) := goodIn_app (goodIn_of _ (by decide +kernel)) ggX7_steps_X7_finishes
theorem dX7_steps_0 : decode cX7_steps 0 = .ok (.aload_n 0, 1) := by decide +kernel
theorem dX7_steps_1 : decode cX7_steps 1 = .ok (.iload_n 1, 1) := by decide +kernel
theorem dX7_steps_2 : decode cX7_steps 2 = .ok (.invokevirtual 142, 3) := by decide +kernel
theorem dX7_steps_5 : decode cX7_steps 5 = .ok (.ifCond .eq 5, 3) := by decide +kernel
theorem dX7_steps_8 : decode cX7_steps 8 = .ok (.iconst 0, 1) := by decide +kernel
theorem dX7_steps_9 : decode cX7_steps 9 = .ok (.ireturn, 1) := by decide +kernel
theorem dX7_steps_10 : decode cX7_steps 10 = .ok (.aload_n 0, 1) := by decide +kernel
theorem dX7_steps_11 : decode cX7_steps 11 = .ok (.getfield 47, 3) := by decide +kernel
theorem dX7_steps_14 : decode cX7_steps 14 = .ok (.iload_n 1, 1) := by decide +kernel
theorem dX7_steps_15 : decode cX7_steps 15 = .ok (.iaload, 1) := by decide +kernel
theorem dX7_steps_16 : decode cX7_steps 16 = .ok (.ifCond .le 20, 3) := by decide +kernel
theorem dX7_steps_19 : decode cX7_steps 19 = .ok (.aload_n 0, 1) := by decide +kernel
theorem dX7_steps_20 : decode cX7_steps 20 = .ok (.getfield 112, 3) := by decide +kernel
theorem dX7_steps_23 : decode cX7_steps 23 = .ok (.aload_n 0, 1) := by decide +kernel
theorem dX7_steps_24 : decode cX7_steps 24 = .ok (.getfield 50, 3) := by decide +kernel
theorem dX7_steps_27 : decode cX7_steps 27 = .ok (.iload_n 1, 1) := by decide +kernel
theorem dX7_steps_28 : decode cX7_steps 28 = .ok (.iaload, 1) := by decide +kernel
theorem dX7_steps_29 : decode cX7_steps 29 = .ok (.iconst 3, 1) := by decide +kernel
theorem dX7_steps_30 : decode cX7_steps 30 = .ok (.iadd, 1) := by decide +kernel
theorem dX7_steps_31 : decode cX7_steps 31 = .ok (.if_icmp .lt 5, 3) := by decide +kernel
theorem dX7_steps_34 : decode cX7_steps 34 = .ok (.iconst 1, 1) := by decide +kernel
theorem dX7_steps_35 : decode cX7_steps 35 = .ok (.ireturn, 1) := by decide +kernel
theorem dX7_steps_36 : decode cX7_steps 36 = .ok (.aload_n 0, 1) := by decide +kernel
theorem dX7_steps_37 : decode cX7_steps 37 = .ok (.getfield 44, 3) := by decide +kernel
theorem dX7_steps_40 : decode cX7_steps 40 = .ok (.iload_n 1, 1) := by decide +kernel
theorem dX7_steps_41 : decode cX7_steps 41 = .ok (.iaload, 1) := by decide +kernel
theorem dX7_steps_42 : decode cX7_steps 42 = .ok (.bipush 100, 2) := by decide +kernel
theorem dX7_steps_44 : decode cX7_steps 44 = .ok (.if_icmp .ne 37, 3) := by decide +kernel
theorem dX7_steps_47 : decode cX7_steps 47 = .ok (.aload_n 0, 1) := by decide +kernel
theorem dX7_steps_48 : decode cX7_steps 48 = .ok (.getfield 26, 3) := by decide +kernel
theorem dX7_steps_51 : decode cX7_steps 51 = .ok (.iload_n 1, 1) := by decide +kernel
theorem dX7_steps_52 : decode cX7_steps 52 = .ok (.iaload, 1) := by decide +kernel
theorem dX7_steps_53 : decode cX7_steps 53 = .ok (.aload_n 0, 1) := by decide +kernel
theorem dX7_steps_54 : decode cX7_steps 54 = .ok (.getfield 23, 3) := by decide +kernel
theorem dX7_steps_57 : decode cX7_steps 57 = .ok (.iload_n 1, 1) := by decide +kernel
theorem dX7_steps_58 : decode cX7_steps 58 = .ok (.iaload, 1) := by decide +kernel
theorem dX7_steps_59 : decode cX7_steps 59 = .ok (.if_icmp .ne 5, 3) := by decide +kernel
theorem dX7_steps_62 : decode cX7_steps 62 = .ok (.iconst 2, 1) := by decide +kernel
theorem dX7_steps_63 : decode cX7_steps 63 = .ok (.ireturn, 1) := by decide +kernel
theorem dX7_steps_64 : decode cX7_steps 64 = .ok (.aload_n 0, 1) := by decide +kernel
theorem dX7_steps_65 : decode cX7_steps 65 = .ok (.getfield 26, 3) := by decide +kernel
theorem dX7_steps_68 : decode cX7_steps 68 = .ok (.iload_n 1, 1) := by decide +kernel
theorem dX7_steps_69 : decode cX7_steps 69 = .ok (.dup2, 1) := by decide +kernel
theorem dX7_steps_70 : decode cX7_steps 70 = .ok (.iaload, 1) := by decide +kernel
theorem dX7_steps_71 : decode cX7_steps 71 = .ok (.iconst 1, 1) := by decide +kernel
theorem dX7_steps_72 : decode cX7_steps 72 = .ok (.iadd, 1) := by decide +kernel
theorem dX7_steps_73 : decode cX7_steps 73 = .ok (.iastore, 1) := by decide +kernel
theorem dX7_steps_74 : decode cX7_steps 74 = .ok (.aload_n 0, 1) := by decide +kernel
theorem dX7_steps_75 : decode cX7_steps 75 = .ok (.getfield 44, 3) := by decide +kernel
theorem dX7_steps_78 : decode cX7_steps 78 = .ok (.iload_n 1, 1) := by decide +kernel
theorem dX7_steps_79 : decode cX7_steps 79 = .ok (.iconst (-1), 1) := by decide +kernel
theorem dX7_steps_80 : decode cX7_steps 80 = .ok (.iastore, 1) := by decide +kernel
theorem dX7_steps_81 : decode cX7_steps 81 = .ok (.aload_n 0, 1) := by decide +kernel
theorem dX7_steps_82 : decode cX7_steps 82 = .ok (.getfield 44, 3) := by decide +kernel
theorem dX7_steps_85 : decode cX7_steps 85 = .ok (.iload_n 1, 1) := by decide +kernel
theorem dX7_steps_86 : decode cX7_steps 86 = .ok (.iaload, 1) := by decide +kernel
theorem dX7_steps_87 : decode cX7_steps 87 = .ok (.ifCond .ge 20, 3) := by decide +kernel
theorem dX7_steps_90 : decode cX7_steps 90 = .ok (.aload_n 0, 1) := by decide +kernel
theorem dX7_steps_91 : decode cX7_steps 91 = .ok (.iload_n 1, 1) := by decide +kernel
theorem dX7_steps_92 : decode cX7_steps 92 = .ok (.invokevirtual 145, 3) := by decide +kernel
theorem dX7_steps_95 : decode cX7_steps 95 = .ok (.ifCond .ne 5, 3) := by decide +kernel
theorem dX7_steps_98 : decode cX7_steps 98 = .ok (.iconst 4, 1) := by decide +kernel
theorem dX7_steps_99 : decode cX7_steps 99 = .ok (.ireturn, 1) := by decide +kernel
theorem dX7_steps_100 : decode cX7_steps 100 = .ok (.aload_n 0, 1) := by decide +kernel
theorem dX7_steps_101 : decode cX7_steps 101 = .ok (.getfield 44, 3) := by decide +kernel
theorem dX7_steps_104 : decode cX7_steps 104 = .ok (.iload_n 1, 1) := by decide +kernel
theorem dX7_steps_105 : decode cX7_steps 105 = .ok (.iconst 0, 1) := by decide +kernel
theorem dX7_steps_106 : decode cX7_steps 106 = .ok (.iastore, 1) := by decide +kernel
theorem dX7_steps_107 : decode cX7_steps 107 = .ok (.aload_n 0, 1) := by decide +kernel
theorem dX7_steps_108 : decode cX7_steps 108 = .ok (.getfield 44, 3) := by decide +kernel
theorem dX7_steps_111 : decode cX7_steps 111 = .ok (.iload_n 1, 1) := by decide +kernel
theorem dX7_steps_112 : decode cX7_steps 112 = .ok (.dup2, 1) := by decide +kernel
theorem dX7_steps_113 : decode cX7_steps 113 = .ok (.iaload, 1) := by decide +kernel
theorem dX7_steps_114 : decode cX7_steps 114 = .ok (.iconst 1, 1) := by decide +kernel
theorem dX7_steps_115 : decode cX7_steps 115 = .ok (.iadd, 1) := by decide +kernel
theorem dX7_steps_116 : decode cX7_steps 116 = .ok (.iastore, 1) := by decide +kernel
theorem dX7_steps_117 : decode cX7_steps 117 = .ok (.aload_n 0, 1) := by decide +kernel
theorem dX7_steps_118 : decode cX7_steps 118 = .ok (.getfield 44, 3) := by decide +kernel
theorem dX7_steps_121 : decode cX7_steps 121 = .ok (.iload_n 1, 1) := by decide +kernel
theorem dX7_steps_122 : decode cX7_steps 122 = .ok (.iaload, 1) := by decide +kernel
theorem dX7_steps_123 : decode cX7_steps 123 = .ok (.aload_n 0, 1) := by decide +kernel
theorem dX7_steps_124 : decode cX7_steps 124 = .ok (.getfield 13, 3) := by decide +kernel
theorem dX7_steps_127 : decode cX7_steps 127 = .ok (.iload_n 1, 1) := by decide +kernel
theorem dX7_steps_128 : decode cX7_steps 128 = .ok (.iaload, 1) := by decide +kernel
theorem dX7_steps_129 : decode cX7_steps 129 = .ok (.if_icmp .lt 8, 3) := by decide +kernel
theorem dX7_steps_132 : decode cX7_steps 132 = .ok (.aload_n 0, 1) := by decide +kernel
theorem dX7_steps_133 : decode cX7_steps 133 = .ok (.iload_n 1, 1) := by decide +kernel
theorem dX7_steps_134 : decode cX7_steps 134 = .ok (.invokevirtual 148, 3) := by decide +kernel
theorem dX7_steps_137 : decode cX7_steps 137 = .ok (.aload_n 0, 1) := by decide +kernel
theorem dX7_steps_138 : decode cX7_steps 138 = .ok (.getfield 41, 3) := by decide +kernel
theorem dX7_steps_141 : decode cX7_steps 141 = .ok (.iload_n 1, 1) := by decide +kernel
theorem dX7_steps_142 : decode cX7_steps 142 = .ok (.dup2, 1) := by decide +kernel
theorem dX7_steps_143 : decode cX7_steps 143 = .ok (.iaload, 1) := by decide +kernel
theorem dX7_steps_144 : decode cX7_steps 144 = .ok (.iconst 1, 1) := by decide +kernel
theorem dX7_steps_145 : decode cX7_steps 145 = .ok (.iadd, 1) := by decide +kernel
theorem dX7_steps_146 : decode cX7_steps 146 = .ok (.iastore, 1) := by decide +kernel
theorem dX7_steps_147 : decode cX7_steps 147 = .ok (.iconst 3, 1) := by decide +kernel
theorem dX7_steps_148 : decode cX7_steps 148 = .ok (.ireturn, 1) := by decide +kernel
set_option maxRecDepth 20000 in
theorem ggX7_passes_X7_steps : GoodIn wsX7_passes wsX7_steps := goodIn_r _ [10, 11, 5, 12, 13, 14, 15, 16, 17, 18, 19, 20, 9, 21, 22, 23, 24, 25, 26, 27, 28, 29, 30, 31, 32, 33, 34, 35, 36, 37, 38, 39, 40, 41, 42, 43, 1, 44, 45, 46, 47, 48, 49, 50, 51, 52, 53, 54, 55, 56, 57, 58, 59, 60, 61, 62, 63, 64, 65, 66, 67, 68, 69, 70, 71, 72, 73, 74, 75, 76, 77, 78, 79, 80, 81, 82, 83, 84, 85, 86, 87, 88, 89, 90, 91, 92] (by decide +kernel) (by decide +kernel)
set_option maxRecDepth 20000 in
theorem gX7_passes_X7_steps : GoodIn wsX7_passes (wsV RX7 151 RX7 yX7_steps wsX7_steps) := goodIn_app (goodIn_of _ (by decide +kernel)) ggX7_passes_X7_steps
theorem dX7_passes_0 : decode cX7_passes 0 = .ok (.aload_n 0, 1) := by decide +kernel
theorem dX7_passes_1 : decode cX7_passes 1 = .ok (.getfield 7, 3) := by decide +kernel
theorem dX7_passes_4 : decode cX7_passes 4 = .ok (.iconst 1, 1) := by decide +kernel
theorem dX7_passes_5 : decode cX7_passes 5 = .ok (.isub, 1) := by decide +kernel
theorem dX7_passes_6 : decode cX7_passes 6 = .ok (.istore_n 1, 1) := by decide +kernel
theorem dX7_passes_7 : decode cX7_passes 7 = .ok (.iload_n 1, 1) := by decide +kernel
theorem dX7_passes_8 : decode cX7_passes 8 = .ok (.ifCond .lt 20, 3) := by decide +kernel
theorem dX7_passes_11 : decode cX7_passes 11 = .ok (.aload_n 0, 1) := by decide +kernel
theorem dX7_passes_12 : decode cX7_passes 12 = .ok (.getfield 29, 3) := by decide +kernel
theorem dX7_passes_15 : decode cX7_passes 15 = .ok (.iload_n 1, 1) := by decide +kernel
theorem dX7_passes_16 : decode cX7_passes 16 = .ok (.aload_n 0, 1) := by decide +kernel
theorem dX7_passes_17 : decode cX7_passes 17 = .ok (.iload_n 1, 1) := by decide +kernel
theorem dX7_passes_18 : decode cX7_passes 18 = .ok (.invokevirtual 151, 3) := by decide +kernel
theorem dX7_passes_21 : decode cX7_passes 21 = .ok (.iastore, 1) := by decide +kernel
theorem dX7_passes_22 : decode cX7_passes 22 = .ok (.iinc 1 (-1), 3) := by decide +kernel
theorem dX7_passes_25 : decode cX7_passes 25 = .ok (.goto (-18), 3) := by decide +kernel
theorem dX7_passes_28 : decode cX7_passes 28 = .ok (.aload_n 0, 1) := by decide +kernel
theorem dX7_passes_29 : decode cX7_passes 29 = .ok (.getfield 29, 3) := by decide +kernel
theorem dX7_passes_32 : decode cX7_passes 32 = .ok (.aload_n 0, 1) := by decide +kernel
theorem dX7_passes_33 : decode cX7_passes 33 = .ok (.getfield 7, 3) := by decide +kernel
theorem dX7_passes_36 : decode cX7_passes 36 = .ok (.iconst 1, 1) := by decide +kernel
theorem dX7_passes_37 : decode cX7_passes 37 = .ok (.isub, 1) := by decide +kernel
theorem dX7_passes_38 : decode cX7_passes 38 = .ok (.iaload, 1) := by decide +kernel
theorem dX7_passes_39 : decode cX7_passes 39 = .ok (.iconst 3, 1) := by decide +kernel
theorem dX7_passes_40 : decode cX7_passes 40 = .ok (.if_icmp .eq 74, 3) := by decide +kernel
theorem dX7_passes_43 : decode cX7_passes 43 = .ok (.aload_n 0, 1) := by decide +kernel
theorem dX7_passes_44 : decode cX7_passes 44 = .ok (.dup, 1) := by decide +kernel
theorem dX7_passes_45 : decode cX7_passes 45 = .ok (.getfield 124, 3) := by decide +kernel
theorem dX7_passes_48 : decode cX7_passes 48 = .ok (.iconst 1, 1) := by decide +kernel
theorem dX7_passes_49 : decode cX7_passes 49 = .ok (.iadd, 1) := by decide +kernel
theorem dX7_passes_50 : decode cX7_passes 50 = .ok (.putfield 124, 3) := by decide +kernel
theorem dX7_passes_53 : decode cX7_passes 53 = .ok (.aload_n 0, 1) := by decide +kernel
theorem dX7_passes_54 : decode cX7_passes 54 = .ok (.getfield 7, 3) := by decide +kernel
theorem dX7_passes_57 : decode cX7_passes 57 = .ok (.iconst 1, 1) := by decide +kernel
theorem dX7_passes_58 : decode cX7_passes 58 = .ok (.isub, 1) := by decide +kernel
theorem dX7_passes_59 : decode cX7_passes 59 = .ok (.istore_n 1, 1) := by decide +kernel
theorem dX7_passes_60 : decode cX7_passes 60 = .ok (.iload_n 1, 1) := by decide +kernel
theorem dX7_passes_61 : decode cX7_passes 61 = .ok (.ifCond .lt 19, 3) := by decide +kernel
theorem dX7_passes_64 : decode cX7_passes 64 = .ok (.aload_n 0, 1) := by decide +kernel
theorem dX7_passes_65 : decode cX7_passes 65 = .ok (.getfield 29, 3) := by decide +kernel
theorem dX7_passes_68 : decode cX7_passes 68 = .ok (.iload_n 1, 1) := by decide +kernel
theorem dX7_passes_69 : decode cX7_passes 69 = .ok (.iaload, 1) := by decide +kernel
theorem dX7_passes_70 : decode cX7_passes 70 = .ok (.iconst 4, 1) := by decide +kernel
theorem dX7_passes_71 : decode cX7_passes 71 = .ok (.if_icmp .ne 9, 3) := by decide +kernel
theorem dX7_passes_74 : decode cX7_passes 74 = .ok (.iinc 1 (-1), 3) := by decide +kernel
theorem dX7_passes_77 : decode cX7_passes 77 = .ok (.goto (-17), 3) := by decide +kernel
theorem dX7_passes_80 : decode cX7_passes 80 = .ok (.aload_n 0, 1) := by decide +kernel
theorem dX7_passes_81 : decode cX7_passes 81 = .ok (.getfield 62, 3) := by decide +kernel
theorem dX7_passes_84 : decode cX7_passes 84 = .ok (.iload_n 1, 1) := by decide +kernel
theorem dX7_passes_85 : decode cX7_passes 85 = .ok (.ifCond .ge 8, 3) := by decide +kernel
theorem dX7_passes_88 : decode cX7_passes 88 = .ok (.bipush 7, 2) := by decide +kernel
theorem dX7_passes_90 : decode cX7_passes 90 = .ok (.goto 19, 3) := by decide +kernel
theorem dX7_passes_93 : decode cX7_passes 93 = .ok (.aload_n 0, 1) := by decide +kernel
theorem dX7_passes_94 : decode cX7_passes 94 = .ok (.getfield 29, 3) := by decide +kernel
theorem dX7_passes_97 : decode cX7_passes 97 = .ok (.iload_n 1, 1) := by decide +kernel
theorem dX7_passes_98 : decode cX7_passes 98 = .ok (.iaload, 1) := by decide +kernel
theorem dX7_passes_99 : decode cX7_passes 99 = .ok (.iconst 3, 1) := by decide +kernel
theorem dX7_passes_100 : decode cX7_passes 100 = .ok (.if_icmp .ne 8, 3) := by decide +kernel
theorem dX7_passes_103 : decode cX7_passes 103 = .ok (.bipush 6, 2) := by decide +kernel
theorem dX7_passes_105 : decode cX7_passes 105 = .ok (.goto 4, 3) := by decide +kernel
theorem dX7_passes_108 : decode cX7_passes 108 = .ok (.iload_n 1, 1) := by decide +kernel
theorem dX7_passes_109 : decode cX7_passes 109 = .ok (.dup2, 1) := by decide +kernel
theorem dX7_passes_110 : decode cX7_passes 110 = .ok (.iaload, 1) := by decide +kernel
theorem dX7_passes_111 : decode cX7_passes 111 = .ok (.iconst 1, 1) := by decide +kernel
theorem dX7_passes_112 : decode cX7_passes 112 = .ok (.iadd, 1) := by decide +kernel
theorem dX7_passes_113 : decode cX7_passes 113 = .ok (.iastore, 1) := by decide +kernel
theorem dX7_passes_114 : decode cX7_passes 114 = .ok (.aload_n 0, 1) := by decide +kernel
theorem dX7_passes_115 : decode cX7_passes 115 = .ok (.dup, 1) := by decide +kernel
theorem dX7_passes_116 : decode cX7_passes 116 = .ok (.getfield 112, 3) := by decide +kernel
theorem dX7_passes_119 : decode cX7_passes 119 = .ok (.iconst 1, 1) := by decide +kernel
theorem dX7_passes_120 : decode cX7_passes 120 = .ok (.iadd, 1) := by decide +kernel
theorem dX7_passes_121 : decode cX7_passes 121 = .ok (.putfield 112, 3) := by decide +kernel
theorem dX7_passes_124 : decode cX7_passes 124 = .ok (.return_, 1) := by decide +kernel
set_option maxRecDepth 20000 in
theorem ggX7_ticks_X7_in : GoodIn wsX7_ticks wsX7_in := goodIn_r _ [5] (by decide +kernel) (by decide +kernel)
set_option maxRecDepth 20000 in
theorem gX7_ticks_X7_in : GoodIn wsX7_ticks (va_wsS RX7 127 yX7_in wsX7_in) := goodIn_app (goodIn_of _ (by decide +kernel)) ggX7_ticks_X7_in
set_option maxRecDepth 20000 in
theorem ggX7_ticks_X7_passes : GoodIn wsX7_ticks wsX7_passes := goodIn_r _ [9, 10, 11, 12, 13, 1, 14, 15, 16, 4, 17, 18, 19, 20, 21, 22, 23, 24, 25, 26, 27, 28, 29, 30, 31, 32, 2, 3, 5, 33, 34, 35, 36, 37, 38, 39, 40, 41, 42, 43, 44, 45, 46, 47, 48, 49, 50, 51, 52, 53, 54, 55, 56, 57, 58, 59, 60, 61, 62, 63, 64, 65, 66, 67, 68, 69, 70, 71, 72, 73, 74, 75, 76, 77, 78, 79, 80, 81, 82, 83, 84, 85, 86, 87, 88, 89, 90, 91, 92, 93, 94, 95, 96] (by decide +kernel) (by decide +kernel)
set_option maxRecDepth 20000 in
theorem gX7_ticks_X7_passes : GoodIn wsX7_ticks (wsV RX7 155 RX7 yX7_passes wsX7_passes) := goodIn_app (goodIn_of _ (by decide +kernel)) ggX7_ticks_X7_passes
theorem dX7_ticks_0 : decode cX7_ticks 0 = .ok (.iload_n 1, 1) := by decide +kernel
theorem dX7_ticks_1 : decode cX7_ticks 1 = .ok (.iconst 1, 1) := by decide +kernel
theorem dX7_ticks_2 : decode cX7_ticks 2 = .ok (.sipush 500, 3) := by decide +kernel
theorem dX7_ticks_5 : decode cX7_ticks 5 = .ok (.invokestatic 127, 3) := by decide +kernel
theorem dX7_ticks_8 : decode cX7_ticks 8 = .ok (.ifCond .ne 5, 3) := by decide +kernel
theorem dX7_ticks_11 : decode cX7_ticks 11 = .ok (.iconst (-1), 1) := by decide +kernel
theorem dX7_ticks_12 : decode cX7_ticks 12 = .ok (.ireturn, 1) := by decide +kernel
theorem dX7_ticks_13 : decode cX7_ticks 13 = .ok (.aload_n 0, 1) := by decide +kernel
theorem dX7_ticks_14 : decode cX7_ticks 14 = .ok (.getfield 112, 3) := by decide +kernel
theorem dX7_ticks_17 : decode cX7_ticks 17 = .ok (.iload_n 1, 1) := by decide +kernel
theorem dX7_ticks_18 : decode cX7_ticks 18 = .ok (.iadd, 1) := by decide +kernel
theorem dX7_ticks_19 : decode cX7_ticks 19 = .ok (.sipush 10000, 3) := by decide +kernel
theorem dX7_ticks_22 : decode cX7_ticks 22 = .ok (.if_icmp .le 6, 3) := by decide +kernel
theorem dX7_ticks_25 : decode cX7_ticks 25 = .ok (.bipush (-3), 2) := by decide +kernel
theorem dX7_ticks_27 : decode cX7_ticks 27 = .ok (.ireturn, 1) := by decide +kernel
theorem dX7_ticks_28 : decode cX7_ticks 28 = .ok (.iconst 0, 1) := by decide +kernel
theorem dX7_ticks_29 : decode cX7_ticks 29 = .ok (.istore_n 2, 1) := by decide +kernel
theorem dX7_ticks_30 : decode cX7_ticks 30 = .ok (.iload_n 2, 1) := by decide +kernel
theorem dX7_ticks_31 : decode cX7_ticks 31 = .ok (.iload_n 1, 1) := by decide +kernel
theorem dX7_ticks_32 : decode cX7_ticks 32 = .ok (.if_icmp .ge 13, 3) := by decide +kernel
theorem dX7_ticks_35 : decode cX7_ticks 35 = .ok (.aload_n 0, 1) := by decide +kernel
theorem dX7_ticks_36 : decode cX7_ticks 36 = .ok (.invokevirtual 155, 3) := by decide +kernel
theorem dX7_ticks_39 : decode cX7_ticks 39 = .ok (.iinc 2 1, 3) := by decide +kernel
theorem dX7_ticks_42 : decode cX7_ticks 42 = .ok (.goto (-12), 3) := by decide +kernel
theorem dX7_ticks_45 : decode cX7_ticks 45 = .ok (.aload_n 0, 1) := by decide +kernel
theorem dX7_ticks_46 : decode cX7_ticks 46 = .ok (.getfield 112, 3) := by decide +kernel
theorem dX7_ticks_49 : decode cX7_ticks 49 = .ok (.ireturn, 1) := by decide +kernel
set_option maxRecDepth 20000 in
theorem ggX7_confirm_X7_isMachine : GoodIn wsX7_confirm wsX7_isMachine := goodIn_r _ [6, 7, 8, 9, 5, 10, 11, 12, 13, 14, 15, 16, 17, 18, 19, 20, 21, 22, 23, 24, 25, 26, 27, 28, 29, 30, 31, 32, 33, 34, 35, 36, 37, 38, 39, 40, 41, 42, 43, 44, 45, 46, 47, 48, 49, 50, 51, 52, 53] (by decide +kernel) (by decide +kernel)
set_option maxRecDepth 20000 in
theorem gX7_confirm_X7_isMachine : GoodIn wsX7_confirm (wsV RX7 131 RX7 yX7_isMachine wsX7_isMachine) := goodIn_app (goodIn_of _ (by decide +kernel)) ggX7_confirm_X7_isMachine
theorem dX7_confirm_0 : decode cX7_confirm 0 = .ok (.aload_n 0, 1) := by decide +kernel
theorem dX7_confirm_1 : decode cX7_confirm 1 = .ok (.iload_n 1, 1) := by decide +kernel
theorem dX7_confirm_2 : decode cX7_confirm 2 = .ok (.invokevirtual 131, 3) := by decide +kernel
theorem dX7_confirm_5 : decode cX7_confirm 5 = .ok (.ifCond .ne 5, 3) := by decide +kernel
theorem dX7_confirm_8 : decode cX7_confirm 8 = .ok (.iconst (-1), 1) := by decide +kernel
theorem dX7_confirm_9 : decode cX7_confirm 9 = .ok (.ireturn, 1) := by decide +kernel
theorem dX7_confirm_10 : decode cX7_confirm 10 = .ok (.aload_n 0, 1) := by decide +kernel
theorem dX7_confirm_11 : decode cX7_confirm 11 = .ok (.getfield 47, 3) := by decide +kernel
theorem dX7_confirm_14 : decode cX7_confirm 14 = .ok (.iload_n 1, 1) := by decide +kernel
theorem dX7_confirm_15 : decode cX7_confirm 15 = .ok (.iaload, 1) := by decide +kernel
theorem dX7_confirm_16 : decode cX7_confirm 16 = .ok (.istore_n 2, 1) := by decide +kernel
theorem dX7_confirm_17 : decode cX7_confirm 17 = .ok (.aload_n 0, 1) := by decide +kernel
theorem dX7_confirm_18 : decode cX7_confirm 18 = .ok (.getfield 47, 3) := by decide +kernel
theorem dX7_confirm_21 : decode cX7_confirm 21 = .ok (.iload_n 1, 1) := by decide +kernel
theorem dX7_confirm_22 : decode cX7_confirm 22 = .ok (.iconst 0, 1) := by decide +kernel
theorem dX7_confirm_23 : decode cX7_confirm 23 = .ok (.iastore, 1) := by decide +kernel
theorem dX7_confirm_24 : decode cX7_confirm 24 = .ok (.iload_n 2, 1) := by decide +kernel
theorem dX7_confirm_25 : decode cX7_confirm 25 = .ok (.ireturn, 1) := by decide +kernel
set_option maxRecDepth 20000 in
theorem ggX7_about_X7_isMachine : GoodIn wsX7_about wsX7_isMachine := goodIn_r _ [13, 14, 15, 16, 12, 17, 18, 19, 20, 21, 22, 23, 24, 25, 26, 27, 28, 29, 30, 31, 32, 33, 34, 35, 36, 37, 38, 39, 40, 41, 42, 43, 44, 45, 46, 47, 48, 49, 50, 51, 52, 53, 54, 55, 56, 57, 58, 59, 60] (by decide +kernel) (by decide +kernel)
set_option maxRecDepth 20000 in
theorem gX7_about_X7_isMachine : GoodIn wsX7_about (wsV RX7 131 RX7 yX7_isMachine wsX7_isMachine) := goodIn_app (goodIn_of _ (by decide +kernel)) ggX7_about_X7_isMachine
set_option maxRecDepth 20000 in
theorem ggX7_about_X7_in : GoodIn wsX7_about wsX7_in := goodIn_r _ [17] (by decide +kernel) (by decide +kernel)
set_option maxRecDepth 20000 in
theorem gX7_about_X7_in : GoodIn wsX7_about (va_wsS RX7 127 yX7_in wsX7_in) := goodIn_app (goodIn_of _ (by decide +kernel)) ggX7_about_X7_in
theorem dX7_about_0 : decode cX7_about 0 = .ok (.aload_n 0, 1) := by decide +kernel
theorem dX7_about_1 : decode cX7_about 1 = .ok (.iload_n 1, 1) := by decide +kernel
theorem dX7_about_2 : decode cX7_about 2 = .ok (.invokevirtual 131, 3) := by decide +kernel
theorem dX7_about_5 : decode cX7_about 5 = .ok (.ifCond .eq 13, 3) := by decide +kernel
theorem dX7_about_8 : decode cX7_about 8 = .ok (.iload_n 2, 1) := by decide +kernel
theorem dX7_about_9 : decode cX7_about 9 = .ok (.iconst 0, 1) := by decide +kernel
theorem dX7_about_10 : decode cX7_about 10 = .ok (.bipush 7, 2) := by decide +kernel
theorem dX7_about_12 : decode cX7_about 12 = .ok (.invokestatic 127, 3) := by decide +kernel
theorem dX7_about_15 : decode cX7_about 15 = .ok (.ifCond .ne 5, 3) := by decide +kernel
theorem dX7_about_18 : decode cX7_about 18 = .ok (.iconst (-1), 1) := by decide +kernel
theorem dX7_about_19 : decode cX7_about 19 = .ok (.ireturn, 1) := by decide +kernel
theorem dX7_about_20 : decode cX7_about 20 = .ok (.iload_n 2, 1) := by decide +kernel
theorem dX7_about_21 : decode cX7_about 21 = .ok (.tableswitch 100 0 6 #[43, 50, 57, 64, 71, 86, 93], 43) := by decide +kernel
theorem dX7_about_64 : decode cX7_about 64 = .ok (.aload_n 0, 1) := by decide +kernel
theorem dX7_about_65 : decode cX7_about 65 = .ok (.getfield 29, 3) := by decide +kernel
theorem dX7_about_68 : decode cX7_about 68 = .ok (.iload_n 1, 1) := by decide +kernel
theorem dX7_about_69 : decode cX7_about 69 = .ok (.iaload, 1) := by decide +kernel
theorem dX7_about_70 : decode cX7_about 70 = .ok (.ireturn, 1) := by decide +kernel
theorem dX7_about_71 : decode cX7_about 71 = .ok (.aload_n 0, 1) := by decide +kernel
theorem dX7_about_72 : decode cX7_about 72 = .ok (.getfield 32, 3) := by decide +kernel
theorem dX7_about_75 : decode cX7_about 75 = .ok (.iload_n 1, 1) := by decide +kernel
theorem dX7_about_76 : decode cX7_about 76 = .ok (.iaload, 1) := by decide +kernel
theorem dX7_about_77 : decode cX7_about 77 = .ok (.ireturn, 1) := by decide +kernel
theorem dX7_about_78 : decode cX7_about 78 = .ok (.aload_n 0, 1) := by decide +kernel
theorem dX7_about_79 : decode cX7_about 79 = .ok (.getfield 35, 3) := by decide +kernel
theorem dX7_about_82 : decode cX7_about 82 = .ok (.iload_n 1, 1) := by decide +kernel
theorem dX7_about_83 : decode cX7_about 83 = .ok (.iaload, 1) := by decide +kernel
theorem dX7_about_84 : decode cX7_about 84 = .ok (.ireturn, 1) := by decide +kernel
theorem dX7_about_85 : decode cX7_about 85 = .ok (.aload_n 0, 1) := by decide +kernel
theorem dX7_about_86 : decode cX7_about 86 = .ok (.getfield 38, 3) := by decide +kernel
theorem dX7_about_89 : decode cX7_about 89 = .ok (.iload_n 1, 1) := by decide +kernel
theorem dX7_about_90 : decode cX7_about 90 = .ok (.iaload, 1) := by decide +kernel
theorem dX7_about_91 : decode cX7_about 91 = .ok (.ireturn, 1) := by decide +kernel
theorem dX7_about_92 : decode cX7_about 92 = .ok (.aload_n 0, 1) := by decide +kernel
theorem dX7_about_93 : decode cX7_about 93 = .ok (.getfield 44, 3) := by decide +kernel
theorem dX7_about_96 : decode cX7_about 96 = .ok (.iload_n 1, 1) := by decide +kernel
theorem dX7_about_97 : decode cX7_about 97 = .ok (.iaload, 1) := by decide +kernel
theorem dX7_about_98 : decode cX7_about 98 = .ok (.ifCond .ge 7, 3) := by decide +kernel
theorem dX7_about_101 : decode cX7_about 101 = .ok (.iconst 0, 1) := by decide +kernel
theorem dX7_about_102 : decode cX7_about 102 = .ok (.goto 4, 3) := by decide +kernel
theorem dX7_about_105 : decode cX7_about 105 = .ok (.iconst 1, 1) := by decide +kernel
theorem dX7_about_106 : decode cX7_about 106 = .ok (.ireturn, 1) := by decide +kernel
theorem dX7_about_107 : decode cX7_about 107 = .ok (.aload_n 0, 1) := by decide +kernel
theorem dX7_about_108 : decode cX7_about 108 = .ok (.getfield 26, 3) := by decide +kernel
theorem dX7_about_111 : decode cX7_about 111 = .ok (.iload_n 1, 1) := by decide +kernel
theorem dX7_about_112 : decode cX7_about 112 = .ok (.iaload, 1) := by decide +kernel
theorem dX7_about_113 : decode cX7_about 113 = .ok (.ireturn, 1) := by decide +kernel
theorem dX7_about_114 : decode cX7_about 114 = .ok (.aload_n 0, 1) := by decide +kernel
theorem dX7_about_115 : decode cX7_about 115 = .ok (.getfield 47, 3) := by decide +kernel
theorem dX7_about_118 : decode cX7_about 118 = .ok (.iload_n 1, 1) := by decide +kernel
theorem dX7_about_119 : decode cX7_about 119 = .ok (.iaload, 1) := by decide +kernel
theorem dX7_about_120 : decode cX7_about 120 = .ok (.ireturn, 1) := by decide +kernel
theorem dX7_about_121 : decode cX7_about 121 = .ok (.aload_n 0, 1) := by decide +kernel
theorem dX7_about_122 : decode cX7_about 122 = .ok (.getfield 41, 3) := by decide +kernel
theorem dX7_about_125 : decode cX7_about 125 = .ok (.iload_n 1, 1) := by decide +kernel
theorem dX7_about_126 : decode cX7_about 126 = .ok (.iaload, 1) := by decide +kernel
theorem dX7_about_127 : decode cX7_about 127 = .ok (.ireturn, 1) := by decide +kernel
set_option maxRecDepth 20000 in
theorem ggX7_cause_X7_in : GoodIn wsX7_cause wsX7_in := goodIn_r _ [5] (by decide +kernel) (by decide +kernel)
set_option maxRecDepth 20000 in
theorem gX7_cause_X7_in : GoodIn wsX7_cause (va_wsS RX7 127 yX7_in wsX7_in) := goodIn_app (goodIn_of _ (by decide +kernel)) ggX7_cause_X7_in
theorem dX7_cause_0 : decode cX7_cause 0 = .ok (.iload_n 1, 1) := by decide +kernel
theorem dX7_cause_1 : decode cX7_cause 1 = .ok (.iconst 0, 1) := by decide +kernel
theorem dX7_cause_2 : decode cX7_cause 2 = .ok (.bipush 7, 2) := by decide +kernel
theorem dX7_cause_4 : decode cX7_cause 4 = .ok (.invokestatic 127, 3) := by decide +kernel
theorem dX7_cause_7 : decode cX7_cause 7 = .ok (.ifCond .eq 12, 3) := by decide +kernel
theorem dX7_cause_10 : decode cX7_cause 10 = .ok (.aload_n 0, 1) := by decide +kernel
theorem dX7_cause_11 : decode cX7_cause 11 = .ok (.getfield 62, 3) := by decide +kernel
theorem dX7_cause_14 : decode cX7_cause 14 = .ok (.iload_n 1, 1) := by decide +kernel
theorem dX7_cause_15 : decode cX7_cause 15 = .ok (.iaload, 1) := by decide +kernel
theorem dX7_cause_16 : decode cX7_cause 16 = .ok (.goto 4, 3) := by decide +kernel
theorem dX7_cause_19 : decode cX7_cause 19 = .ok (.iconst (-1), 1) := by decide +kernel
theorem dX7_cause_20 : decode cX7_cause 20 = .ok (.ireturn, 1) := by decide +kernel
theorem dX7_book_0 : decode cX7_book 0 = .ok (.iconst 0, 1) := by decide +kernel
theorem dX7_book_1 : decode cX7_book 1 = .ok (.istore_n 2, 1) := by decide +kernel
theorem dX7_book_2 : decode cX7_book 2 = .ok (.iconst 0, 1) := by decide +kernel
theorem dX7_book_3 : decode cX7_book 3 = .ok (.istore_n 3, 1) := by decide +kernel
theorem dX7_book_4 : decode cX7_book 4 = .ok (.iconst 0, 1) := by decide +kernel
theorem dX7_book_5 : decode cX7_book 5 = .ok (.istore 4, 2) := by decide +kernel
theorem dX7_book_7 : decode cX7_book 7 = .ok (.iconst 0, 1) := by decide +kernel
theorem dX7_book_8 : decode cX7_book 8 = .ok (.istore 5, 2) := by decide +kernel
theorem dX7_book_10 : decode cX7_book 10 = .ok (.iload 5, 2) := by decide +kernel
theorem dX7_book_12 : decode cX7_book 12 = .ok (.aload_n 0, 1) := by decide +kernel
theorem dX7_book_13 : decode cX7_book 13 = .ok (.getfield 7, 3) := by decide +kernel
theorem dX7_book_16 : decode cX7_book 16 = .ok (.if_icmp .ge 57, 3) := by decide +kernel
theorem dX7_book_19 : decode cX7_book 19 = .ok (.iload_n 2, 1) := by decide +kernel
theorem dX7_book_20 : decode cX7_book 20 = .ok (.aload_n 0, 1) := by decide +kernel
theorem dX7_book_21 : decode cX7_book 21 = .ok (.getfield 35, 3) := by decide +kernel
theorem dX7_book_24 : decode cX7_book 24 = .ok (.iload 5, 2) := by decide +kernel
theorem dX7_book_26 : decode cX7_book 26 = .ok (.iaload, 1) := by decide +kernel
theorem dX7_book_27 : decode cX7_book 27 = .ok (.iadd, 1) := by decide +kernel
theorem dX7_book_28 : decode cX7_book 28 = .ok (.istore_n 2, 1) := by decide +kernel
theorem dX7_book_29 : decode cX7_book 29 = .ok (.iload_n 3, 1) := by decide +kernel
theorem dX7_book_30 : decode cX7_book 30 = .ok (.aload_n 0, 1) := by decide +kernel
theorem dX7_book_31 : decode cX7_book 31 = .ok (.getfield 38, 3) := by decide +kernel
theorem dX7_book_34 : decode cX7_book 34 = .ok (.iload 5, 2) := by decide +kernel
theorem dX7_book_36 : decode cX7_book 36 = .ok (.iaload, 1) := by decide +kernel
theorem dX7_book_37 : decode cX7_book 37 = .ok (.iadd, 1) := by decide +kernel
theorem dX7_book_38 : decode cX7_book 38 = .ok (.istore_n 3, 1) := by decide +kernel
theorem dX7_book_39 : decode cX7_book 39 = .ok (.iload 4, 2) := by decide +kernel
theorem dX7_book_41 : decode cX7_book 41 = .ok (.aload_n 0, 1) := by decide +kernel
theorem dX7_book_42 : decode cX7_book 42 = .ok (.getfield 26, 3) := by decide +kernel
theorem dX7_book_45 : decode cX7_book 45 = .ok (.iload 5, 2) := by decide +kernel
theorem dX7_book_47 : decode cX7_book 47 = .ok (.iaload, 1) := by decide +kernel
theorem dX7_book_48 : decode cX7_book 48 = .ok (.aload_n 0, 1) := by decide +kernel
theorem dX7_book_49 : decode cX7_book 49 = .ok (.getfield 44, 3) := by decide +kernel
theorem dX7_book_52 : decode cX7_book 52 = .ok (.iload 5, 2) := by decide +kernel
theorem dX7_book_54 : decode cX7_book 54 = .ok (.iaload, 1) := by decide +kernel
theorem dX7_book_55 : decode cX7_book 55 = .ok (.ifCond .ge 7, 3) := by decide +kernel
theorem dX7_book_58 : decode cX7_book 58 = .ok (.iconst 0, 1) := by decide +kernel
theorem dX7_book_59 : decode cX7_book 59 = .ok (.goto 4, 3) := by decide +kernel
theorem dX7_book_62 : decode cX7_book 62 = .ok (.iconst 1, 1) := by decide +kernel
theorem dX7_book_63 : decode cX7_book 63 = .ok (.iadd, 1) := by decide +kernel
theorem dX7_book_64 : decode cX7_book 64 = .ok (.iadd, 1) := by decide +kernel
theorem dX7_book_65 : decode cX7_book 65 = .ok (.istore 4, 2) := by decide +kernel
theorem dX7_book_67 : decode cX7_book 67 = .ok (.iinc 5 1, 3) := by decide +kernel
theorem dX7_book_70 : decode cX7_book 70 = .ok (.goto (-60), 3) := by decide +kernel
theorem dX7_book_73 : decode cX7_book 73 = .ok (.iload_n 1, 1) := by decide +kernel
theorem dX7_book_74 : decode cX7_book 74 = .ok (.tableswitch 78 0 7 #[46, 51, 56, 61, 66, 68, 70, 73], 46) := by decide +kernel
theorem dX7_book_120 : decode cX7_book 120 = .ok (.aload_n 0, 1) := by decide +kernel
theorem dX7_book_121 : decode cX7_book 121 = .ok (.getfield 112, 3) := by decide +kernel
theorem dX7_book_124 : decode cX7_book 124 = .ok (.ireturn, 1) := by decide +kernel
theorem dX7_book_125 : decode cX7_book 125 = .ok (.aload_n 0, 1) := by decide +kernel
theorem dX7_book_126 : decode cX7_book 126 = .ok (.getfield 115, 3) := by decide +kernel
theorem dX7_book_129 : decode cX7_book 129 = .ok (.ireturn, 1) := by decide +kernel
theorem dX7_book_130 : decode cX7_book 130 = .ok (.aload_n 0, 1) := by decide +kernel
theorem dX7_book_131 : decode cX7_book 131 = .ok (.getfield 118, 3) := by decide +kernel
theorem dX7_book_134 : decode cX7_book 134 = .ok (.ireturn, 1) := by decide +kernel
theorem dX7_book_135 : decode cX7_book 135 = .ok (.aload_n 0, 1) := by decide +kernel
theorem dX7_book_136 : decode cX7_book 136 = .ok (.getfield 121, 3) := by decide +kernel
theorem dX7_book_139 : decode cX7_book 139 = .ok (.ireturn, 1) := by decide +kernel
theorem dX7_book_140 : decode cX7_book 140 = .ok (.iload_n 2, 1) := by decide +kernel
theorem dX7_book_141 : decode cX7_book 141 = .ok (.ireturn, 1) := by decide +kernel
theorem dX7_book_142 : decode cX7_book 142 = .ok (.iload_n 3, 1) := by decide +kernel
theorem dX7_book_143 : decode cX7_book 143 = .ok (.ireturn, 1) := by decide +kernel
theorem dX7_book_144 : decode cX7_book 144 = .ok (.iload 4, 2) := by decide +kernel
theorem dX7_book_146 : decode cX7_book 146 = .ok (.ireturn, 1) := by decide +kernel
theorem dX7_book_147 : decode cX7_book 147 = .ok (.aload_n 0, 1) := by decide +kernel
theorem dX7_book_148 : decode cX7_book 148 = .ok (.getfield 124, 3) := by decide +kernel
theorem dX7_book_151 : decode cX7_book 151 = .ok (.ireturn, 1) := by decide +kernel
theorem dX7_book_152 : decode cX7_book 152 = .ok (.iconst (-1), 1) := by decide +kernel
theorem dX7_book_153 : decode cX7_book 153 = .ok (.ireturn, 1) := by decide +kernel
set_option maxRecDepth 20000 in
theorem ggX7_isCase_X7_in : GoodIn wsX7_isCase wsX7_in := goodIn_r _ [4] (by decide +kernel) (by decide +kernel)
set_option maxRecDepth 20000 in
theorem gX7_isCase_X7_in : GoodIn wsX7_isCase (va_wsS RX7 127 yX7_in wsX7_in) := goodIn_app (goodIn_of _ (by decide +kernel)) ggX7_isCase_X7_in
theorem dX7_isCase_0 : decode cX7_isCase 0 = .ok (.iload_n 0, 1) := by decide +kernel
theorem dX7_isCase_1 : decode cX7_isCase 1 = .ok (.iconst 0, 1) := by decide +kernel
theorem dX7_isCase_2 : decode cX7_isCase 2 = .ok (.bipush 29, 2) := by decide +kernel
theorem dX7_isCase_4 : decode cX7_isCase 4 = .ok (.invokestatic 127, 3) := by decide +kernel
theorem dX7_isCase_7 : decode cX7_isCase 7 = .ok (.ireturn, 1) := by decide +kernel
set_option maxRecDepth 20000 in
theorem ggX7_isPallet_X7_in : GoodIn wsX7_isPallet wsX7_in := goodIn_r _ [4] (by decide +kernel) (by decide +kernel)
set_option maxRecDepth 20000 in
theorem gX7_isPallet_X7_in : GoodIn wsX7_isPallet (va_wsS RX7 127 yX7_in wsX7_in) := goodIn_app (goodIn_of _ (by decide +kernel)) ggX7_isPallet_X7_in
theorem dX7_isPallet_0 : decode cX7_isPallet 0 = .ok (.iload_n 0, 1) := by decide +kernel
theorem dX7_isPallet_1 : decode cX7_isPallet 1 = .ok (.iconst 0, 1) := by decide +kernel
theorem dX7_isPallet_2 : decode cX7_isPallet 2 = .ok (.iconst 5, 1) := by decide +kernel
theorem dX7_isPallet_3 : decode cX7_isPallet 3 = .ok (.invokestatic 127, 3) := by decide +kernel
theorem dX7_isPallet_6 : decode cX7_isPallet 6 = .ok (.ireturn, 1) := by decide +kernel
set_option maxRecDepth 20000 in
theorem ggX7_isCode_X7_in : GoodIn wsX7_isCode wsX7_in := goodIn_r _ [5] (by decide +kernel) (by decide +kernel)
set_option maxRecDepth 20000 in
theorem gX7_isCode_X7_in : GoodIn wsX7_isCode (va_wsS RX7 127 yX7_in wsX7_in) := goodIn_app (goodIn_of _ (by decide +kernel)) ggX7_isCode_X7_in
theorem dX7_isCode_0 : decode cX7_isCode 0 = .ok (.iload_n 1, 1) := by decide +kernel
theorem dX7_isCode_1 : decode cX7_isCode 1 = .ok (.iconst 0, 1) := by decide +kernel
theorem dX7_isCode_2 : decode cX7_isCode 2 = .ok (.aload_n 0, 1) := by decide +kernel
theorem dX7_isCode_3 : decode cX7_isCode 3 = .ok (.getfield 139, 3) := by decide +kernel
theorem dX7_isCode_6 : decode cX7_isCode 6 = .ok (.iconst 1, 1) := by decide +kernel
theorem dX7_isCode_7 : decode cX7_isCode 7 = .ok (.isub, 1) := by decide +kernel
theorem dX7_isCode_8 : decode cX7_isCode 8 = .ok (.invokestatic 127, 3) := by decide +kernel
theorem dX7_isCode_11 : decode cX7_isCode 11 = .ok (.ireturn, 1) := by decide +kernel
theorem dX7_units_0 : decode cX7_units 0 = .ok (.iconst 0, 1) := by decide +kernel
theorem dX7_units_1 : decode cX7_units 1 = .ok (.istore_n 2, 1) := by decide +kernel
theorem dX7_units_2 : decode cX7_units 2 = .ok (.iconst 0, 1) := by decide +kernel
theorem dX7_units_3 : decode cX7_units 3 = .ok (.istore_n 3, 1) := by decide +kernel
theorem dX7_units_4 : decode cX7_units 4 = .ok (.iload_n 3, 1) := by decide +kernel
theorem dX7_units_5 : decode cX7_units 5 = .ok (.aload_n 0, 1) := by decide +kernel
theorem dX7_units_6 : decode cX7_units 6 = .ok (.getfield 139, 3) := by decide +kernel
theorem dX7_units_9 : decode cX7_units 9 = .ok (.if_icmp .ge 27, 3) := by decide +kernel
theorem dX7_units_12 : decode cX7_units 12 = .ok (.iload_n 2, 1) := by decide +kernel
theorem dX7_units_13 : decode cX7_units 13 = .ok (.aload_n 0, 1) := by decide +kernel
theorem dX7_units_14 : decode cX7_units 14 = .ok (.getfield 68, 3) := by decide +kernel
theorem dX7_units_17 : decode cX7_units 17 = .ok (.iload_n 3, 1) := by decide +kernel
theorem dX7_units_18 : decode cX7_units 18 = .ok (.iaload, 1) := by decide +kernel
theorem dX7_units_19 : decode cX7_units 19 = .ok (.iload_n 1, 1) := by decide +kernel
theorem dX7_units_20 : decode cX7_units 20 = .ok (.if_icmp .ne 7, 3) := by decide +kernel
theorem dX7_units_23 : decode cX7_units 23 = .ok (.iconst 1, 1) := by decide +kernel
theorem dX7_units_24 : decode cX7_units 24 = .ok (.goto 4, 3) := by decide +kernel
theorem dX7_units_27 : decode cX7_units 27 = .ok (.iconst 0, 1) := by decide +kernel
theorem dX7_units_28 : decode cX7_units 28 = .ok (.iadd, 1) := by decide +kernel
theorem dX7_units_29 : decode cX7_units 29 = .ok (.istore_n 2, 1) := by decide +kernel
theorem dX7_units_30 : decode cX7_units 30 = .ok (.iinc 3 1, 3) := by decide +kernel
theorem dX7_units_33 : decode cX7_units 33 = .ok (.goto (-29), 3) := by decide +kernel
theorem dX7_units_36 : decode cX7_units 36 = .ok (.iload_n 2, 1) := by decide +kernel
theorem dX7_units_37 : decode cX7_units 37 = .ok (.ireturn, 1) := by decide +kernel
theorem dX7_casesOn_0 : decode cX7_casesOn 0 = .ok (.iconst 0, 1) := by decide +kernel
theorem dX7_casesOn_1 : decode cX7_casesOn 1 = .ok (.istore_n 2, 1) := by decide +kernel
theorem dX7_casesOn_2 : decode cX7_casesOn 2 = .ok (.iconst 0, 1) := by decide +kernel
theorem dX7_casesOn_3 : decode cX7_casesOn 3 = .ok (.istore_n 3, 1) := by decide +kernel
theorem dX7_casesOn_4 : decode cX7_casesOn 4 = .ok (.iload_n 3, 1) := by decide +kernel
theorem dX7_casesOn_5 : decode cX7_casesOn 5 = .ok (.bipush 30, 2) := by decide +kernel
theorem dX7_casesOn_7 : decode cX7_casesOn 7 = .ok (.if_icmp .ge 27, 3) := by decide +kernel
theorem dX7_casesOn_10 : decode cX7_casesOn 10 = .ok (.iload_n 2, 1) := by decide +kernel
theorem dX7_casesOn_11 : decode cX7_casesOn 11 = .ok (.aload_n 0, 1) := by decide +kernel
theorem dX7_casesOn_12 : decode cX7_casesOn 12 = .ok (.getfield 78, 3) := by decide +kernel
theorem dX7_casesOn_15 : decode cX7_casesOn 15 = .ok (.iload_n 3, 1) := by decide +kernel
theorem dX7_casesOn_16 : decode cX7_casesOn 16 = .ok (.iaload, 1) := by decide +kernel
theorem dX7_casesOn_17 : decode cX7_casesOn 17 = .ok (.iload_n 1, 1) := by decide +kernel
theorem dX7_casesOn_18 : decode cX7_casesOn 18 = .ok (.if_icmp .ne 7, 3) := by decide +kernel
theorem dX7_casesOn_21 : decode cX7_casesOn 21 = .ok (.iconst 1, 1) := by decide +kernel
theorem dX7_casesOn_22 : decode cX7_casesOn 22 = .ok (.goto 4, 3) := by decide +kernel
theorem dX7_casesOn_25 : decode cX7_casesOn 25 = .ok (.iconst 0, 1) := by decide +kernel
theorem dX7_casesOn_26 : decode cX7_casesOn 26 = .ok (.iadd, 1) := by decide +kernel
theorem dX7_casesOn_27 : decode cX7_casesOn 27 = .ok (.istore_n 2, 1) := by decide +kernel
theorem dX7_casesOn_28 : decode cX7_casesOn 28 = .ok (.iinc 3 1, 3) := by decide +kernel
theorem dX7_casesOn_31 : decode cX7_casesOn 31 = .ok (.goto (-27), 3) := by decide +kernel
theorem dX7_casesOn_34 : decode cX7_casesOn 34 = .ok (.iload_n 2, 1) := by decide +kernel
theorem dX7_casesOn_35 : decode cX7_casesOn 35 = .ok (.ireturn, 1) := by decide +kernel
set_option maxRecDepth 20000 in
theorem ggX7_rule_X7_in : GoodIn wsX7_rule wsX7_in := goodIn_r _ [5] (by decide +kernel) (by decide +kernel)
set_option maxRecDepth 20000 in
theorem gX7_rule_X7_in : GoodIn wsX7_rule (va_wsS RX7 127 yX7_in wsX7_in) := goodIn_app (goodIn_of _ (by decide +kernel)) ggX7_rule_X7_in
set_option maxRecDepth 20000 in
theorem ggX7_rule_X7_units : GoodIn wsX7_rule wsX7_units := goodIn_r _ [9, 10, 11, 17, 18, 19, 20, 21, 22, 23, 24, 25, 26, 27, 28, 29, 30, 31, 32, 33, 34, 35, 36, 37, 38, 39, 40, 41, 42, 43, 44, 45, 46, 47, 48, 49, 50, 51, 52, 53, 54, 55, 56, 57, 58, 59] (by decide +kernel) (by decide +kernel)
set_option maxRecDepth 20000 in
theorem gX7_rule_X7_units : GoodIn wsX7_rule (wsV RX7 158 RX7 yX7_units wsX7_units) := goodIn_app (goodIn_of _ (by decide +kernel)) ggX7_rule_X7_units
set_option maxRecDepth 20000 in
theorem ggX7_rule_X7_casesOn : GoodIn wsX7_rule wsX7_casesOn := goodIn_r _ [15, 16, 17, 18, 19, 20, 21, 22, 23, 24, 25, 26, 27, 28, 29, 30, 31, 32, 33, 34, 35, 36, 37, 38, 39, 40, 41, 42, 43, 44, 45, 46, 47, 48, 49, 50, 51, 52, 53, 54, 55, 56, 57, 58, 59] (by decide +kernel) (by decide +kernel)
set_option maxRecDepth 20000 in
theorem gX7_rule_X7_casesOn : GoodIn wsX7_rule (wsV RX7 161 RX7 yX7_casesOn wsX7_casesOn) := goodIn_app (goodIn_of _ (by decide +kernel)) ggX7_rule_X7_casesOn
