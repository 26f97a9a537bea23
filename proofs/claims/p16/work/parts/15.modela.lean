theorem dX8_init_0 : decode cX8_init 0 = .ok (.aload_n 0, 1) := by decide +kernel
theorem dX8_init_1 : decode cX8_init 1 = .ok (.invokespecial 1, 3) := by decide +kernel
theorem dX8_init_4 : decode cX8_init 4 = .ok (.aload_n 0, 1) := by decide +kernel
theorem dX8_init_5 : decode cX8_init 5 = .ok (.iconst 2, 1) := by decide +kernel
theorem dX8_init_6 : decode cX8_init 6 = .ok (.newarray .int, 2) := by decide +kernel
theorem dX8_init_8 : decode cX8_init 8 = .ok (.dup, 1) := by decide +kernel
theorem dX8_init_9 : decode cX8_init 9 = .ok (.iconst 0, 1) := by decide +kernel
theorem dX8_init_10 : decode cX8_init 10 = .ok (.bipush 10, 2) := by decide +kernel
theorem dX8_init_12 : decode cX8_init 12 = .ok (.iastore, 1) := by decide +kernel
theorem dX8_init_13 : decode cX8_init 13 = .ok (.dup, 1) := by decide +kernel
theorem dX8_init_14 : decode cX8_init 14 = .ok (.iconst 1, 1) := by decide +kernel
theorem dX8_init_15 : decode cX8_init 15 = .ok (.bipush 20, 2) := by decide +kernel
theorem dX8_init_17 : decode cX8_init 17 = .ok (.iastore, 1) := by decide +kernel
theorem dX8_init_18 : decode cX8_init 18 = .ok (.putfield 7, 3) := by decide +kernel
theorem dX8_init_21 : decode cX8_init 21 = .ok (.aload_n 0, 1) := by decide +kernel
theorem dX8_init_22 : decode cX8_init 22 = .ok (.iconst 2, 1) := by decide +kernel
theorem dX8_init_23 : decode cX8_init 23 = .ok (.newarray .int, 2) := by decide +kernel
theorem dX8_init_25 : decode cX8_init 25 = .ok (.dup, 1) := by decide +kernel
theorem dX8_init_26 : decode cX8_init 26 = .ok (.iconst 0, 1) := by decide +kernel
theorem dX8_init_27 : decode cX8_init 27 = .ok (.bipush 8, 2) := by decide +kernel
theorem dX8_init_29 : decode cX8_init 29 = .ok (.iastore, 1) := by decide +kernel
theorem dX8_init_30 : decode cX8_init 30 = .ok (.dup, 1) := by decide +kernel
theorem dX8_init_31 : decode cX8_init 31 = .ok (.iconst 1, 1) := by decide +kernel
theorem dX8_init_32 : decode cX8_init 32 = .ok (.bipush 8, 2) := by decide +kernel
theorem dX8_init_34 : decode cX8_init 34 = .ok (.iastore, 1) := by decide +kernel
theorem dX8_init_35 : decode cX8_init 35 = .ok (.putfield 13, 3) := by decide +kernel
theorem dX8_init_38 : decode cX8_init 38 = .ok (.aload_n 0, 1) := by decide +kernel
theorem dX8_init_39 : decode cX8_init 39 = .ok (.bipush 16, 2) := by decide +kernel
theorem dX8_init_41 : decode cX8_init 41 = .ok (.newarray .int, 2) := by decide +kernel
theorem dX8_init_43 : decode cX8_init 43 = .ok (.putfield 16, 3) := by decide +kernel
theorem dX8_init_46 : decode cX8_init 46 = .ok (.aload_n 0, 1) := by decide +kernel
theorem dX8_init_47 : decode cX8_init 47 = .ok (.bipush 16, 2) := by decide +kernel
theorem dX8_init_49 : decode cX8_init 49 = .ok (.newarray .int, 2) := by decide +kernel
theorem dX8_init_51 : decode cX8_init 51 = .ok (.putfield 19, 3) := by decide +kernel
theorem dX8_init_54 : decode cX8_init 54 = .ok (.aload_n 0, 1) := by decide +kernel
theorem dX8_init_55 : decode cX8_init 55 = .ok (.bipush 16, 2) := by decide +kernel
theorem dX8_init_57 : decode cX8_init 57 = .ok (.newarray .boolean, 2) := by decide +kernel
theorem dX8_init_59 : decode cX8_init 59 = .ok (.putfield 22, 3) := by decide +kernel
theorem dX8_init_62 : decode cX8_init 62 = .ok (.aload_n 0, 1) := by decide +kernel
theorem dX8_init_63 : decode cX8_init 63 = .ok (.bipush 16, 2) := by decide +kernel
theorem dX8_init_65 : decode cX8_init 65 = .ok (.newarray .boolean, 2) := by decide +kernel
theorem dX8_init_67 : decode cX8_init 67 = .ok (.putfield 26, 3) := by decide +kernel
theorem dX8_init_70 : decode cX8_init 70 = .ok (.aload_n 0, 1) := by decide +kernel
theorem dX8_init_71 : decode cX8_init 71 = .ok (.bipush 16, 2) := by decide +kernel
theorem dX8_init_73 : decode cX8_init 73 = .ok (.newarray .int, 2) := by decide +kernel
theorem dX8_init_75 : decode cX8_init 75 = .ok (.putfield 29, 3) := by decide +kernel
theorem dX8_init_78 : decode cX8_init 78 = .ok (.aload_n 0, 1) := by decide +kernel
theorem dX8_init_79 : decode cX8_init 79 = .ok (.bipush 16, 2) := by decide +kernel
theorem dX8_init_81 : decode cX8_init 81 = .ok (.newarray .int, 2) := by decide +kernel
theorem dX8_init_83 : decode cX8_init 83 = .ok (.putfield 32, 3) := by decide +kernel
theorem dX8_init_86 : decode cX8_init 86 = .ok (.aload_n 0, 1) := by decide +kernel
theorem dX8_init_87 : decode cX8_init 87 = .ok (.bipush 16, 2) := by decide +kernel
theorem dX8_init_89 : decode cX8_init 89 = .ok (.newarray .int, 2) := by decide +kernel
theorem dX8_init_91 : decode cX8_init 91 = .ok (.putfield 35, 3) := by decide +kernel
theorem dX8_init_94 : decode cX8_init 94 = .ok (.aload_n 0, 1) := by decide +kernel
theorem dX8_init_95 : decode cX8_init 95 = .ok (.bipush 16, 2) := by decide +kernel
theorem dX8_init_97 : decode cX8_init 97 = .ok (.newarray .int, 2) := by decide +kernel
theorem dX8_init_99 : decode cX8_init 99 = .ok (.putfield 38, 3) := by decide +kernel
theorem dX8_init_102 : decode cX8_init 102 = .ok (.aload_n 0, 1) := by decide +kernel
theorem dX8_init_103 : decode cX8_init 103 = .ok (.bipush 16, 2) := by decide +kernel
theorem dX8_init_105 : decode cX8_init 105 = .ok (.newarray .int, 2) := by decide +kernel
theorem dX8_init_107 : decode cX8_init 107 = .ok (.putfield 41, 3) := by decide +kernel
theorem dX8_init_110 : decode cX8_init 110 = .ok (.aload_n 0, 1) := by decide +kernel
theorem dX8_init_111 : decode cX8_init 111 = .ok (.bipush 16, 2) := by decide +kernel
theorem dX8_init_113 : decode cX8_init 113 = .ok (.newarray .int, 2) := by decide +kernel
theorem dX8_init_115 : decode cX8_init 115 = .ok (.putfield 44, 3) := by decide +kernel
theorem dX8_init_118 : decode cX8_init 118 = .ok (.aload_n 0, 1) := by decide +kernel
theorem dX8_init_119 : decode cX8_init 119 = .ok (.bipush 16, 2) := by decide +kernel
theorem dX8_init_121 : decode cX8_init 121 = .ok (.newarray .boolean, 2) := by decide +kernel
theorem dX8_init_123 : decode cX8_init 123 = .ok (.putfield 47, 3) := by decide +kernel
theorem dX8_init_126 : decode cX8_init 126 = .ok (.aload_n 0, 1) := by decide +kernel
theorem dX8_init_127 : decode cX8_init 127 = .ok (.bipush 16, 2) := by decide +kernel
theorem dX8_init_129 : decode cX8_init 129 = .ok (.newarray .boolean, 2) := by decide +kernel
theorem dX8_init_131 : decode cX8_init 131 = .ok (.putfield 50, 3) := by decide +kernel
theorem dX8_init_134 : decode cX8_init 134 = .ok (.aload_n 0, 1) := by decide +kernel
theorem dX8_init_135 : decode cX8_init 135 = .ok (.bipush 16, 2) := by decide +kernel
theorem dX8_init_137 : decode cX8_init 137 = .ok (.newarray .boolean, 2) := by decide +kernel
theorem dX8_init_139 : decode cX8_init 139 = .ok (.putfield 53, 3) := by decide +kernel
theorem dX8_init_142 : decode cX8_init 142 = .ok (.aload_n 0, 1) := by decide +kernel
theorem dX8_init_143 : decode cX8_init 143 = .ok (.bipush 16, 2) := by decide +kernel
theorem dX8_init_145 : decode cX8_init 145 = .ok (.newarray .int, 2) := by decide +kernel
theorem dX8_init_147 : decode cX8_init 147 = .ok (.putfield 56, 3) := by decide +kernel
theorem dX8_init_150 : decode cX8_init 150 = .ok (.aload_n 0, 1) := by decide +kernel
theorem dX8_init_151 : decode cX8_init 151 = .ok (.bipush 16, 2) := by decide +kernel
theorem dX8_init_153 : decode cX8_init 153 = .ok (.newarray .int, 2) := by decide +kernel
theorem dX8_init_155 : decode cX8_init 155 = .ok (.putfield 59, 3) := by decide +kernel
theorem dX8_init_158 : decode cX8_init 158 = .ok (.aload_n 0, 1) := by decide +kernel
theorem dX8_init_159 : decode cX8_init 159 = .ok (.bipush 80, 2) := by decide +kernel
theorem dX8_init_161 : decode cX8_init 161 = .ok (.newarray .int, 2) := by decide +kernel
theorem dX8_init_163 : decode cX8_init 163 = .ok (.putfield 62, 3) := by decide +kernel
theorem dX8_init_166 : decode cX8_init 166 = .ok (.aload_n 0, 1) := by decide +kernel
theorem dX8_init_167 : decode cX8_init 167 = .ok (.bipush 48, 2) := by decide +kernel
theorem dX8_init_169 : decode cX8_init 169 = .ok (.newarray .int, 2) := by decide +kernel
theorem dX8_init_171 : decode cX8_init 171 = .ok (.putfield 65, 3) := by decide +kernel
theorem dX8_init_174 : decode cX8_init 174 = .ok (.aload_n 0, 1) := by decide +kernel
theorem dX8_init_175 : decode cX8_init 175 = .ok (.bipush 80, 2) := by decide +kernel
theorem dX8_init_177 : decode cX8_init 177 = .ok (.newarray .int, 2) := by decide +kernel
theorem dX8_init_179 : decode cX8_init 179 = .ok (.putfield 68, 3) := by decide +kernel
theorem dX8_init_182 : decode cX8_init 182 = .ok (.aload_n 0, 1) := by decide +kernel
theorem dX8_init_183 : decode cX8_init 183 = .ok (.bipush 16, 2) := by decide +kernel
theorem dX8_init_185 : decode cX8_init 185 = .ok (.newarray .int, 2) := by decide +kernel
theorem dX8_init_187 : decode cX8_init 187 = .ok (.putfield 71, 3) := by decide +kernel
theorem dX8_init_190 : decode cX8_init 190 = .ok (.aload_n 0, 1) := by decide +kernel
theorem dX8_init_191 : decode cX8_init 191 = .ok (.bipush 16, 2) := by decide +kernel
theorem dX8_init_193 : decode cX8_init 193 = .ok (.newarray .int, 2) := by decide +kernel
theorem dX8_init_195 : decode cX8_init 195 = .ok (.putfield 74, 3) := by decide +kernel
theorem dX8_init_198 : decode cX8_init 198 = .ok (.aload_n 0, 1) := by decide +kernel
theorem dX8_init_199 : decode cX8_init 199 = .ok (.bipush 8, 2) := by decide +kernel
theorem dX8_init_201 : decode cX8_init 201 = .ok (.newarray .int, 2) := by decide +kernel
theorem dX8_init_203 : decode cX8_init 203 = .ok (.putfield 77, 3) := by decide +kernel
theorem dX8_init_206 : decode cX8_init 206 = .ok (.aload_n 0, 1) := by decide +kernel
theorem dX8_init_207 : decode cX8_init 207 = .ok (.bipush 8, 2) := by decide +kernel
theorem dX8_init_209 : decode cX8_init 209 = .ok (.newarray .boolean, 2) := by decide +kernel
theorem dX8_init_211 : decode cX8_init 211 = .ok (.putfield 80, 3) := by decide +kernel
theorem dX8_init_214 : decode cX8_init 214 = .ok (.aload_n 0, 1) := by decide +kernel
theorem dX8_init_215 : decode cX8_init 215 = .ok (.bipush 8, 2) := by decide +kernel
theorem dX8_init_217 : decode cX8_init 217 = .ok (.newarray .boolean, 2) := by decide +kernel
theorem dX8_init_219 : decode cX8_init 219 = .ok (.putfield 83, 3) := by decide +kernel
theorem dX8_init_222 : decode cX8_init 222 = .ok (.aload_n 0, 1) := by decide +kernel
theorem dX8_init_223 : decode cX8_init 223 = .ok (.bipush 16, 2) := by decide +kernel
theorem dX8_init_225 : decode cX8_init 225 = .ok (.newarray .int, 2) := by decide +kernel
theorem dX8_init_227 : decode cX8_init 227 = .ok (.putfield 86, 3) := by decide +kernel
theorem dX8_init_230 : decode cX8_init 230 = .ok (.aload_n 0, 1) := by decide +kernel
theorem dX8_init_231 : decode cX8_init 231 = .ok (.sipush 4000, 3) := by decide +kernel
theorem dX8_init_234 : decode cX8_init 234 = .ok (.newarray .int, 2) := by decide +kernel
theorem dX8_init_236 : decode cX8_init 236 = .ok (.putfield 89, 3) := by decide +kernel
theorem dX8_init_239 : decode cX8_init 239 = .ok (.aload_n 0, 1) := by decide +kernel
theorem dX8_init_240 : decode cX8_init 240 = .ok (.sipush 4000, 3) := by decide +kernel
theorem dX8_init_243 : decode cX8_init 243 = .ok (.newarray .int, 2) := by decide +kernel
theorem dX8_init_245 : decode cX8_init 245 = .ok (.putfield 92, 3) := by decide +kernel
theorem dX8_init_248 : decode cX8_init 248 = .ok (.aload_n 0, 1) := by decide +kernel
theorem dX8_init_249 : decode cX8_init 249 = .ok (.sipush 4000, 3) := by decide +kernel
theorem dX8_init_252 : decode cX8_init 252 = .ok (.newarray .int, 2) := by decide +kernel
theorem dX8_init_254 : decode cX8_init 254 = .ok (.putfield 95, 3) := by decide +kernel
theorem dX8_init_257 : decode cX8_init 257 = .ok (.aload_n 0, 1) := by decide +kernel
theorem dX8_init_258 : decode cX8_init 258 = .ok (.sipush 4000, 3) := by decide +kernel
theorem dX8_init_261 : decode cX8_init 261 = .ok (.newarray .int, 2) := by decide +kernel
theorem dX8_init_263 : decode cX8_init 263 = .ok (.putfield 98, 3) := by decide +kernel
theorem dX8_init_266 : decode cX8_init 266 = .ok (.aload_n 0, 1) := by decide +kernel
theorem dX8_init_267 : decode cX8_init 267 = .ok (.ldc 101, 2) := by decide +kernel
theorem dX8_init_269 : decode cX8_init 269 = .ok (.newarray .int, 2) := by decide +kernel
theorem dX8_init_271 : decode cX8_init 271 = .ok (.putfield 102, 3) := by decide +kernel
theorem dX8_init_274 : decode cX8_init 274 = .ok (.aload_n 0, 1) := by decide +kernel
theorem dX8_init_275 : decode cX8_init 275 = .ok (.sipush 4200, 3) := by decide +kernel
theorem dX8_init_278 : decode cX8_init 278 = .ok (.newarray .int, 2) := by decide +kernel
theorem dX8_init_280 : decode cX8_init 280 = .ok (.putfield 105, 3) := by decide +kernel
theorem dX8_init_283 : decode cX8_init 283 = .ok (.aload_n 0, 1) := by decide +kernel
theorem dX8_init_284 : decode cX8_init 284 = .ok (.sipush 4200, 3) := by decide +kernel
theorem dX8_init_287 : decode cX8_init 287 = .ok (.newarray .int, 2) := by decide +kernel
theorem dX8_init_289 : decode cX8_init 289 = .ok (.putfield 108, 3) := by decide +kernel
theorem dX8_init_292 : decode cX8_init 292 = .ok (.aload_n 0, 1) := by decide +kernel
theorem dX8_init_293 : decode cX8_init 293 = .ok (.sipush 4200, 3) := by decide +kernel
theorem dX8_init_296 : decode cX8_init 296 = .ok (.newarray .int, 2) := by decide +kernel
theorem dX8_init_298 : decode cX8_init 298 = .ok (.putfield 111, 3) := by decide +kernel
theorem dX8_init_301 : decode cX8_init 301 = .ok (.aload_n 0, 1) := by decide +kernel
theorem dX8_init_302 : decode cX8_init 302 = .ok (.sipush 4200, 3) := by decide +kernel
theorem dX8_init_305 : decode cX8_init 305 = .ok (.newarray .int, 2) := by decide +kernel
theorem dX8_init_307 : decode cX8_init 307 = .ok (.putfield 114, 3) := by decide +kernel
theorem dX8_init_310 : decode cX8_init 310 = .ok (.aload_n 0, 1) := by decide +kernel
theorem dX8_init_311 : decode cX8_init 311 = .ok (.sipush 4200, 3) := by decide +kernel
theorem dX8_init_314 : decode cX8_init 314 = .ok (.newarray .int, 2) := by decide +kernel
theorem dX8_init_316 : decode cX8_init 316 = .ok (.putfield 117, 3) := by decide +kernel
theorem dX8_init_319 : decode cX8_init 319 = .ok (.aload_n 0, 1) := by decide +kernel
theorem dX8_init_320 : decode cX8_init 320 = .ok (.sipush 4200, 3) := by decide +kernel
theorem dX8_init_323 : decode cX8_init 323 = .ok (.newarray .boolean, 2) := by decide +kernel
theorem dX8_init_325 : decode cX8_init 325 = .ok (.putfield 120, 3) := by decide +kernel
theorem dX8_init_328 : decode cX8_init 328 = .ok (.aload_n 0, 1) := by decide +kernel
theorem dX8_init_329 : decode cX8_init 329 = .ok (.iconst 2, 1) := by decide +kernel
theorem dX8_init_330 : decode cX8_init 330 = .ok (.newarray .int, 2) := by decide +kernel
theorem dX8_init_332 : decode cX8_init 332 = .ok (.putfield 123, 3) := by decide +kernel
theorem dX8_init_335 : decode cX8_init 335 = .ok (.aload_n 0, 1) := by decide +kernel
theorem dX8_init_336 : decode cX8_init 336 = .ok (.sipush 400, 3) := by decide +kernel
theorem dX8_init_339 : decode cX8_init 339 = .ok (.newarray .int, 2) := by decide +kernel
theorem dX8_init_341 : decode cX8_init 341 = .ok (.putfield 126, 3) := by decide +kernel
theorem dX8_init_344 : decode cX8_init 344 = .ok (.aload_n 0, 1) := by decide +kernel
theorem dX8_init_345 : decode cX8_init 345 = .ok (.iconst 2, 1) := by decide +kernel
theorem dX8_init_346 : decode cX8_init 346 = .ok (.newarray .int, 2) := by decide +kernel
theorem dX8_init_348 : decode cX8_init 348 = .ok (.putfield 129, 3) := by decide +kernel
theorem dX8_init_351 : decode cX8_init 351 = .ok (.iconst 0, 1) := by decide +kernel
theorem dX8_init_352 : decode cX8_init 352 = .ok (.istore_n 1, 1) := by decide +kernel
theorem dX8_init_353 : decode cX8_init 353 = .ok (.iload_n 1, 1) := by decide +kernel
theorem dX8_init_354 : decode cX8_init 354 = .ok (.bipush 16, 2) := by decide +kernel
theorem dX8_init_356 : decode cX8_init 356 = .ok (.if_icmp .ge 38, 3) := by decide +kernel
theorem dX8_init_359 : decode cX8_init 359 = .ok (.aload_n 0, 1) := by decide +kernel
theorem dX8_init_360 : decode cX8_init 360 = .ok (.getfield 19, 3) := by decide +kernel
theorem dX8_init_363 : decode cX8_init 363 = .ok (.iload_n 1, 1) := by decide +kernel
theorem dX8_init_364 : decode cX8_init 364 = .ok (.bipush 100, 2) := by decide +kernel
theorem dX8_init_366 : decode cX8_init 366 = .ok (.iastore, 1) := by decide +kernel
theorem dX8_init_367 : decode cX8_init 367 = .ok (.aload_n 0, 1) := by decide +kernel
theorem dX8_init_368 : decode cX8_init 368 = .ok (.getfield 41, 3) := by decide +kernel
theorem dX8_init_371 : decode cX8_init 371 = .ok (.iload_n 1, 1) := by decide +kernel
theorem dX8_init_372 : decode cX8_init 372 = .ok (.iconst (-1), 1) := by decide +kernel
theorem dX8_init_373 : decode cX8_init 373 = .ok (.iastore, 1) := by decide +kernel
theorem dX8_init_374 : decode cX8_init 374 = .ok (.aload_n 0, 1) := by decide +kernel
theorem dX8_init_375 : decode cX8_init 375 = .ok (.getfield 44, 3) := by decide +kernel
theorem dX8_init_378 : decode cX8_init 378 = .ok (.iload_n 1, 1) := by decide +kernel
theorem dX8_init_379 : decode cX8_init 379 = .ok (.iconst (-1), 1) := by decide +kernel
theorem dX8_init_380 : decode cX8_init 380 = .ok (.iastore, 1) := by decide +kernel
theorem dX8_init_381 : decode cX8_init 381 = .ok (.aload_n 0, 1) := by decide +kernel
theorem dX8_init_382 : decode cX8_init 382 = .ok (.getfield 71, 3) := by decide +kernel
theorem dX8_init_385 : decode cX8_init 385 = .ok (.iload_n 1, 1) := by decide +kernel
theorem dX8_init_386 : decode cX8_init 386 = .ok (.iconst (-1), 1) := by decide +kernel
theorem dX8_init_387 : decode cX8_init 387 = .ok (.iastore, 1) := by decide +kernel
theorem dX8_init_388 : decode cX8_init 388 = .ok (.iinc 1 1, 3) := by decide +kernel
theorem dX8_init_391 : decode cX8_init 391 = .ok (.goto (-38), 3) := by decide +kernel
theorem dX8_init_394 : decode cX8_init 394 = .ok (.return_, 1) := by decide +kernel
noncomputable def bX8_init_0 (Q : Option Value → MM → Prop) (nx : Nat → Kt) : Kt := ldA 0 (oI (ldA 0 (cI 2 (nA 10 40 82128 (du (cI 0 (cI 10 (sAI (du (cI 1 (cI 20 (sAI (tF 8 1 (ldA 0 (cI 2 (nA 10 40 82128 (du (cI 0 (cI 8 (sAI (du (cI 1 (cI 8 (sAI (tF 8 2 (ldA 0 (cI 16 (nA 10 40 82128 (tF 8 3 (ldA 0 (cI 16 (nA 10 40 82128 (tF 8 4 (ldA 0 (cI 16 (nA 11 40 82128 (tF 8 5 (ldA 0 (cI 16 (nA 11 40 82128 (tF 8 6 (ldA 0 (cI 16 (nA 10 40 82128 (nx 75)))))))))))))))))))))))))))))))))))))))))))))
noncomputable def bX8_init_75 (Q : Option Value → MM → Prop) (nx : Nat → Kt) : Kt := tF 8 7 (ldA 0 (cI 16 (nA 10 40 82128 (tF 8 8 (ldA 0 (cI 16 (nA 10 40 82128 (tF 8 9 (ldA 0 (cI 16 (nA 10 40 82128 (tF 8 10 (ldA 0 (cI 16 (nA 10 40 82128 (tF 8 11 (ldA 0 (cI 16 (nA 10 40 82128 (tF 8 12 (ldA 0 (cI 16 (nA 11 40 82128 (tF 8 13 (ldA 0 (cI 16 (nA 11 40 82128 (tF 8 14 (ldA 0 (cI 16 (nA 11 40 82128 (tF 8 15 (ldA 0 (cI 16 (nA 10 40 82128 (tF 8 16 (ldA 0 (cI 16 (nA 10 40 82128 (tF 8 17 (ldA 0 (cI 80 (nA 10 40 82128 (tF 8 18 (nx 166)))))))))))))))))))))))))))))))))))))))))))))
noncomputable def bX8_init_166 (Q : Option Value → MM → Prop) (nx : Nat → Kt) : Kt := ldA 0 (cI 48 (nA 10 40 82128 (tF 8 19 (ldA 0 (cI 80 (nA 10 40 82128 (tF 8 20 (ldA 0 (cI 16 (nA 10 40 82128 (tF 8 21 (ldA 0 (cI 16 (nA 10 40 82128 (tF 8 22 (ldA 0 (cI 8 (nA 10 40 82128 (tF 8 23 (ldA 0 (cI 8 (nA 11 40 82128 (tF 8 24 (ldA 0 (cI 8 (nA 11 40 82128 (tF 8 25 (ldA 0 (cI 16 (nA 10 40 82128 (tF 8 26 (ldA 0 (cI 4000 (nA 10 40 82128 (tF 8 27 (ldA 0 (cI 4000 (nA 10 40 82128 (tF 8 28 (ldA 0 (cI 4000 (nA 10 40 82128 (tF 8 29 (ldA 0 (nx 258)))))))))))))))))))))))))))))))))))))))))))))
noncomputable def bX8_init_258 (Q : Option Value → MM → Prop) (nx : Nat → Kt) : Kt := cI 4000 (nA 10 40 82128 (tF 8 30 (ldA 0 (cI 40000 (nA 10 40 82128 (tF 8 31 (ldA 0 (cI 4200 (nA 10 40 82128 (tF 8 33 (ldA 0 (cI 4200 (nA 10 40 82128 (tF 8 34 (ldA 0 (cI 4200 (nA 10 40 82128 (tF 8 35 (ldA 0 (cI 4200 (nA 10 40 82128 (tF 8 36 (ldA 0 (cI 4200 (nA 10 40 82128 (tF 8 37 (ldA 0 (cI 4200 (nA 11 40 82128 (tF 8 38 (ldA 0 (cI 2 (nA 10 40 82128 (tF 8 40 (ldA 0 (cI 400 (nA 10 40 82128 (tF 8 41 (ldA 0 (cI 2 (nA 10 40 82128 (tF 8 42 (cI 0 (stI 1 (nx 353)))))))))))))))))))))))))))))))))))))))))))))
noncomputable def bX8_init_353 (Q : Option Value → MM → Prop) (nx : Nat → Kt) : Kt := ldI 1 (cI 16 (ifc (fun x y => y ≤ x) (nx 394) (ldA 0 (gR 8 4 (ldI 1 (cI 100 (sAI (ldA 0 (gR 8 11 (ldI 1 (cI (-1) (sAI (ldA 0 (gR 8 12 (ldI 1 (cI (-1) (sAI (ldA 0 (gR 8 21 (ldI 1 (cI (-1) (sAI (inc 1 1 (nx 353))))))))))))))))))))))))
noncomputable def bX8_init_394 (Q : Option Value → MM → Prop) (nx : Nat → Kt) : Kt := rV Q
noncomputable def kX8_init (Q : Option Value → MM → Prop) (nx : Nat → Kt) : Nat → Kt := bse [(0, bX8_init_0 Q nx), (75, bX8_init_75 Q nx), (166, bX8_init_166 Q nx), (258, bX8_init_258 Q nx), (353, bX8_init_353 Q nx), (394, bX8_init_394 Q nx)]
abbrev rX8_init : Room := { frames := 1, cells := 40, slots := 82128, locals := 20 }
noncomputable def wX8_init : Mw := mw 2 kX8_init
set_option maxRecDepth 20000 in
theorem oX8_init_0 {T : Ct} {Q : Option Value → MM → Prop} (C : Cx T cX8_init 2 RX8 40 82128) (CR : CxR T 1 20) (hr : T.2.2.2.2.2.2.2.2.1.sig.returnType = none) (hnm : T.2.2.2.2.2.2.2.2.1.name = "<init>") {nx : Nat → Kt} (hn : ∀ pc, Sd T 2 (QT T Q 40 82128) 40 82128 pc (nx pc)) : Sd T 2 (QT T Q 40 82128) 40 82128 0 (bX8_init_0 Q nx) := x_al_n C dX8_init_0 rfl (x_oI C CR (by decide) (by decide) ml_X8_1 im_obj co_obj dX8_init_1 (x_al_n C dX8_init_4 rfl (x_ic C dX8_init_5 (by decide) (x_newI C ac_int dX8_init_6 (x_dup C dX8_init_8 (x_ic C dX8_init_9 (by decide) (x_bp C dX8_init_10 (by decide) (x_iast C dX8_init_12 (x_dup C dX8_init_13 (x_ic C dX8_init_14 (by decide) (x_bp C dX8_init_15 (by decide) (x_iast C dX8_init_17 (pf_X8_7 C hnm dX8_init_18 (x_al_n C dX8_init_21 rfl (x_ic C dX8_init_22 (by decide) (x_newI C ac_int dX8_init_23 (x_dup C dX8_init_25 (x_ic C dX8_init_26 (by decide) (x_bp C dX8_init_27 (by decide) (x_iast C dX8_init_29 (x_dup C dX8_init_30 (x_ic C dX8_init_31 (by decide) (x_bp C dX8_init_32 (by decide) (x_iast C dX8_init_34 (pf_X8_13 C hnm dX8_init_35 (x_al_n C dX8_init_38 rfl (x_bp C dX8_init_39 (by decide) (x_newI C ac_int dX8_init_41 (pf_X8_16 C hnm dX8_init_43 (x_al_n C dX8_init_46 rfl (x_bp C dX8_init_47 (by decide) (x_newI C ac_int dX8_init_49 (pf_X8_19 C hnm dX8_init_51 (x_al_n C dX8_init_54 rfl (x_bp C dX8_init_55 (by decide) (x_newZ C ac_boolean dX8_init_57 (pf_X8_22 C hnm dX8_init_59 (x_al_n C dX8_init_62 rfl (x_bp C dX8_init_63 (by decide) (x_newZ C ac_boolean dX8_init_65 (pf_X8_26 C hnm dX8_init_67 (x_al_n C dX8_init_70 rfl (x_bp C dX8_init_71 (by decide) (x_newI C ac_int dX8_init_73 (hn 75)))))))))))))))))))))))))))))))))))))))))))))
set_option maxRecDepth 20000 in
theorem oX8_init_75 {T : Ct} {Q : Option Value → MM → Prop} (C : Cx T cX8_init 2 RX8 40 82128) (CR : CxR T 1 20) (hr : T.2.2.2.2.2.2.2.2.1.sig.returnType = none) (hnm : T.2.2.2.2.2.2.2.2.1.name = "<init>") {nx : Nat → Kt} (hn : ∀ pc, Sd T 2 (QT T Q 40 82128) 40 82128 pc (nx pc)) : Sd T 2 (QT T Q 40 82128) 40 82128 75 (bX8_init_75 Q nx) := pf_X8_29 C hnm dX8_init_75 (x_al_n C dX8_init_78 rfl (x_bp C dX8_init_79 (by decide) (x_newI C ac_int dX8_init_81 (pf_X8_32 C hnm dX8_init_83 (x_al_n C dX8_init_86 rfl (x_bp C dX8_init_87 (by decide) (x_newI C ac_int dX8_init_89 (pf_X8_35 C hnm dX8_init_91 (x_al_n C dX8_init_94 rfl (x_bp C dX8_init_95 (by decide) (x_newI C ac_int dX8_init_97 (pf_X8_38 C hnm dX8_init_99 (x_al_n C dX8_init_102 rfl (x_bp C dX8_init_103 (by decide) (x_newI C ac_int dX8_init_105 (pf_X8_41 C hnm dX8_init_107 (x_al_n C dX8_init_110 rfl (x_bp C dX8_init_111 (by decide) (x_newI C ac_int dX8_init_113 (pf_X8_44 C hnm dX8_init_115 (x_al_n C dX8_init_118 rfl (x_bp C dX8_init_119 (by decide) (x_newZ C ac_boolean dX8_init_121 (pf_X8_47 C hnm dX8_init_123 (x_al_n C dX8_init_126 rfl (x_bp C dX8_init_127 (by decide) (x_newZ C ac_boolean dX8_init_129 (pf_X8_50 C hnm dX8_init_131 (x_al_n C dX8_init_134 rfl (x_bp C dX8_init_135 (by decide) (x_newZ C ac_boolean dX8_init_137 (pf_X8_53 C hnm dX8_init_139 (x_al_n C dX8_init_142 rfl (x_bp C dX8_init_143 (by decide) (x_newI C ac_int dX8_init_145 (pf_X8_56 C hnm dX8_init_147 (x_al_n C dX8_init_150 rfl (x_bp C dX8_init_151 (by decide) (x_newI C ac_int dX8_init_153 (pf_X8_59 C hnm dX8_init_155 (x_al_n C dX8_init_158 rfl (x_bp C dX8_init_159 (by decide) (x_newI C ac_int dX8_init_161 (pf_X8_62 C hnm dX8_init_163 (hn 166)))))))))))))))))))))))))))))))))))))))))))))
set_option maxRecDepth 20000 in
theorem oX8_init_166 {T : Ct} {Q : Option Value → MM → Prop} (C : Cx T cX8_init 2 RX8 40 82128) (CR : CxR T 1 20) (hr : T.2.2.2.2.2.2.2.2.1.sig.returnType = none) (hnm : T.2.2.2.2.2.2.2.2.1.name = "<init>") {nx : Nat → Kt} (hn : ∀ pc, Sd T 2 (QT T Q 40 82128) 40 82128 pc (nx pc)) : Sd T 2 (QT T Q 40 82128) 40 82128 166 (bX8_init_166 Q nx) := x_al_n C dX8_init_166 rfl (x_bp C dX8_init_167 (by decide) (x_newI C ac_int dX8_init_169 (pf_X8_65 C hnm dX8_init_171 (x_al_n C dX8_init_174 rfl (x_bp C dX8_init_175 (by decide) (x_newI C ac_int dX8_init_177 (pf_X8_68 C hnm dX8_init_179 (x_al_n C dX8_init_182 rfl (x_bp C dX8_init_183 (by decide) (x_newI C ac_int dX8_init_185 (pf_X8_71 C hnm dX8_init_187 (x_al_n C dX8_init_190 rfl (x_bp C dX8_init_191 (by decide) (x_newI C ac_int dX8_init_193 (pf_X8_74 C hnm dX8_init_195 (x_al_n C dX8_init_198 rfl (x_bp C dX8_init_199 (by decide) (x_newI C ac_int dX8_init_201 (pf_X8_77 C hnm dX8_init_203 (x_al_n C dX8_init_206 rfl (x_bp C dX8_init_207 (by decide) (x_newZ C ac_boolean dX8_init_209 (pf_X8_80 C hnm dX8_init_211 (x_al_n C dX8_init_214 rfl (x_bp C dX8_init_215 (by decide) (x_newZ C ac_boolean dX8_init_217 (pf_X8_83 C hnm dX8_init_219 (x_al_n C dX8_init_222 rfl (x_bp C dX8_init_223 (by decide) (x_newI C ac_int dX8_init_225 (pf_X8_86 C hnm dX8_init_227 (x_al_n C dX8_init_230 rfl (x_sp C dX8_init_231 (by decide) (x_newI C ac_int dX8_init_234 (pf_X8_89 C hnm dX8_init_236 (x_al_n C dX8_init_239 rfl (x_sp C dX8_init_240 (by decide) (x_newI C ac_int dX8_init_243 (pf_X8_92 C hnm dX8_init_245 (x_al_n C dX8_init_248 rfl (x_sp C dX8_init_249 (by decide) (x_newI C ac_int dX8_init_252 (pf_X8_95 C hnm dX8_init_254 (x_al_n C dX8_init_257 rfl (hn 258)))))))))))))))))))))))))))))))))))))))))))))
set_option maxRecDepth 20000 in
theorem oX8_init_258 {T : Ct} {Q : Option Value → MM → Prop} (C : Cx T cX8_init 2 RX8 40 82128) (CR : CxR T 1 20) (hr : T.2.2.2.2.2.2.2.2.1.sig.returnType = none) (hnm : T.2.2.2.2.2.2.2.2.1.name = "<init>") {nx : Nat → Kt} (hn : ∀ pc, Sd T 2 (QT T Q 40 82128) 40 82128 pc (nx pc)) : Sd T 2 (QT T Q 40 82128) 40 82128 258 (bX8_init_258 Q nx) := x_sp C dX8_init_258 (by decide) (x_newI C ac_int dX8_init_261 (pf_X8_98 C hnm dX8_init_263 (x_al_n C dX8_init_266 rfl (x_lc C ct_X8_101 dX8_init_267 (x_newI C ac_int dX8_init_269 (pf_X8_102 C hnm dX8_init_271 (x_al_n C dX8_init_274 rfl (x_sp C dX8_init_275 (by decide) (x_newI C ac_int dX8_init_278 (pf_X8_105 C hnm dX8_init_280 (x_al_n C dX8_init_283 rfl (x_sp C dX8_init_284 (by decide) (x_newI C ac_int dX8_init_287 (pf_X8_108 C hnm dX8_init_289 (x_al_n C dX8_init_292 rfl (x_sp C dX8_init_293 (by decide) (x_newI C ac_int dX8_init_296 (pf_X8_111 C hnm dX8_init_298 (x_al_n C dX8_init_301 rfl (x_sp C dX8_init_302 (by decide) (x_newI C ac_int dX8_init_305 (pf_X8_114 C hnm dX8_init_307 (x_al_n C dX8_init_310 rfl (x_sp C dX8_init_311 (by decide) (x_newI C ac_int dX8_init_314 (pf_X8_117 C hnm dX8_init_316 (x_al_n C dX8_init_319 rfl (x_sp C dX8_init_320 (by decide) (x_newZ C ac_boolean dX8_init_323 (pf_X8_120 C hnm dX8_init_325 (x_al_n C dX8_init_328 rfl (x_ic C dX8_init_329 (by decide) (x_newI C ac_int dX8_init_330 (pf_X8_123 C hnm dX8_init_332 (x_al_n C dX8_init_335 rfl (x_sp C dX8_init_336 (by decide) (x_newI C ac_int dX8_init_339 (pf_X8_126 C hnm dX8_init_341 (x_al_n C dX8_init_344 rfl (x_ic C dX8_init_345 (by decide) (x_newI C ac_int dX8_init_346 (pf_X8_129 C hnm dX8_init_348 (x_ic C dX8_init_351 (by decide) (x_is_n C dX8_init_352 rfl (by decide) (hn 353)))))))))))))))))))))))))))))))))))))))))))))
set_option maxRecDepth 20000 in
theorem oX8_init_353 {T : Ct} {Q : Option Value → MM → Prop} (C : Cx T cX8_init 2 RX8 40 82128) (CR : CxR T 1 20) (hr : T.2.2.2.2.2.2.2.2.1.sig.returnType = none) (hnm : T.2.2.2.2.2.2.2.2.1.name = "<init>") {nx : Nat → Kt} (hn : ∀ pc, Sd T 2 (QT T Q 40 82128) 40 82128 pc (nx pc)) : Sd T 2 (QT T Q 40 82128) 40 82128 353 (bX8_init_353 Q nx) := x_il_n C dX8_init_353 rfl (x_bp C dX8_init_354 (by decide) (x_ic_ge C (hn 394) dX8_init_356 (by decide) (x_al_n C dX8_init_359 rfl (gf_X8_19 C dX8_init_360 (x_il_n C dX8_init_363 rfl (x_bp C dX8_init_364 (by decide) (x_iast C dX8_init_366 (x_al_n C dX8_init_367 rfl (gf_X8_41 C dX8_init_368 (x_il_n C dX8_init_371 rfl (x_ic C dX8_init_372 (by decide) (x_iast C dX8_init_373 (x_al_n C dX8_init_374 rfl (gf_X8_44 C dX8_init_375 (x_il_n C dX8_init_378 rfl (x_ic C dX8_init_379 (by decide) (x_iast C dX8_init_380 (x_al_n C dX8_init_381 rfl (gf_X8_71 C dX8_init_382 (x_il_n C dX8_init_385 rfl (x_ic C dX8_init_386 (by decide) (x_iast C dX8_init_387 (x_inc C dX8_init_388 (by decide) (by decide) (x_goto C (hn 353) dX8_init_391 (by decide)))))))))))))))))))))))))
set_option maxRecDepth 20000 in
theorem oX8_init_394 {T : Ct} {Q : Option Value → MM → Prop} (C : Cx T cX8_init 2 RX8 40 82128) (CR : CxR T 1 20) (hr : T.2.2.2.2.2.2.2.2.1.sig.returnType = none) (hnm : T.2.2.2.2.2.2.2.2.1.name = "<init>") {nx : Nat → Kt} (hn : ∀ pc, Sd T 2 (QT T Q 40 82128) 40 82128 pc (nx pc)) : Sd T 2 (QT T Q 40 82128) 40 82128 394 (bX8_init_394 Q nx) := x_rV C hr dX8_init_394
set_option maxRecDepth 20000 in
theorem mX8_init (l : Launch) (D : va_G) (cA : Nat → ClassId) (base : Nat) : Mc l D cA base yX8_init cX8_init 2 none rX8_init wX8_init := mc_of (by decide +kernel) kX8_init (fun T Q C CR hr hnm nx hn => bse_ok _ (List.forall_mem_cons.mpr ⟨oX8_init_0 C CR hr hnm hn, List.forall_mem_cons.mpr ⟨oX8_init_75 C CR hr hnm hn, List.forall_mem_cons.mpr ⟨oX8_init_166 C CR hr hnm hn, List.forall_mem_cons.mpr ⟨oX8_init_258 C CR hr hnm hn, List.forall_mem_cons.mpr ⟨oX8_init_353 C CR hr hnm hn, List.forall_mem_cons.mpr ⟨oX8_init_394 C CR hr hnm hn, fun _ h => nomatch h⟩⟩⟩⟩⟩⟩))
theorem dX8_isEnd_0 : decode cX8_isEnd 0 = .ok (.iload_n 0, 1) := by decide +kernel
theorem dX8_isEnd_1 : decode cX8_isEnd 1 = .ok (.ifCond .eq 8, 3) := by decide +kernel
theorem dX8_isEnd_4 : decode cX8_isEnd 4 = .ok (.iload_n 0, 1) := by decide +kernel
theorem dX8_isEnd_5 : decode cX8_isEnd 5 = .ok (.iconst 1, 1) := by decide +kernel
theorem dX8_isEnd_6 : decode cX8_isEnd 6 = .ok (.if_icmp .ne 7, 3) := by decide +kernel
theorem dX8_isEnd_9 : decode cX8_isEnd 9 = .ok (.iconst 1, 1) := by decide +kernel
theorem dX8_isEnd_10 : decode cX8_isEnd 10 = .ok (.goto 4, 3) := by decide +kernel
theorem dX8_isEnd_13 : decode cX8_isEnd 13 = .ok (.iconst 0, 1) := by decide +kernel
theorem dX8_isEnd_14 : decode cX8_isEnd 14 = .ok (.ireturn, 1) := by decide +kernel
noncomputable def bX8_isEnd_0 (Q : Option Value → MM → Prop) (nx : Nat → Kt) : Kt := ldI 0 (ifz (fun x => x = 0) (nx 9) (ldI 0 (cI 1 (ifc (fun x y => x = y) (nx 9) (nx 13)))))
noncomputable def bX8_isEnd_9 (Q : Option Value → MM → Prop) (nx : Nat → Kt) : Kt := cI 1 (nx 14)
noncomputable def bX8_isEnd_13 (Q : Option Value → MM → Prop) (nx : Nat → Kt) : Kt := cI 0 (nx 14)
noncomputable def bX8_isEnd_14 (Q : Option Value → MM → Prop) (nx : Nat → Kt) : Kt := rZ Q
noncomputable def kX8_isEnd (Q : Option Value → MM → Prop) (nx : Nat → Kt) : Nat → Kt := bse [(0, bX8_isEnd_0 Q nx), (9, bX8_isEnd_9 Q nx), (13, bX8_isEnd_13 Q nx), (14, bX8_isEnd_14 Q nx)]
abbrev rX8_isEnd : Room := { frames := 0, cells := 0, slots := 0, locals := 0 }
noncomputable def wX8_isEnd : Mw := mw 1 kX8_isEnd
set_option maxRecDepth 20000 in
theorem oX8_isEnd_0 {T : Ct} {Q : Option Value → MM → Prop} (C : Cx T cX8_isEnd 1 RX8 0 0) (CR : CxR T 0 0) (hr : T.2.2.2.2.2.2.2.2.1.sig.returnType = (some .boolean)) (hnm : T.2.2.2.2.2.2.2.2.1.name = "isEnd") {nx : Nat → Kt} (hn : ∀ pc, Sd T 1 (QT T Q 0 0) 0 0 pc (nx pc)) : Sd T 1 (QT T Q 0 0) 0 0 0 (bX8_isEnd_0 Q nx) := x_il_n C dX8_isEnd_0 rfl (x_if_eq C (hn 9) dX8_isEnd_1 (by decide) (x_il_n C dX8_isEnd_4 rfl (x_ic C dX8_isEnd_5 (by decide) (x_ic_ne C (hn 13) dX8_isEnd_6 (by decide) (hn 9)))))
set_option maxRecDepth 20000 in
theorem oX8_isEnd_9 {T : Ct} {Q : Option Value → MM → Prop} (C : Cx T cX8_isEnd 1 RX8 0 0) (CR : CxR T 0 0) (hr : T.2.2.2.2.2.2.2.2.1.sig.returnType = (some .boolean)) (hnm : T.2.2.2.2.2.2.2.2.1.name = "isEnd") {nx : Nat → Kt} (hn : ∀ pc, Sd T 1 (QT T Q 0 0) 0 0 pc (nx pc)) : Sd T 1 (QT T Q 0 0) 0 0 9 (bX8_isEnd_9 Q nx) := x_ic C dX8_isEnd_9 (by decide) (x_goto C (hn 14) dX8_isEnd_10 (by decide))
set_option maxRecDepth 20000 in
theorem oX8_isEnd_13 {T : Ct} {Q : Option Value → MM → Prop} (C : Cx T cX8_isEnd 1 RX8 0 0) (CR : CxR T 0 0) (hr : T.2.2.2.2.2.2.2.2.1.sig.returnType = (some .boolean)) (hnm : T.2.2.2.2.2.2.2.2.1.name = "isEnd") {nx : Nat → Kt} (hn : ∀ pc, Sd T 1 (QT T Q 0 0) 0 0 pc (nx pc)) : Sd T 1 (QT T Q 0 0) 0 0 13 (bX8_isEnd_13 Q nx) := x_ic C dX8_isEnd_13 (by decide) (hn 14)
set_option maxRecDepth 20000 in
theorem oX8_isEnd_14 {T : Ct} {Q : Option Value → MM → Prop} (C : Cx T cX8_isEnd 1 RX8 0 0) (CR : CxR T 0 0) (hr : T.2.2.2.2.2.2.2.2.1.sig.returnType = (some .boolean)) (hnm : T.2.2.2.2.2.2.2.2.1.name = "isEnd") {nx : Nat → Kt} (hn : ∀ pc, Sd T 1 (QT T Q 0 0) 0 0 pc (nx pc)) : Sd T 1 (QT T Q 0 0) 0 0 14 (bX8_isEnd_14 Q nx) := x_rZ C hr dX8_isEnd_14
set_option maxRecDepth 20000 in
theorem mX8_isEnd (l : Launch) (D : va_G) (cA : Nat → ClassId) (base : Nat) : Mc l D cA base yX8_isEnd cX8_isEnd 1 (some .boolean) rX8_isEnd wX8_isEnd := mc_of (by decide +kernel) kX8_isEnd (fun T Q C CR hr hnm nx hn => bse_ok _ (List.forall_mem_cons.mpr ⟨oX8_isEnd_0 C CR hr hnm hn, List.forall_mem_cons.mpr ⟨oX8_isEnd_9 C CR hr hnm hn, List.forall_mem_cons.mpr ⟨oX8_isEnd_13 C CR hr hnm hn, List.forall_mem_cons.mpr ⟨oX8_isEnd_14 C CR hr hnm hn, fun _ h => nomatch h⟩⟩⟩⟩))
theorem dX8_isPort_0 : decode cX8_isPort 0 = .ok (.iload_n 0, 1) := by decide +kernel
theorem dX8_isPort_1 : decode cX8_isPort 1 = .ok (.ifCond .lt 13, 3) := by decide +kernel
theorem dX8_isPort_4 : decode cX8_isPort 4 = .ok (.iload_n 0, 1) := by decide +kernel
theorem dX8_isPort_5 : decode cX8_isPort 5 = .ok (.bipush 8, 2) := by decide +kernel
theorem dX8_isPort_7 : decode cX8_isPort 7 = .ok (.if_icmp .ge 7, 3) := by decide +kernel
theorem dX8_isPort_10 : decode cX8_isPort 10 = .ok (.iconst 1, 1) := by decide +kernel
theorem dX8_isPort_11 : decode cX8_isPort 11 = .ok (.goto 4, 3) := by decide +kernel
theorem dX8_isPort_14 : decode cX8_isPort 14 = .ok (.iconst 0, 1) := by decide +kernel
theorem dX8_isPort_15 : decode cX8_isPort 15 = .ok (.ireturn, 1) := by decide +kernel
noncomputable def bX8_isPort_0 (Q : Option Value → MM → Prop) (nx : Nat → Kt) : Kt := ldI 0 (ifz (fun x => x < 0) (nx 14) (ldI 0 (cI 8 (ifc (fun x y => y ≤ x) (nx 14) (cI 1 (nx 15))))))
noncomputable def bX8_isPort_14 (Q : Option Value → MM → Prop) (nx : Nat → Kt) : Kt := cI 0 (nx 15)
noncomputable def bX8_isPort_15 (Q : Option Value → MM → Prop) (nx : Nat → Kt) : Kt := rZ Q
noncomputable def kX8_isPort (Q : Option Value → MM → Prop) (nx : Nat → Kt) : Nat → Kt := bse [(0, bX8_isPort_0 Q nx), (14, bX8_isPort_14 Q nx), (15, bX8_isPort_15 Q nx)]
abbrev rX8_isPort : Room := { frames := 0, cells := 0, slots := 0, locals := 0 }
noncomputable def wX8_isPort : Mw := mw 1 kX8_isPort
set_option maxRecDepth 20000 in
theorem oX8_isPort_0 {T : Ct} {Q : Option Value → MM → Prop} (C : Cx T cX8_isPort 1 RX8 0 0) (CR : CxR T 0 0) (hr : T.2.2.2.2.2.2.2.2.1.sig.returnType = (some .boolean)) (hnm : T.2.2.2.2.2.2.2.2.1.name = "isPort") {nx : Nat → Kt} (hn : ∀ pc, Sd T 1 (QT T Q 0 0) 0 0 pc (nx pc)) : Sd T 1 (QT T Q 0 0) 0 0 0 (bX8_isPort_0 Q nx) := x_il_n C dX8_isPort_0 rfl (x_if_lt C (hn 14) dX8_isPort_1 (by decide) (x_il_n C dX8_isPort_4 rfl (x_bp C dX8_isPort_5 (by decide) (x_ic_ge C (hn 14) dX8_isPort_7 (by decide) (x_ic C dX8_isPort_10 (by decide) (x_goto C (hn 15) dX8_isPort_11 (by decide)))))))
set_option maxRecDepth 20000 in
theorem oX8_isPort_14 {T : Ct} {Q : Option Value → MM → Prop} (C : Cx T cX8_isPort 1 RX8 0 0) (CR : CxR T 0 0) (hr : T.2.2.2.2.2.2.2.2.1.sig.returnType = (some .boolean)) (hnm : T.2.2.2.2.2.2.2.2.1.name = "isPort") {nx : Nat → Kt} (hn : ∀ pc, Sd T 1 (QT T Q 0 0) 0 0 pc (nx pc)) : Sd T 1 (QT T Q 0 0) 0 0 14 (bX8_isPort_14 Q nx) := x_ic C dX8_isPort_14 (by decide) (hn 15)
set_option maxRecDepth 20000 in
theorem oX8_isPort_15 {T : Ct} {Q : Option Value → MM → Prop} (C : Cx T cX8_isPort 1 RX8 0 0) (CR : CxR T 0 0) (hr : T.2.2.2.2.2.2.2.2.1.sig.returnType = (some .boolean)) (hnm : T.2.2.2.2.2.2.2.2.1.name = "isPort") {nx : Nat → Kt} (hn : ∀ pc, Sd T 1 (QT T Q 0 0) 0 0 pc (nx pc)) : Sd T 1 (QT T Q 0 0) 0 0 15 (bX8_isPort_15 Q nx) := x_rZ C hr dX8_isPort_15
set_option maxRecDepth 20000 in
theorem mX8_isPort (l : Launch) (D : va_G) (cA : Nat → ClassId) (base : Nat) : Mc l D cA base yX8_isPort cX8_isPort 1 (some .boolean) rX8_isPort wX8_isPort := mc_of (by decide +kernel) kX8_isPort (fun T Q C CR hr hnm nx hn => bse_ok _ (List.forall_mem_cons.mpr ⟨oX8_isPort_0 C CR hr hnm hn, List.forall_mem_cons.mpr ⟨oX8_isPort_14 C CR hr hnm hn, List.forall_mem_cons.mpr ⟨oX8_isPort_15 C CR hr hnm hn, fun _ h => nomatch h⟩⟩⟩))
theorem dX8_bits_0 : decode cX8_bits 0 = .ok (.aload_n 0, 1) := by decide +kernel
theorem dX8_bits_1 : decode cX8_bits 1 = .ok (.getfield 35, 3) := by decide +kernel
theorem dX8_bits_4 : decode cX8_bits 4 = .ok (.iload_n 1, 1) := by decide +kernel
theorem dX8_bits_5 : decode cX8_bits 5 = .ok (.iaload, 1) := by decide +kernel
theorem dX8_bits_6 : decode cX8_bits 6 = .ok (.istore_n 2, 1) := by decide +kernel
theorem dX8_bits_7 : decode cX8_bits 7 = .ok (.aload_n 0, 1) := by decide +kernel
theorem dX8_bits_8 : decode cX8_bits 8 = .ok (.getfield 22, 3) := by decide +kernel
theorem dX8_bits_11 : decode cX8_bits 11 = .ok (.iload_n 1, 1) := by decide +kernel
theorem dX8_bits_12 : decode cX8_bits 12 = .ok (.baload, 1) := by decide +kernel
theorem dX8_bits_13 : decode cX8_bits 13 = .ok (.ifCond .eq 7, 3) := by decide +kernel
theorem dX8_bits_16 : decode cX8_bits 16 = .ok (.iconst 1, 1) := by decide +kernel
theorem dX8_bits_17 : decode cX8_bits 17 = .ok (.goto 4, 3) := by decide +kernel
theorem dX8_bits_20 : decode cX8_bits 20 = .ok (.iconst 0, 1) := by decide +kernel
theorem dX8_bits_21 : decode cX8_bits 21 = .ok (.aload_n 0, 1) := by decide +kernel
theorem dX8_bits_22 : decode cX8_bits 22 = .ok (.getfield 26, 3) := by decide +kernel
theorem dX8_bits_25 : decode cX8_bits 25 = .ok (.iload_n 1, 1) := by decide +kernel
theorem dX8_bits_26 : decode cX8_bits 26 = .ok (.baload, 1) := by decide +kernel
theorem dX8_bits_27 : decode cX8_bits 27 = .ok (.ifCond .eq 7, 3) := by decide +kernel
theorem dX8_bits_30 : decode cX8_bits 30 = .ok (.iconst 2, 1) := by decide +kernel
theorem dX8_bits_31 : decode cX8_bits 31 = .ok (.goto 4, 3) := by decide +kernel
theorem dX8_bits_34 : decode cX8_bits 34 = .ok (.iconst 0, 1) := by decide +kernel
theorem dX8_bits_35 : decode cX8_bits 35 = .ok (.iadd, 1) := by decide +kernel
theorem dX8_bits_36 : decode cX8_bits 36 = .ok (.aload_n 0, 1) := by decide +kernel
theorem dX8_bits_37 : decode cX8_bits 37 = .ok (.getfield 16, 3) := by decide +kernel
theorem dX8_bits_40 : decode cX8_bits 40 = .ok (.iload_n 1, 1) := by decide +kernel
theorem dX8_bits_41 : decode cX8_bits 41 = .ok (.iaload, 1) := by decide +kernel
theorem dX8_bits_42 : decode cX8_bits 42 = .ok (.ifCond .le 7, 3) := by decide +kernel
theorem dX8_bits_45 : decode cX8_bits 45 = .ok (.iconst 4, 1) := by decide +kernel
theorem dX8_bits_46 : decode cX8_bits 46 = .ok (.goto 4, 3) := by decide +kernel
theorem dX8_bits_49 : decode cX8_bits 49 = .ok (.iconst 0, 1) := by decide +kernel
theorem dX8_bits_50 : decode cX8_bits 50 = .ok (.iadd, 1) := by decide +kernel
theorem dX8_bits_51 : decode cX8_bits 51 = .ok (.iload_n 2, 1) := by decide +kernel
theorem dX8_bits_52 : decode cX8_bits 52 = .ok (.iconst 2, 1) := by decide +kernel
theorem dX8_bits_53 : decode cX8_bits 53 = .ok (.if_icmp .lt 8, 3) := by decide +kernel
theorem dX8_bits_56 : decode cX8_bits 56 = .ok (.bipush 8, 2) := by decide +kernel
theorem dX8_bits_58 : decode cX8_bits 58 = .ok (.goto 4, 3) := by decide +kernel
theorem dX8_bits_61 : decode cX8_bits 61 = .ok (.iconst 0, 1) := by decide +kernel
theorem dX8_bits_62 : decode cX8_bits 62 = .ok (.iadd, 1) := by decide +kernel
theorem dX8_bits_63 : decode cX8_bits 63 = .ok (.iload_n 2, 1) := by decide +kernel
theorem dX8_bits_64 : decode cX8_bits 64 = .ok (.iconst 3, 1) := by decide +kernel
theorem dX8_bits_65 : decode cX8_bits 65 = .ok (.if_icmp .lt 8, 3) := by decide +kernel
theorem dX8_bits_68 : decode cX8_bits 68 = .ok (.bipush 16, 2) := by decide +kernel
theorem dX8_bits_70 : decode cX8_bits 70 = .ok (.goto 4, 3) := by decide +kernel
theorem dX8_bits_73 : decode cX8_bits 73 = .ok (.iconst 0, 1) := by decide +kernel
theorem dX8_bits_74 : decode cX8_bits 74 = .ok (.iadd, 1) := by decide +kernel
theorem dX8_bits_75 : decode cX8_bits 75 = .ok (.iload_n 2, 1) := by decide +kernel
theorem dX8_bits_76 : decode cX8_bits 76 = .ok (.iconst 4, 1) := by decide +kernel
theorem dX8_bits_77 : decode cX8_bits 77 = .ok (.if_icmp .ne 8, 3) := by decide +kernel
theorem dX8_bits_80 : decode cX8_bits 80 = .ok (.bipush 32, 2) := by decide +kernel
theorem dX8_bits_82 : decode cX8_bits 82 = .ok (.goto 4, 3) := by decide +kernel
theorem dX8_bits_85 : decode cX8_bits 85 = .ok (.iconst 0, 1) := by decide +kernel
theorem dX8_bits_86 : decode cX8_bits 86 = .ok (.iadd, 1) := by decide +kernel
theorem dX8_bits_87 : decode cX8_bits 87 = .ok (.ireturn, 1) := by decide +kernel
noncomputable def bX8_bits_0 (Q : Option Value → MM → Prop) (nx : Nat → Kt) : Kt := ldA 0 (gR 8 9 (ldI 1 (aI 10 (stI 2 (ldA 0 (gR 8 5 (ldI 1 (aI 11 (ifz (fun x => x = 0) (nx 20) (cI 1 (nx 21)))))))))))
noncomputable def bX8_bits_20 (Q : Option Value → MM → Prop) (nx : Nat → Kt) : Kt := cI 0 (nx 21)
noncomputable def bX8_bits_21 (Q : Option Value → MM → Prop) (nx : Nat → Kt) : Kt := ldA 0 (gR 8 6 (ldI 1 (aI 11 (ifz (fun x => x = 0) (nx 34) (cI 2 (nx 35))))))
noncomputable def bX8_bits_34 (Q : Option Value → MM → Prop) (nx : Nat → Kt) : Kt := cI 0 (nx 35)
noncomputable def bX8_bits_35 (Q : Option Value → MM → Prop) (nx : Nat → Kt) : Kt := bop (fun x y => x + y) (ldA 0 (gR 8 3 (ldI 1 (aI 10 (ifz (fun x => x ≤ 0) (nx 49) (cI 4 (nx 50)))))))
noncomputable def bX8_bits_49 (Q : Option Value → MM → Prop) (nx : Nat → Kt) : Kt := cI 0 (nx 50)
noncomputable def bX8_bits_50 (Q : Option Value → MM → Prop) (nx : Nat → Kt) : Kt := bop (fun x y => x + y) (ldI 2 (cI 2 (ifc (fun x y => x < y) (nx 61) (cI 8 (nx 62)))))
noncomputable def bX8_bits_61 (Q : Option Value → MM → Prop) (nx : Nat → Kt) : Kt := cI 0 (nx 62)
noncomputable def bX8_bits_62 (Q : Option Value → MM → Prop) (nx : Nat → Kt) : Kt := bop (fun x y => x + y) (ldI 2 (cI 3 (ifc (fun x y => x < y) (nx 73) (cI 16 (nx 74)))))
noncomputable def bX8_bits_73 (Q : Option Value → MM → Prop) (nx : Nat → Kt) : Kt := cI 0 (nx 74)
noncomputable def bX8_bits_74 (Q : Option Value → MM → Prop) (nx : Nat → Kt) : Kt := bop (fun x y => x + y) (ldI 2 (cI 4 (ifc (fun x y => x = y) (cI 32 (nx 86)) (nx 85))))
noncomputable def bX8_bits_85 (Q : Option Value → MM → Prop) (nx : Nat → Kt) : Kt := cI 0 (nx 86)
noncomputable def bX8_bits_86 (Q : Option Value → MM → Prop) (nx : Nat → Kt) : Kt := bop (fun x y => x + y) (rI Q)
noncomputable def kX8_bits (Q : Option Value → MM → Prop) (nx : Nat → Kt) : Nat → Kt := bse [(0, bX8_bits_0 Q nx), (20, bX8_bits_20 Q nx), (21, bX8_bits_21 Q nx), (34, bX8_bits_34 Q nx), (35, bX8_bits_35 Q nx), (49, bX8_bits_49 Q nx), (50, bX8_bits_50 Q nx), (61, bX8_bits_61 Q nx), (62, bX8_bits_62 Q nx), (73, bX8_bits_73 Q nx), (74, bX8_bits_74 Q nx), (85, bX8_bits_85 Q nx), (86, bX8_bits_86 Q nx)]
abbrev rX8_bits : Room := { frames := 0, cells := 0, slots := 0, locals := 0 }
noncomputable def wX8_bits : Mw := mw 3 kX8_bits
set_option maxRecDepth 20000 in
theorem oX8_bits_0 {T : Ct} {Q : Option Value → MM → Prop} (C : Cx T cX8_bits 3 RX8 0 0) (CR : CxR T 0 0) (hr : T.2.2.2.2.2.2.2.2.1.sig.returnType = (some .int)) (hnm : T.2.2.2.2.2.2.2.2.1.name = "bits") {nx : Nat → Kt} (hn : ∀ pc, Sd T 3 (QT T Q 0 0) 0 0 pc (nx pc)) : Sd T 3 (QT T Q 0 0) 0 0 0 (bX8_bits_0 Q nx) := x_al_n C dX8_bits_0 rfl (gf_X8_35 C dX8_bits_1 (x_il_n C dX8_bits_4 rfl (x_iald C dX8_bits_5 (x_is_n C dX8_bits_6 rfl (by decide) (x_al_n C dX8_bits_7 rfl (gf_X8_22 C dX8_bits_8 (x_il_n C dX8_bits_11 rfl (x_zald C dX8_bits_12 (x_if_eq C (hn 20) dX8_bits_13 (by decide) (x_ic C dX8_bits_16 (by decide) (x_goto C (hn 21) dX8_bits_17 (by decide))))))))))))
set_option maxRecDepth 20000 in
theorem oX8_bits_20 {T : Ct} {Q : Option Value → MM → Prop} (C : Cx T cX8_bits 3 RX8 0 0) (CR : CxR T 0 0) (hr : T.2.2.2.2.2.2.2.2.1.sig.returnType = (some .int)) (hnm : T.2.2.2.2.2.2.2.2.1.name = "bits") {nx : Nat → Kt} (hn : ∀ pc, Sd T 3 (QT T Q 0 0) 0 0 pc (nx pc)) : Sd T 3 (QT T Q 0 0) 0 0 20 (bX8_bits_20 Q nx) := x_ic C dX8_bits_20 (by decide) (hn 21)
set_option maxRecDepth 20000 in
theorem oX8_bits_21 {T : Ct} {Q : Option Value → MM → Prop} (C : Cx T cX8_bits 3 RX8 0 0) (CR : CxR T 0 0) (hr : T.2.2.2.2.2.2.2.2.1.sig.returnType = (some .int)) (hnm : T.2.2.2.2.2.2.2.2.1.name = "bits") {nx : Nat → Kt} (hn : ∀ pc, Sd T 3 (QT T Q 0 0) 0 0 pc (nx pc)) : Sd T 3 (QT T Q 0 0) 0 0 21 (bX8_bits_21 Q nx) := x_al_n C dX8_bits_21 rfl (gf_X8_26 C dX8_bits_22 (x_il_n C dX8_bits_25 rfl (x_zald C dX8_bits_26 (x_if_eq C (hn 34) dX8_bits_27 (by decide) (x_ic C dX8_bits_30 (by decide) (x_goto C (hn 35) dX8_bits_31 (by decide)))))))
set_option maxRecDepth 20000 in
theorem oX8_bits_34 {T : Ct} {Q : Option Value → MM → Prop} (C : Cx T cX8_bits 3 RX8 0 0) (CR : CxR T 0 0) (hr : T.2.2.2.2.2.2.2.2.1.sig.returnType = (some .int)) (hnm : T.2.2.2.2.2.2.2.2.1.name = "bits") {nx : Nat → Kt} (hn : ∀ pc, Sd T 3 (QT T Q 0 0) 0 0 pc (nx pc)) : Sd T 3 (QT T Q 0 0) 0 0 34 (bX8_bits_34 Q nx) := x_ic C dX8_bits_34 (by decide) (hn 35)
set_option maxRecDepth 20000 in
theorem oX8_bits_35 {T : Ct} {Q : Option Value → MM → Prop} (C : Cx T cX8_bits 3 RX8 0 0) (CR : CxR T 0 0) (hr : T.2.2.2.2.2.2.2.2.1.sig.returnType = (some .int)) (hnm : T.2.2.2.2.2.2.2.2.1.name = "bits") {nx : Nat → Kt} (hn : ∀ pc, Sd T 3 (QT T Q 0 0) 0 0 pc (nx pc)) : Sd T 3 (QT T Q 0 0) 0 0 35 (bX8_bits_35 Q nx) := x_iadd C dX8_bits_35 (x_al_n C dX8_bits_36 rfl (gf_X8_16 C dX8_bits_37 (x_il_n C dX8_bits_40 rfl (x_iald C dX8_bits_41 (x_if_le C (hn 49) dX8_bits_42 (by decide) (x_ic C dX8_bits_45 (by decide) (x_goto C (hn 50) dX8_bits_46 (by decide))))))))
set_option maxRecDepth 20000 in
theorem oX8_bits_49 {T : Ct} {Q : Option Value → MM → Prop} (C : Cx T cX8_bits 3 RX8 0 0) (CR : CxR T 0 0) (hr : T.2.2.2.2.2.2.2.2.1.sig.returnType = (some .int)) (hnm : T.2.2.2.2.2.2.2.2.1.name = "bits") {nx : Nat → Kt} (hn : ∀ pc, Sd T 3 (QT T Q 0 0) 0 0 pc (nx pc)) : Sd T 3 (QT T Q 0 0) 0 0 49 (bX8_bits_49 Q nx) := x_ic C dX8_bits_49 (by decide) (hn 50)
set_option maxRecDepth 20000 in
theorem oX8_bits_50 {T : Ct} {Q : Option Value → MM → Prop} (C : Cx T cX8_bits 3 RX8 0 0) (CR : CxR T 0 0) (hr : T.2.2.2.2.2.2.2.2.1.sig.returnType = (some .int)) (hnm : T.2.2.2.2.2.2.2.2.1.name = "bits") {nx : Nat → Kt} (hn : ∀ pc, Sd T 3 (QT T Q 0 0) 0 0 pc (nx pc)) : Sd T 3 (QT T Q 0 0) 0 0 50 (bX8_bits_50 Q nx) := x_iadd C dX8_bits_50 (x_il_n C dX8_bits_51 rfl (x_ic C dX8_bits_52 (by decide) (x_ic_lt C (hn 61) dX8_bits_53 (by decide) (x_bp C dX8_bits_56 (by decide) (x_goto C (hn 62) dX8_bits_58 (by decide))))))
set_option maxRecDepth 20000 in
theorem oX8_bits_61 {T : Ct} {Q : Option Value → MM → Prop} (C : Cx T cX8_bits 3 RX8 0 0) (CR : CxR T 0 0) (hr : T.2.2.2.2.2.2.2.2.1.sig.returnType = (some .int)) (hnm : T.2.2.2.2.2.2.2.2.1.name = "bits") {nx : Nat → Kt} (hn : ∀ pc, Sd T 3 (QT T Q 0 0) 0 0 pc (nx pc)) : Sd T 3 (QT T Q 0 0) 0 0 61 (bX8_bits_61 Q nx) := x_ic C dX8_bits_61 (by decide) (hn 62)
set_option maxRecDepth 20000 in
theorem oX8_bits_62 {T : Ct} {Q : Option Value → MM → Prop} (C : Cx T cX8_bits 3 RX8 0 0) (CR : CxR T 0 0) (hr : T.2.2.2.2.2.2.2.2.1.sig.returnType = (some .int)) (hnm : T.2.2.2.2.2.2.2.2.1.name = "bits") {nx : Nat → Kt} (hn : ∀ pc, Sd T 3 (QT T Q 0 0) 0 0 pc (nx pc)) : Sd T 3 (QT T Q 0 0) 0 0 62 (bX8_bits_62 Q nx) := x_iadd C dX8_bits_62 (x_il_n C dX8_bits_63 rfl (x_ic C dX8_bits_64 (by decide) (x_ic_lt C (hn 73) dX8_bits_65 (by decide) (x_bp C dX8_bits_68 (by decide) (x_goto C (hn 74) dX8_bits_70 (by decide))))))
set_option maxRecDepth 20000 in
theorem oX8_bits_73 {T : Ct} {Q : Option Value → MM → Prop} (C : Cx T cX8_bits 3 RX8 0 0) (CR : CxR T 0 0) (hr : T.2.2.2.2.2.2.2.2.1.sig.returnType = (some .int)) (hnm : T.2.2.2.2.2.2.2.2.1.name = "bits") {nx : Nat → Kt} (hn : ∀ pc, Sd T 3 (QT T Q 0 0) 0 0 pc (nx pc)) : Sd T 3 (QT T Q 0 0) 0 0 73 (bX8_bits_73 Q nx) := x_ic C dX8_bits_73 (by decide) (hn 74)
set_option maxRecDepth 20000 in
theorem oX8_bits_74 {T : Ct} {Q : Option Value → MM → Prop} (C : Cx T cX8_bits 3 RX8 0 0) (CR : CxR T 0 0) (hr : T.2.2.2.2.2.2.2.2.1.sig.returnType = (some .int)) (hnm : T.2.2.2.2.2.2.2.2.1.name = "bits") {nx : Nat → Kt} (hn : ∀ pc, Sd T 3 (QT T Q 0 0) 0 0 pc (nx pc)) : Sd T 3 (QT T Q 0 0) 0 0 74 (bX8_bits_74 Q nx) := x_iadd C dX8_bits_74 (x_il_n C dX8_bits_75 rfl (x_ic C dX8_bits_76 (by decide) (x_ic_ne C (hn 85) dX8_bits_77 (by decide) (x_bp C dX8_bits_80 (by decide) (x_goto C (hn 86) dX8_bits_82 (by decide))))))
set_option maxRecDepth 20000 in
theorem oX8_bits_85 {T : Ct} {Q : Option Value → MM → Prop} (C : Cx T cX8_bits 3 RX8 0 0) (CR : CxR T 0 0) (hr : T.2.2.2.2.2.2.2.2.1.sig.returnType = (some .int)) (hnm : T.2.2.2.2.2.2.2.2.1.name = "bits") {nx : Nat → Kt} (hn : ∀ pc, Sd T 3 (QT T Q 0 0) 0 0 pc (nx pc)) : Sd T 3 (QT T Q 0 0) 0 0 85 (bX8_bits_85 Q nx) := x_ic C dX8_bits_85 (by decide) (hn 86)
set_option maxRecDepth 20000 in
theorem oX8_bits_86 {T : Ct} {Q : Option Value → MM → Prop} (C : Cx T cX8_bits 3 RX8 0 0) (CR : CxR T 0 0) (hr : T.2.2.2.2.2.2.2.2.1.sig.returnType = (some .int)) (hnm : T.2.2.2.2.2.2.2.2.1.name = "bits") {nx : Nat → Kt} (hn : ∀ pc, Sd T 3 (QT T Q 0 0) 0 0 pc (nx pc)) : Sd T 3 (QT T Q 0 0) 0 0 86 (bX8_bits_86 Q nx) := x_iadd C dX8_bits_86 (x_rI C hr dX8_bits_87)
set_option maxRecDepth 20000 in
theorem mX8_bits (l : Launch) (D : va_G) (cA : Nat → ClassId) (base : Nat) : Mc l D cA base yX8_bits cX8_bits 3 (some .int) rX8_bits wX8_bits := mc_of (by decide +kernel) kX8_bits (fun T Q C CR hr hnm nx hn => bse_ok _ (List.forall_mem_cons.mpr ⟨oX8_bits_0 C CR hr hnm hn, List.forall_mem_cons.mpr ⟨oX8_bits_20 C CR hr hnm hn, List.forall_mem_cons.mpr ⟨oX8_bits_21 C CR hr hnm hn, List.forall_mem_cons.mpr ⟨oX8_bits_34 C CR hr hnm hn, List.forall_mem_cons.mpr ⟨oX8_bits_35 C CR hr hnm hn, List.forall_mem_cons.mpr ⟨oX8_bits_49 C CR hr hnm hn, List.forall_mem_cons.mpr ⟨oX8_bits_50 C CR hr hnm hn, List.forall_mem_cons.mpr ⟨oX8_bits_61 C CR hr hnm hn, List.forall_mem_cons.mpr ⟨oX8_bits_62 C CR hr hnm hn, List.forall_mem_cons.mpr ⟨oX8_bits_73 C CR hr hnm hn, List.forall_mem_cons.mpr ⟨oX8_bits_74 C CR hr hnm hn, List.forall_mem_cons.mpr ⟨oX8_bits_85 C CR hr hnm hn, List.forall_mem_cons.mpr ⟨oX8_bits_86 C CR hr hnm hn, fun _ h => nomatch h⟩⟩⟩⟩⟩⟩⟩⟩⟩⟩⟩⟩⟩))
theorem dX8_own_0 : decode cX8_own 0 = .ok (.iload_n 2, 1) := by decide +kernel
theorem dX8_own_1 : decode cX8_own 1 = .ok (.tableswitch 60 0 3 #[31, 41, 48, 55], 31) := by decide +kernel
theorem dX8_own_32 : decode cX8_own 32 = .ok (.aload_n 0, 1) := by decide +kernel
theorem dX8_own_33 : decode cX8_own 33 = .ok (.getfield 7, 3) := by decide +kernel
theorem dX8_own_36 : decode cX8_own 36 = .ok (.iload_n 1, 1) := by decide +kernel
theorem dX8_own_37 : decode cX8_own 37 = .ok (.bipush 8, 2) := by decide +kernel
theorem dX8_own_39 : decode cX8_own 39 = .ok (.idiv, 1) := by decide +kernel
theorem dX8_own_40 : decode cX8_own 40 = .ok (.iaload, 1) := by decide +kernel
theorem dX8_own_41 : decode cX8_own 41 = .ok (.ireturn, 1) := by decide +kernel
theorem dX8_own_42 : decode cX8_own 42 = .ok (.aload_n 0, 1) := by decide +kernel
theorem dX8_own_43 : decode cX8_own 43 = .ok (.getfield 16, 3) := by decide +kernel
theorem dX8_own_46 : decode cX8_own 46 = .ok (.iload_n 1, 1) := by decide +kernel
theorem dX8_own_47 : decode cX8_own 47 = .ok (.iaload, 1) := by decide +kernel
theorem dX8_own_48 : decode cX8_own 48 = .ok (.ireturn, 1) := by decide +kernel
theorem dX8_own_49 : decode cX8_own 49 = .ok (.aload_n 0, 1) := by decide +kernel
theorem dX8_own_50 : decode cX8_own 50 = .ok (.getfield 19, 3) := by decide +kernel
theorem dX8_own_53 : decode cX8_own 53 = .ok (.iload_n 1, 1) := by decide +kernel
theorem dX8_own_54 : decode cX8_own 54 = .ok (.iaload, 1) := by decide +kernel
theorem dX8_own_55 : decode cX8_own 55 = .ok (.ireturn, 1) := by decide +kernel
theorem dX8_own_56 : decode cX8_own 56 = .ok (.iload_n 1, 1) := by decide +kernel
theorem dX8_own_57 : decode cX8_own 57 = .ok (.bipush 8, 2) := by decide +kernel
theorem dX8_own_59 : decode cX8_own 59 = .ok (.irem, 1) := by decide +kernel
theorem dX8_own_60 : decode cX8_own 60 = .ok (.ireturn, 1) := by decide +kernel
theorem dX8_own_61 : decode cX8_own 61 = .ok (.aload_n 0, 1) := by decide +kernel
theorem dX8_own_62 : decode cX8_own 62 = .ok (.iload_n 1, 1) := by decide +kernel
theorem dX8_own_63 : decode cX8_own 63 = .ok (.invokevirtual 136, 3) := by decide +kernel
theorem dX8_own_66 : decode cX8_own 66 = .ok (.ireturn, 1) := by decide +kernel
noncomputable def bX8_own_0 (Q : Option Value → MM → Prop) (nx : Nat → Kt) : Kt := ldI 2 (swt 0 3 (fun j => nx (([32, 42, 49, 56] : List Nat).getD j 0)) (nx 61))
noncomputable def bX8_own_32 (Q : Option Value → MM → Prop) (nx : Nat → Kt) : Kt := ldA 0 (gR 8 1 (ldI 1 (cI 8 (bod (fun x y => x / y) (aI 10 (rI Q))))))
noncomputable def bX8_own_42 (Q : Option Value → MM → Prop) (nx : Nat → Kt) : Kt := ldA 0 (gR 8 3 (ldI 1 (aI 10 (rI Q))))
noncomputable def bX8_own_49 (Q : Option Value → MM → Prop) (nx : Nat → Kt) : Kt := ldA 0 (gR 8 4 (ldI 1 (aI 10 (rI Q))))
noncomputable def bX8_own_56 (Q : Option Value → MM → Prop) (nx : Nat → Kt) : Kt := ldI 1 (cI 8 (bod (fun x y => x - x / y * y) (rI Q)))
noncomputable def bX8_own_61 (Q : Option Value → MM → Prop) (nx : Nat → Kt) : Kt := ldA 0 (ldI 1 (cV 1 8 wX8_bits 0 0 0 0 (rI Q)))
noncomputable def kX8_own (Q : Option Value → MM → Prop) (nx : Nat → Kt) : Nat → Kt := bse [(0, bX8_own_0 Q nx), (32, bX8_own_32 Q nx), (42, bX8_own_42 Q nx), (49, bX8_own_49 Q nx), (56, bX8_own_56 Q nx), (61, bX8_own_61 Q nx)]
abbrev rX8_own : Room := { frames := 1, cells := 0, slots := 0, locals := 22 }
noncomputable def wX8_own : Mw := mw 3 kX8_own
set_option maxRecDepth 20000 in
theorem oX8_own_0 {T : Ct} {Q : Option Value → MM → Prop} (C : Cx T cX8_own 3 RX8 0 0) (CR : CxR T 1 22) (hr : T.2.2.2.2.2.2.2.2.1.sig.returnType = (some .int)) (hnm : T.2.2.2.2.2.2.2.2.1.name = "own") {nx : Nat → Kt} (hn : ∀ pc, Sd T 3 (QT T Q 0 0) 0 0 pc (nx pc)) : Sd T 3 (QT T Q 0 0) 0 0 0 (bX8_own_0 Q nx) := x_il_n C dX8_own_0 rfl (x_sw C (tl := [32, 42, 49, 56]) hn dX8_own_1 (by decide) (by decide) (by decide))
set_option maxRecDepth 20000 in
theorem oX8_own_32 {T : Ct} {Q : Option Value → MM → Prop} (C : Cx T cX8_own 3 RX8 0 0) (CR : CxR T 1 22) (hr : T.2.2.2.2.2.2.2.2.1.sig.returnType = (some .int)) (hnm : T.2.2.2.2.2.2.2.2.1.name = "own") {nx : Nat → Kt} (hn : ∀ pc, Sd T 3 (QT T Q 0 0) 0 0 pc (nx pc)) : Sd T 3 (QT T Q 0 0) 0 0 32 (bX8_own_32 Q nx) := x_al_n C dX8_own_32 rfl (gf_X8_7 C dX8_own_33 (x_il_n C dX8_own_36 rfl (x_bp C dX8_own_37 (by decide) (x_idiv C dX8_own_39 (x_iald C dX8_own_40 (x_rI C hr dX8_own_41))))))
set_option maxRecDepth 20000 in
theorem oX8_own_42 {T : Ct} {Q : Option Value → MM → Prop} (C : Cx T cX8_own 3 RX8 0 0) (CR : CxR T 1 22) (hr : T.2.2.2.2.2.2.2.2.1.sig.returnType = (some .int)) (hnm : T.2.2.2.2.2.2.2.2.1.name = "own") {nx : Nat → Kt} (hn : ∀ pc, Sd T 3 (QT T Q 0 0) 0 0 pc (nx pc)) : Sd T 3 (QT T Q 0 0) 0 0 42 (bX8_own_42 Q nx) := x_al_n C dX8_own_42 rfl (gf_X8_16 C dX8_own_43 (x_il_n C dX8_own_46 rfl (x_iald C dX8_own_47 (x_rI C hr dX8_own_48))))
set_option maxRecDepth 20000 in
theorem oX8_own_49 {T : Ct} {Q : Option Value → MM → Prop} (C : Cx T cX8_own 3 RX8 0 0) (CR : CxR T 1 22) (hr : T.2.2.2.2.2.2.2.2.1.sig.returnType = (some .int)) (hnm : T.2.2.2.2.2.2.2.2.1.name = "own") {nx : Nat → Kt} (hn : ∀ pc, Sd T 3 (QT T Q 0 0) 0 0 pc (nx pc)) : Sd T 3 (QT T Q 0 0) 0 0 49 (bX8_own_49 Q nx) := x_al_n C dX8_own_49 rfl (gf_X8_19 C dX8_own_50 (x_il_n C dX8_own_53 rfl (x_iald C dX8_own_54 (x_rI C hr dX8_own_55))))
set_option maxRecDepth 20000 in
theorem oX8_own_56 {T : Ct} {Q : Option Value → MM → Prop} (C : Cx T cX8_own 3 RX8 0 0) (CR : CxR T 1 22) (hr : T.2.2.2.2.2.2.2.2.1.sig.returnType = (some .int)) (hnm : T.2.2.2.2.2.2.2.2.1.name = "own") {nx : Nat → Kt} (hn : ∀ pc, Sd T 3 (QT T Q 0 0) 0 0 pc (nx pc)) : Sd T 3 (QT T Q 0 0) 0 0 56 (bX8_own_56 Q nx) := x_il_n C dX8_own_56 rfl (x_bp C dX8_own_57 (by decide) (x_irem C dX8_own_59 (x_rI C hr dX8_own_60)))
set_option maxRecDepth 20000 in
theorem oX8_own_61 {T : Ct} {Q : Option Value → MM → Prop} (C : Cx T cX8_own 3 RX8 0 0) (CR : CxR T 1 22) (hr : T.2.2.2.2.2.2.2.2.1.sig.returnType = (some .int)) (hnm : T.2.2.2.2.2.2.2.2.1.name = "own") {nx : Nat → Kt} (hn : ∀ pc, Sd T 3 (QT T Q 0 0) 0 0 pc (nx pc)) : Sd T 3 (QT T Q 0 0) 0 0 61 (bX8_own_61 Q nx) := x_al_n C dX8_own_61 rfl (x_il_n C dX8_own_62 rfl (x_cV C CR mX8_bits ⟨co_X8_bits, init_X8, md_X8_bits, by decide, by decide⟩ (ci := 8) (TX := TX8) (N := 51) rfl (by decide) ml_X8_136 im_X8_bits se_X8_bits dX8_own_63 (x_rI C hr dX8_own_66)))
set_option maxRecDepth 20000 in
theorem mX8_own (l : Launch) (D : va_G) (cA : Nat → ClassId) (base : Nat) : Mc l D cA base yX8_own cX8_own 3 (some .int) rX8_own wX8_own := mc_of (by decide +kernel) kX8_own (fun T Q C CR hr hnm nx hn => bse_ok _ (List.forall_mem_cons.mpr ⟨oX8_own_0 C CR hr hnm hn, List.forall_mem_cons.mpr ⟨oX8_own_32 C CR hr hnm hn, List.forall_mem_cons.mpr ⟨oX8_own_42 C CR hr hnm hn, List.forall_mem_cons.mpr ⟨oX8_own_49 C CR hr hnm hn, List.forall_mem_cons.mpr ⟨oX8_own_56 C CR hr hnm hn, List.forall_mem_cons.mpr ⟨oX8_own_61 C CR hr hnm hn, fun _ h => nomatch h⟩⟩⟩⟩⟩⟩))
theorem dX8_isLit_0 : decode cX8_isLit 0 = .ok (.aload_n 0, 1) := by decide +kernel
theorem dX8_isLit_1 : decode cX8_isLit 1 = .ok (.getfield 29, 3) := by decide +kernel
theorem dX8_isLit_4 : decode cX8_isLit 4 = .ok (.iload_n 1, 1) := by decide +kernel
theorem dX8_isLit_5 : decode cX8_isLit 5 = .ok (.iaload, 1) := by decide +kernel
theorem dX8_isLit_6 : decode cX8_isLit 6 = .ok (.ifCond .eq 7, 3) := by decide +kernel
theorem dX8_isLit_9 : decode cX8_isLit 9 = .ok (.iconst 1, 1) := by decide +kernel
theorem dX8_isLit_10 : decode cX8_isLit 10 = .ok (.goto 4, 3) := by decide +kernel
theorem dX8_isLit_13 : decode cX8_isLit 13 = .ok (.iconst 0, 1) := by decide +kernel
theorem dX8_isLit_14 : decode cX8_isLit 14 = .ok (.ireturn, 1) := by decide +kernel
noncomputable def bX8_isLit_0 (Q : Option Value → MM → Prop) (nx : Nat → Kt) : Kt := ldA 0 (gR 8 7 (ldI 1 (aI 10 (ifz (fun x => x = 0) (nx 13) (cI 1 (nx 14))))))
noncomputable def bX8_isLit_13 (Q : Option Value → MM → Prop) (nx : Nat → Kt) : Kt := cI 0 (nx 14)
noncomputable def bX8_isLit_14 (Q : Option Value → MM → Prop) (nx : Nat → Kt) : Kt := rZ Q
noncomputable def kX8_isLit (Q : Option Value → MM → Prop) (nx : Nat → Kt) : Nat → Kt := bse [(0, bX8_isLit_0 Q nx), (13, bX8_isLit_13 Q nx), (14, bX8_isLit_14 Q nx)]
abbrev rX8_isLit : Room := { frames := 0, cells := 0, slots := 0, locals := 0 }
noncomputable def wX8_isLit : Mw := mw 2 kX8_isLit
set_option maxRecDepth 20000 in
theorem oX8_isLit_0 {T : Ct} {Q : Option Value → MM → Prop} (C : Cx T cX8_isLit 2 RX8 0 0) (CR : CxR T 0 0) (hr : T.2.2.2.2.2.2.2.2.1.sig.returnType = (some .boolean)) (hnm : T.2.2.2.2.2.2.2.2.1.name = "isLit") {nx : Nat → Kt} (hn : ∀ pc, Sd T 2 (QT T Q 0 0) 0 0 pc (nx pc)) : Sd T 2 (QT T Q 0 0) 0 0 0 (bX8_isLit_0 Q nx) := x_al_n C dX8_isLit_0 rfl (gf_X8_29 C dX8_isLit_1 (x_il_n C dX8_isLit_4 rfl (x_iald C dX8_isLit_5 (x_if_eq C (hn 13) dX8_isLit_6 (by decide) (x_ic C dX8_isLit_9 (by decide) (x_goto C (hn 14) dX8_isLit_10 (by decide)))))))
set_option maxRecDepth 20000 in
theorem oX8_isLit_13 {T : Ct} {Q : Option Value → MM → Prop} (C : Cx T cX8_isLit 2 RX8 0 0) (CR : CxR T 0 0) (hr : T.2.2.2.2.2.2.2.2.1.sig.returnType = (some .boolean)) (hnm : T.2.2.2.2.2.2.2.2.1.name = "isLit") {nx : Nat → Kt} (hn : ∀ pc, Sd T 2 (QT T Q 0 0) 0 0 pc (nx pc)) : Sd T 2 (QT T Q 0 0) 0 0 13 (bX8_isLit_13 Q nx) := x_ic C dX8_isLit_13 (by decide) (hn 14)
set_option maxRecDepth 20000 in
theorem oX8_isLit_14 {T : Ct} {Q : Option Value → MM → Prop} (C : Cx T cX8_isLit 2 RX8 0 0) (CR : CxR T 0 0) (hr : T.2.2.2.2.2.2.2.2.1.sig.returnType = (some .boolean)) (hnm : T.2.2.2.2.2.2.2.2.1.name = "isLit") {nx : Nat → Kt} (hn : ∀ pc, Sd T 2 (QT T Q 0 0) 0 0 pc (nx pc)) : Sd T 2 (QT T Q 0 0) 0 0 14 (bX8_isLit_14 Q nx) := x_rZ C hr dX8_isLit_14
set_option maxRecDepth 20000 in
theorem mX8_isLit (l : Launch) (D : va_G) (cA : Nat → ClassId) (base : Nat) : Mc l D cA base yX8_isLit cX8_isLit 2 (some .boolean) rX8_isLit wX8_isLit := mc_of (by decide +kernel) kX8_isLit (fun T Q C CR hr hnm nx hn => bse_ok _ (List.forall_mem_cons.mpr ⟨oX8_isLit_0 C CR hr hnm hn, List.forall_mem_cons.mpr ⟨oX8_isLit_13 C CR hr hnm hn, List.forall_mem_cons.mpr ⟨oX8_isLit_14 C CR hr hnm hn, fun _ h => nomatch h⟩⟩⟩))
theorem dX8_isPartner_0 : decode cX8_isPartner 0 = .ok (.aload_n 0, 1) := by decide +kernel
theorem dX8_isPartner_1 : decode cX8_isPartner 1 = .ok (.getfield 62, 3) := by decide +kernel
theorem dX8_isPartner_4 : decode cX8_isPartner 4 = .ok (.iconst 5, 1) := by decide +kernel
theorem dX8_isPartner_5 : decode cX8_isPartner 5 = .ok (.iload_n 1, 1) := by decide +kernel
theorem dX8_isPartner_6 : decode cX8_isPartner 6 = .ok (.imul, 1) := by decide +kernel
theorem dX8_isPartner_7 : decode cX8_isPartner 7 = .ok (.iconst 4, 1) := by decide +kernel
theorem dX8_isPartner_8 : decode cX8_isPartner 8 = .ok (.iadd, 1) := by decide +kernel
theorem dX8_isPartner_9 : decode cX8_isPartner 9 = .ok (.iaload, 1) := by decide +kernel
theorem dX8_isPartner_10 : decode cX8_isPartner 10 = .ok (.iload_n 2, 1) := by decide +kernel
theorem dX8_isPartner_11 : decode cX8_isPartner 11 = .ok (.iand, 1) := by decide +kernel
theorem dX8_isPartner_12 : decode cX8_isPartner 12 = .ok (.ifCond .eq 7, 3) := by decide +kernel
theorem dX8_isPartner_15 : decode cX8_isPartner 15 = .ok (.iconst 1, 1) := by decide +kernel
theorem dX8_isPartner_16 : decode cX8_isPartner 16 = .ok (.goto 4, 3) := by decide +kernel
theorem dX8_isPartner_19 : decode cX8_isPartner 19 = .ok (.iconst 0, 1) := by decide +kernel
theorem dX8_isPartner_20 : decode cX8_isPartner 20 = .ok (.ireturn, 1) := by decide +kernel
noncomputable def bX8_isPartner_0 (Q : Option Value → MM → Prop) (nx : Nat → Kt) : Kt := ldA 0 (gR 8 18 (cI 5 (ldI 1 (bop (fun x y => x * y) (cI 4 (bop (fun x y => x + y) (aI 10 (ldI 2 (bop (fun x y => x &&& y) (ifz (fun x => x = 0) (nx 19) (cI 1 (nx 20))))))))))))
noncomputable def bX8_isPartner_19 (Q : Option Value → MM → Prop) (nx : Nat → Kt) : Kt := cI 0 (nx 20)
noncomputable def bX8_isPartner_20 (Q : Option Value → MM → Prop) (nx : Nat → Kt) : Kt := rZ Q
noncomputable def kX8_isPartner (Q : Option Value → MM → Prop) (nx : Nat → Kt) : Nat → Kt := bse [(0, bX8_isPartner_0 Q nx), (19, bX8_isPartner_19 Q nx), (20, bX8_isPartner_20 Q nx)]
abbrev rX8_isPartner : Room := { frames := 0, cells := 0, slots := 0, locals := 0 }
noncomputable def wX8_isPartner : Mw := mw 3 kX8_isPartner
set_option maxRecDepth 20000 in
theorem oX8_isPartner_0 {T : Ct} {Q : Option Value → MM → Prop} (C : Cx T cX8_isPartner 3 RX8 0 0) (CR : CxR T 0 0) (hr : T.2.2.2.2.2.2.2.2.1.sig.returnType = (some .boolean)) (hnm : T.2.2.2.2.2.2.2.2.1.name = "isPartner") {nx : Nat → Kt} (hn : ∀ pc, Sd T 3 (QT T Q 0 0) 0 0 pc (nx pc)) : Sd T 3 (QT T Q 0 0) 0 0 0 (bX8_isPartner_0 Q nx) := x_al_n C dX8_isPartner_0 rfl (gf_X8_62 C dX8_isPartner_1 (x_ic C dX8_isPartner_4 (by decide) (x_il_n C dX8_isPartner_5 rfl (x_imul C dX8_isPartner_6 (x_ic C dX8_isPartner_7 (by decide) (x_iadd C dX8_isPartner_8 (x_iald C dX8_isPartner_9 (x_il_n C dX8_isPartner_10 rfl (x_iand C dX8_isPartner_11 (x_if_eq C (hn 19) dX8_isPartner_12 (by decide) (x_ic C dX8_isPartner_15 (by decide) (x_goto C (hn 20) dX8_isPartner_16 (by decide)))))))))))))
set_option maxRecDepth 20000 in
theorem oX8_isPartner_19 {T : Ct} {Q : Option Value → MM → Prop} (C : Cx T cX8_isPartner 3 RX8 0 0) (CR : CxR T 0 0) (hr : T.2.2.2.2.2.2.2.2.1.sig.returnType = (some .boolean)) (hnm : T.2.2.2.2.2.2.2.2.1.name = "isPartner") {nx : Nat → Kt} (hn : ∀ pc, Sd T 3 (QT T Q 0 0) 0 0 pc (nx pc)) : Sd T 3 (QT T Q 0 0) 0 0 19 (bX8_isPartner_19 Q nx) := x_ic C dX8_isPartner_19 (by decide) (hn 20)
set_option maxRecDepth 20000 in
theorem oX8_isPartner_20 {T : Ct} {Q : Option Value → MM → Prop} (C : Cx T cX8_isPartner 3 RX8 0 0) (CR : CxR T 0 0) (hr : T.2.2.2.2.2.2.2.2.1.sig.returnType = (some .boolean)) (hnm : T.2.2.2.2.2.2.2.2.1.name = "isPartner") {nx : Nat → Kt} (hn : ∀ pc, Sd T 3 (QT T Q 0 0) 0 0 pc (nx pc)) : Sd T 3 (QT T Q 0 0) 0 0 20 (bX8_isPartner_20 Q nx) := x_rZ C hr dX8_isPartner_20
set_option maxRecDepth 20000 in
theorem mX8_isPartner (l : Launch) (D : va_G) (cA : Nat → ClassId) (base : Nat) : Mc l D cA base yX8_isPartner cX8_isPartner 3 (some .boolean) rX8_isPartner wX8_isPartner := mc_of (by decide +kernel) kX8_isPartner (fun T Q C CR hr hnm nx hn => bse_ok _ (List.forall_mem_cons.mpr ⟨oX8_isPartner_0 C CR hr hnm hn, List.forall_mem_cons.mpr ⟨oX8_isPartner_19 C CR hr hnm hn, List.forall_mem_cons.mpr ⟨oX8_isPartner_20 C CR hr hnm hn, fun _ h => nomatch h⟩⟩⟩))
theorem dX8_stronger_0 : decode cX8_stronger 0 = .ok (.aload_n 0, 1) := by decide +kernel
theorem dX8_stronger_1 : decode cX8_stronger 1 = .ok (.getfield 7, 3) := by decide +kernel
theorem dX8_stronger_4 : decode cX8_stronger 4 = .ok (.iconst 0, 1) := by decide +kernel
theorem dX8_stronger_5 : decode cX8_stronger 5 = .ok (.iaload, 1) := by decide +kernel
theorem dX8_stronger_6 : decode cX8_stronger 6 = .ok (.aload_n 0, 1) := by decide +kernel
theorem dX8_stronger_7 : decode cX8_stronger 7 = .ok (.getfield 7, 3) := by decide +kernel
theorem dX8_stronger_10 : decode cX8_stronger 10 = .ok (.iconst 1, 1) := by decide +kernel
theorem dX8_stronger_11 : decode cX8_stronger 11 = .ok (.iaload, 1) := by decide +kernel
theorem dX8_stronger_12 : decode cX8_stronger 12 = .ok (.if_icmp .gt 7, 3) := by decide +kernel
theorem dX8_stronger_15 : decode cX8_stronger 15 = .ok (.iconst 0, 1) := by decide +kernel
theorem dX8_stronger_16 : decode cX8_stronger 16 = .ok (.goto 4, 3) := by decide +kernel
theorem dX8_stronger_19 : decode cX8_stronger 19 = .ok (.iconst 1, 1) := by decide +kernel
theorem dX8_stronger_20 : decode cX8_stronger 20 = .ok (.ireturn, 1) := by decide +kernel
noncomputable def bX8_stronger_0 (Q : Option Value → MM → Prop) (nx : Nat → Kt) : Kt := ldA 0 (gR 8 1 (cI 0 (aI 10 (ldA 0 (gR 8 1 (cI 1 (aI 10 (ifc (fun x y => y < x) (nx 19) (cI 0 (nx 20))))))))))
noncomputable def bX8_stronger_19 (Q : Option Value → MM → Prop) (nx : Nat → Kt) : Kt := cI 1 (nx 20)
noncomputable def bX8_stronger_20 (Q : Option Value → MM → Prop) (nx : Nat → Kt) : Kt := rI Q
noncomputable def kX8_stronger (Q : Option Value → MM → Prop) (nx : Nat → Kt) : Nat → Kt := bse [(0, bX8_stronger_0 Q nx), (19, bX8_stronger_19 Q nx), (20, bX8_stronger_20 Q nx)]
abbrev rX8_stronger : Room := { frames := 0, cells := 0, slots := 0, locals := 0 }
noncomputable def wX8_stronger : Mw := mw 1 kX8_stronger
set_option maxRecDepth 20000 in
theorem oX8_stronger_0 {T : Ct} {Q : Option Value → MM → Prop} (C : Cx T cX8_stronger 1 RX8 0 0) (CR : CxR T 0 0) (hr : T.2.2.2.2.2.2.2.2.1.sig.returnType = (some .int)) (hnm : T.2.2.2.2.2.2.2.2.1.name = "stronger") {nx : Nat → Kt} (hn : ∀ pc, Sd T 1 (QT T Q 0 0) 0 0 pc (nx pc)) : Sd T 1 (QT T Q 0 0) 0 0 0 (bX8_stronger_0 Q nx) := x_al_n C dX8_stronger_0 rfl (gf_X8_7 C dX8_stronger_1 (x_ic C dX8_stronger_4 (by decide) (x_iald C dX8_stronger_5 (x_al_n C dX8_stronger_6 rfl (gf_X8_7 C dX8_stronger_7 (x_ic C dX8_stronger_10 (by decide) (x_iald C dX8_stronger_11 (x_ic_gt C (hn 19) dX8_stronger_12 (by decide) (x_ic C dX8_stronger_15 (by decide) (x_goto C (hn 20) dX8_stronger_16 (by decide)))))))))))
set_option maxRecDepth 20000 in
theorem oX8_stronger_19 {T : Ct} {Q : Option Value → MM → Prop} (C : Cx T cX8_stronger 1 RX8 0 0) (CR : CxR T 0 0) (hr : T.2.2.2.2.2.2.2.2.1.sig.returnType = (some .int)) (hnm : T.2.2.2.2.2.2.2.2.1.name = "stronger") {nx : Nat → Kt} (hn : ∀ pc, Sd T 1 (QT T Q 0 0) 0 0 pc (nx pc)) : Sd T 1 (QT T Q 0 0) 0 0 19 (bX8_stronger_19 Q nx) := x_ic C dX8_stronger_19 (by decide) (hn 20)
set_option maxRecDepth 20000 in
theorem oX8_stronger_20 {T : Ct} {Q : Option Value → MM → Prop} (C : Cx T cX8_stronger 1 RX8 0 0) (CR : CxR T 0 0) (hr : T.2.2.2.2.2.2.2.2.1.sig.returnType = (some .int)) (hnm : T.2.2.2.2.2.2.2.2.1.name = "stronger") {nx : Nat → Kt} (hn : ∀ pc, Sd T 1 (QT T Q 0 0) 0 0 pc (nx pc)) : Sd T 1 (QT T Q 0 0) 0 0 20 (bX8_stronger_20 Q nx) := x_rI C hr dX8_stronger_20
set_option maxRecDepth 20000 in
theorem mX8_stronger (l : Launch) (D : va_G) (cA : Nat → ClassId) (base : Nat) : Mc l D cA base yX8_stronger cX8_stronger 1 (some .int) rX8_stronger wX8_stronger := mc_of (by decide +kernel) kX8_stronger (fun T Q C CR hr hnm nx hn => bse_ok _ (List.forall_mem_cons.mpr ⟨oX8_stronger_0 C CR hr hnm hn, List.forall_mem_cons.mpr ⟨oX8_stronger_19 C CR hr hnm hn, List.forall_mem_cons.mpr ⟨oX8_stronger_20 C CR hr hnm hn, fun _ h => nomatch h⟩⟩⟩))
theorem dX8_forgets_0 : decode cX8_forgets 0 = .ok (.iconst 0, 1) := by decide +kernel
theorem dX8_forgets_1 : decode cX8_forgets 1 = .ok (.istore_n 2, 1) := by decide +kernel
theorem dX8_forgets_2 : decode cX8_forgets 2 = .ok (.iload_n 2, 1) := by decide +kernel
theorem dX8_forgets_3 : decode cX8_forgets 3 = .ok (.iconst 5, 1) := by decide +kernel
theorem dX8_forgets_4 : decode cX8_forgets 4 = .ok (.if_icmp .ge 20, 3) := by decide +kernel
theorem dX8_forgets_7 : decode cX8_forgets 7 = .ok (.aload_n 0, 1) := by decide +kernel
theorem dX8_forgets_8 : decode cX8_forgets 8 = .ok (.getfield 62, 3) := by decide +kernel
theorem dX8_forgets_11 : decode cX8_forgets 11 = .ok (.iconst 5, 1) := by decide +kernel
theorem dX8_forgets_12 : decode cX8_forgets 12 = .ok (.iload_n 1, 1) := by decide +kernel
theorem dX8_forgets_13 : decode cX8_forgets 13 = .ok (.imul, 1) := by decide +kernel
theorem dX8_forgets_14 : decode cX8_forgets 14 = .ok (.iload_n 2, 1) := by decide +kernel
theorem dX8_forgets_15 : decode cX8_forgets 15 = .ok (.iadd, 1) := by decide +kernel
theorem dX8_forgets_16 : decode cX8_forgets 16 = .ok (.iconst 0, 1) := by decide +kernel
theorem dX8_forgets_17 : decode cX8_forgets 17 = .ok (.iastore, 1) := by decide +kernel
theorem dX8_forgets_18 : decode cX8_forgets 18 = .ok (.iinc 2 1, 3) := by decide +kernel
theorem dX8_forgets_21 : decode cX8_forgets 21 = .ok (.goto (-19), 3) := by decide +kernel
theorem dX8_forgets_24 : decode cX8_forgets 24 = .ok (.return_, 1) := by decide +kernel
noncomputable def bX8_forgets_0 (Q : Option Value → MM → Prop) (nx : Nat → Kt) : Kt := cI 0 (stI 2 (nx 2))
noncomputable def bX8_forgets_2 (Q : Option Value → MM → Prop) (nx : Nat → Kt) : Kt := ldI 2 (cI 5 (ifc (fun x y => y ≤ x) (nx 24) (ldA 0 (gR 8 18 (cI 5 (ldI 1 (bop (fun x y => x * y) (ldI 2 (bop (fun x y => x + y) (cI 0 (sAI (inc 2 1 (nx 2)))))))))))))
noncomputable def bX8_forgets_24 (Q : Option Value → MM → Prop) (nx : Nat → Kt) : Kt := rV Q
noncomputable def kX8_forgets (Q : Option Value → MM → Prop) (nx : Nat → Kt) : Nat → Kt := bse [(0, bX8_forgets_0 Q nx), (2, bX8_forgets_2 Q nx), (24, bX8_forgets_24 Q nx)]
abbrev rX8_forgets : Room := { frames := 0, cells := 0, slots := 0, locals := 0 }
noncomputable def wX8_forgets : Mw := mw 3 kX8_forgets
set_option maxRecDepth 20000 in
theorem oX8_forgets_0 {T : Ct} {Q : Option Value → MM → Prop} (C : Cx T cX8_forgets 3 RX8 0 0) (CR : CxR T 0 0) (hr : T.2.2.2.2.2.2.2.2.1.sig.returnType = none) (hnm : T.2.2.2.2.2.2.2.2.1.name = "forgets") {nx : Nat → Kt} (hn : ∀ pc, Sd T 3 (QT T Q 0 0) 0 0 pc (nx pc)) : Sd T 3 (QT T Q 0 0) 0 0 0 (bX8_forgets_0 Q nx) := x_ic C dX8_forgets_0 (by decide) (x_is_n C dX8_forgets_1 rfl (by decide) (hn 2))
set_option maxRecDepth 20000 in
theorem oX8_forgets_2 {T : Ct} {Q : Option Value → MM → Prop} (C : Cx T cX8_forgets 3 RX8 0 0) (CR : CxR T 0 0) (hr : T.2.2.2.2.2.2.2.2.1.sig.returnType = none) (hnm : T.2.2.2.2.2.2.2.2.1.name = "forgets") {nx : Nat → Kt} (hn : ∀ pc, Sd T 3 (QT T Q 0 0) 0 0 pc (nx pc)) : Sd T 3 (QT T Q 0 0) 0 0 2 (bX8_forgets_2 Q nx) := x_il_n C dX8_forgets_2 rfl (x_ic C dX8_forgets_3 (by decide) (x_ic_ge C (hn 24) dX8_forgets_4 (by decide) (x_al_n C dX8_forgets_7 rfl (gf_X8_62 C dX8_forgets_8 (x_ic C dX8_forgets_11 (by decide) (x_il_n C dX8_forgets_12 rfl (x_imul C dX8_forgets_13 (x_il_n C dX8_forgets_14 rfl (x_iadd C dX8_forgets_15 (x_ic C dX8_forgets_16 (by decide) (x_iast C dX8_forgets_17 (x_inc C dX8_forgets_18 (by decide) (by decide) (x_goto C (hn 2) dX8_forgets_21 (by decide))))))))))))))
set_option maxRecDepth 20000 in
theorem oX8_forgets_24 {T : Ct} {Q : Option Value → MM → Prop} (C : Cx T cX8_forgets 3 RX8 0 0) (CR : CxR T 0 0) (hr : T.2.2.2.2.2.2.2.2.1.sig.returnType = none) (hnm : T.2.2.2.2.2.2.2.2.1.name = "forgets") {nx : Nat → Kt} (hn : ∀ pc, Sd T 3 (QT T Q 0 0) 0 0 pc (nx pc)) : Sd T 3 (QT T Q 0 0) 0 0 24 (bX8_forgets_24 Q nx) := x_rV C hr dX8_forgets_24
set_option maxRecDepth 20000 in
theorem mX8_forgets (l : Launch) (D : va_G) (cA : Nat → ClassId) (base : Nat) : Mc l D cA base yX8_forgets cX8_forgets 3 none rX8_forgets wX8_forgets := mc_of (by decide +kernel) kX8_forgets (fun T Q C CR hr hnm nx hn => bse_ok _ (List.forall_mem_cons.mpr ⟨oX8_forgets_0 C CR hr hnm hn, List.forall_mem_cons.mpr ⟨oX8_forgets_2 C CR hr hnm hn, List.forall_mem_cons.mpr ⟨oX8_forgets_24 C CR hr hnm hn, fun _ h => nomatch h⟩⟩⟩))
theorem dX8_partnerStops_0 : decode cX8_partnerStops 0 = .ok (.aload_n 0, 1) := by decide +kernel
theorem dX8_partnerStops_1 : decode cX8_partnerStops 1 = .ok (.getfield 62, 3) := by decide +kernel
theorem dX8_partnerStops_4 : decode cX8_partnerStops 4 = .ok (.iconst 5, 1) := by decide +kernel
theorem dX8_partnerStops_5 : decode cX8_partnerStops 5 = .ok (.iload_n 1, 1) := by decide +kernel
theorem dX8_partnerStops_6 : decode cX8_partnerStops 6 = .ok (.imul, 1) := by decide +kernel
theorem dX8_partnerStops_7 : decode cX8_partnerStops 7 = .ok (.iconst 4, 1) := by decide +kernel
theorem dX8_partnerStops_8 : decode cX8_partnerStops 8 = .ok (.iadd, 1) := by decide +kernel
theorem dX8_partnerStops_9 : decode cX8_partnerStops 9 = .ok (.dup2, 1) := by decide +kernel
theorem dX8_partnerStops_10 : decode cX8_partnerStops 10 = .ok (.iaload, 1) := by decide +kernel
theorem dX8_partnerStops_11 : decode cX8_partnerStops 11 = .ok (.bipush (-57), 2) := by decide +kernel
theorem dX8_partnerStops_13 : decode cX8_partnerStops 13 = .ok (.iand, 1) := by decide +kernel
theorem dX8_partnerStops_14 : decode cX8_partnerStops 14 = .ok (.iastore, 1) := by decide +kernel
theorem dX8_partnerStops_15 : decode cX8_partnerStops 15 = .ok (.return_, 1) := by decide +kernel
noncomputable def bX8_partnerStops_0 (Q : Option Value → MM → Prop) (nx : Nat → Kt) : Kt := ldA 0 (gR 8 18 (cI 5 (ldI 1 (bop (fun x y => x * y) (cI 4 (bop (fun x y => x + y) (du2 (aI 10 (cI (-57) (bop (fun x y => x &&& y) (sAI (rV Q))))))))))))
noncomputable def kX8_partnerStops (Q : Option Value → MM → Prop) (nx : Nat → Kt) : Nat → Kt := bse [(0, bX8_partnerStops_0 Q nx)]
abbrev rX8_partnerStops : Room := { frames := 0, cells := 0, slots := 0, locals := 0 }
noncomputable def wX8_partnerStops : Mw := mw 2 kX8_partnerStops
set_option maxRecDepth 20000 in
theorem oX8_partnerStops_0 {T : Ct} {Q : Option Value → MM → Prop} (C : Cx T cX8_partnerStops 2 RX8 0 0) (CR : CxR T 0 0) (hr : T.2.2.2.2.2.2.2.2.1.sig.returnType = none) (hnm : T.2.2.2.2.2.2.2.2.1.name = "partnerStops") {nx : Nat → Kt} (hn : ∀ pc, Sd T 2 (QT T Q 0 0) 0 0 pc (nx pc)) : Sd T 2 (QT T Q 0 0) 0 0 0 (bX8_partnerStops_0 Q nx) := x_al_n C dX8_partnerStops_0 rfl (gf_X8_62 C dX8_partnerStops_1 (x_ic C dX8_partnerStops_4 (by decide) (x_il_n C dX8_partnerStops_5 rfl (x_imul C dX8_partnerStops_6 (x_ic C dX8_partnerStops_7 (by decide) (x_iadd C dX8_partnerStops_8 (x_dup2 C dX8_partnerStops_9 (x_iald C dX8_partnerStops_10 (x_bp C dX8_partnerStops_11 (by decide) (x_iand C dX8_partnerStops_13 (x_iast C dX8_partnerStops_14 (x_rV C hr dX8_partnerStops_15))))))))))))
set_option maxRecDepth 20000 in
theorem mX8_partnerStops (l : Launch) (D : va_G) (cA : Nat → ClassId) (base : Nat) : Mc l D cA base yX8_partnerStops cX8_partnerStops 2 none rX8_partnerStops wX8_partnerStops := mc_of (by decide +kernel) kX8_partnerStops (fun T Q C CR hr hnm nx hn => bse_ok _ (List.forall_mem_cons.mpr ⟨oX8_partnerStops_0 C CR hr hnm hn, fun _ h => nomatch h⟩))
theorem dX8_goesTo_0 : decode cX8_goesTo 0 = .ok (.iload_n 2, 1) := by decide +kernel
theorem dX8_goesTo_1 : decode cX8_goesTo 1 = .ok (.aload_n 0, 1) := by decide +kernel
theorem dX8_goesTo_2 : decode cX8_goesTo 2 = .ok (.getfield 35, 3) := by decide +kernel
theorem dX8_goesTo_5 : decode cX8_goesTo 5 = .ok (.iload_n 1, 1) := by decide +kernel
theorem dX8_goesTo_6 : decode cX8_goesTo 6 = .ok (.iaload, 1) := by decide +kernel
theorem dX8_goesTo_7 : decode cX8_goesTo 7 = .ok (.if_icmp .eq 31, 3) := by decide +kernel
theorem dX8_goesTo_10 : decode cX8_goesTo 10 = .ok (.iload_n 2, 1) := by decide +kernel
theorem dX8_goesTo_11 : decode cX8_goesTo 11 = .ok (.iconst 4, 1) := by decide +kernel
theorem dX8_goesTo_12 : decode cX8_goesTo 12 = .ok (.if_icmp .eq 13, 3) := by decide +kernel
theorem dX8_goesTo_15 : decode cX8_goesTo 15 = .ok (.aload_n 0, 1) := by decide +kernel
theorem dX8_goesTo_16 : decode cX8_goesTo 16 = .ok (.getfield 35, 3) := by decide +kernel
theorem dX8_goesTo_19 : decode cX8_goesTo 19 = .ok (.iload_n 1, 1) := by decide +kernel
theorem dX8_goesTo_20 : decode cX8_goesTo 20 = .ok (.iaload, 1) := by decide +kernel
theorem dX8_goesTo_21 : decode cX8_goesTo 21 = .ok (.iconst 4, 1) := by decide +kernel
theorem dX8_goesTo_22 : decode cX8_goesTo 22 = .ok (.if_icmp .ne 16, 3) := by decide +kernel
theorem dX8_goesTo_25 : decode cX8_goesTo 25 = .ok (.aload_n 0, 1) := by decide +kernel
theorem dX8_goesTo_26 : decode cX8_goesTo 26 = .ok (.getfield 123, 3) := by decide +kernel
theorem dX8_goesTo_29 : decode cX8_goesTo 29 = .ok (.iload_n 1, 1) := by decide +kernel
theorem dX8_goesTo_30 : decode cX8_goesTo 30 = .ok (.bipush 8, 2) := by decide +kernel
theorem dX8_goesTo_32 : decode cX8_goesTo 32 = .ok (.idiv, 1) := by decide +kernel
theorem dX8_goesTo_33 : decode cX8_goesTo 33 = .ok (.dup2, 1) := by decide +kernel
theorem dX8_goesTo_34 : decode cX8_goesTo 34 = .ok (.iaload, 1) := by decide +kernel
theorem dX8_goesTo_35 : decode cX8_goesTo 35 = .ok (.iconst 1, 1) := by decide +kernel
theorem dX8_goesTo_36 : decode cX8_goesTo 36 = .ok (.iadd, 1) := by decide +kernel
theorem dX8_goesTo_37 : decode cX8_goesTo 37 = .ok (.iastore, 1) := by decide +kernel
theorem dX8_goesTo_38 : decode cX8_goesTo 38 = .ok (.aload_n 0, 1) := by decide +kernel
theorem dX8_goesTo_39 : decode cX8_goesTo 39 = .ok (.getfield 35, 3) := by decide +kernel
theorem dX8_goesTo_42 : decode cX8_goesTo 42 = .ok (.iload_n 1, 1) := by decide +kernel
theorem dX8_goesTo_43 : decode cX8_goesTo 43 = .ok (.iload_n 2, 1) := by decide +kernel
theorem dX8_goesTo_44 : decode cX8_goesTo 44 = .ok (.iastore, 1) := by decide +kernel
theorem dX8_goesTo_45 : decode cX8_goesTo 45 = .ok (.return_, 1) := by decide +kernel
noncomputable def bX8_goesTo_0 (Q : Option Value → MM → Prop) (nx : Nat → Kt) : Kt := ldI 2 (ldA 0 (gR 8 9 (ldI 1 (aI 10 (ifc (fun x y => x = y) (nx 38) (ldI 2 (cI 4 (ifc (fun x y => x = y) (nx 25) (ldA 0 (gR 8 9 (ldI 1 (aI 10 (cI 4 (ifc (fun x y => x = y) (nx 25) (nx 38)))))))))))))))
noncomputable def bX8_goesTo_25 (Q : Option Value → MM → Prop) (nx : Nat → Kt) : Kt := ldA 0 (gR 8 40 (ldI 1 (cI 8 (bod (fun x y => x / y) (du2 (aI 10 (cI 1 (bop (fun x y => x + y) (sAI (nx 38))))))))))
noncomputable def bX8_goesTo_38 (Q : Option Value → MM → Prop) (nx : Nat → Kt) : Kt := ldA 0 (gR 8 9 (ldI 1 (ldI 2 (sAI (rV Q)))))
noncomputable def kX8_goesTo (Q : Option Value → MM → Prop) (nx : Nat → Kt) : Nat → Kt := bse [(0, bX8_goesTo_0 Q nx), (25, bX8_goesTo_25 Q nx), (38, bX8_goesTo_38 Q nx)]
abbrev rX8_goesTo : Room := { frames := 0, cells := 0, slots := 0, locals := 0 }
noncomputable def wX8_goesTo : Mw := mw 3 kX8_goesTo
set_option maxRecDepth 20000 in
theorem oX8_goesTo_0 {T : Ct} {Q : Option Value → MM → Prop} (C : Cx T cX8_goesTo 3 RX8 0 0) (CR : CxR T 0 0) (hr : T.2.2.2.2.2.2.2.2.1.sig.returnType = none) (hnm : T.2.2.2.2.2.2.2.2.1.name = "goesTo") {nx : Nat → Kt} (hn : ∀ pc, Sd T 3 (QT T Q 0 0) 0 0 pc (nx pc)) : Sd T 3 (QT T Q 0 0) 0 0 0 (bX8_goesTo_0 Q nx) := x_il_n C dX8_goesTo_0 rfl (x_al_n C dX8_goesTo_1 rfl (gf_X8_35 C dX8_goesTo_2 (x_il_n C dX8_goesTo_5 rfl (x_iald C dX8_goesTo_6 (x_ic_eq C (hn 38) dX8_goesTo_7 (by decide) (x_il_n C dX8_goesTo_10 rfl (x_ic C dX8_goesTo_11 (by decide) (x_ic_eq C (hn 25) dX8_goesTo_12 (by decide) (x_al_n C dX8_goesTo_15 rfl (gf_X8_35 C dX8_goesTo_16 (x_il_n C dX8_goesTo_19 rfl (x_iald C dX8_goesTo_20 (x_ic C dX8_goesTo_21 (by decide) (x_ic_ne C (hn 38) dX8_goesTo_22 (by decide) (hn 25)))))))))))))))
set_option maxRecDepth 20000 in
theorem oX8_goesTo_25 {T : Ct} {Q : Option Value → MM → Prop} (C : Cx T cX8_goesTo 3 RX8 0 0) (CR : CxR T 0 0) (hr : T.2.2.2.2.2.2.2.2.1.sig.returnType = none) (hnm : T.2.2.2.2.2.2.2.2.1.name = "goesTo") {nx : Nat → Kt} (hn : ∀ pc, Sd T 3 (QT T Q 0 0) 0 0 pc (nx pc)) : Sd T 3 (QT T Q 0 0) 0 0 25 (bX8_goesTo_25 Q nx) := x_al_n C dX8_goesTo_25 rfl (gf_X8_123 C dX8_goesTo_26 (x_il_n C dX8_goesTo_29 rfl (x_bp C dX8_goesTo_30 (by decide) (x_idiv C dX8_goesTo_32 (x_dup2 C dX8_goesTo_33 (x_iald C dX8_goesTo_34 (x_ic C dX8_goesTo_35 (by decide) (x_iadd C dX8_goesTo_36 (x_iast C dX8_goesTo_37 (hn 38))))))))))
set_option maxRecDepth 20000 in
theorem oX8_goesTo_38 {T : Ct} {Q : Option Value → MM → Prop} (C : Cx T cX8_goesTo 3 RX8 0 0) (CR : CxR T 0 0) (hr : T.2.2.2.2.2.2.2.2.1.sig.returnType = none) (hnm : T.2.2.2.2.2.2.2.2.1.name = "goesTo") {nx : Nat → Kt} (hn : ∀ pc, Sd T 3 (QT T Q 0 0) 0 0 pc (nx pc)) : Sd T 3 (QT T Q 0 0) 0 0 38 (bX8_goesTo_38 Q nx) := x_al_n C dX8_goesTo_38 rfl (gf_X8_35 C dX8_goesTo_39 (x_il_n C dX8_goesTo_42 rfl (x_il_n C dX8_goesTo_43 rfl (x_iast C dX8_goesTo_44 (x_rV C hr dX8_goesTo_45)))))
set_option maxRecDepth 20000 in
theorem mX8_goesTo (l : Launch) (D : va_G) (cA : Nat → ClassId) (base : Nat) : Mc l D cA base yX8_goesTo cX8_goesTo 3 none rX8_goesTo wX8_goesTo := mc_of (by decide +kernel) kX8_goesTo (fun T Q C CR hr hnm nx hn => bse_ok _ (List.forall_mem_cons.mpr ⟨oX8_goesTo_0 C CR hr hnm hn, List.forall_mem_cons.mpr ⟨oX8_goesTo_25 C CR hr hnm hn, List.forall_mem_cons.mpr ⟨oX8_goesTo_38 C CR hr hnm hn, fun _ h => nomatch h⟩⟩⟩))
theorem dX8_isLitNow_0 : decode cX8_isLitNow 0 = .ok (.aload_n 0, 1) := by decide +kernel
theorem dX8_isLitNow_1 : decode cX8_isLitNow 1 = .ok (.getfield 29, 3) := by decide +kernel
theorem dX8_isLitNow_4 : decode cX8_isLitNow 4 = .ok (.iload_n 1, 1) := by decide +kernel
theorem dX8_isLitNow_5 : decode cX8_isLitNow 5 = .ok (.iconst 1, 1) := by decide +kernel
theorem dX8_isLitNow_6 : decode cX8_isLitNow 6 = .ok (.iastore, 1) := by decide +kernel
theorem dX8_isLitNow_7 : decode cX8_isLitNow 7 = .ok (.aload_n 0, 1) := by decide +kernel
theorem dX8_isLitNow_8 : decode cX8_isLitNow 8 = .ok (.getfield 32, 3) := by decide +kernel
theorem dX8_isLitNow_11 : decode cX8_isLitNow 11 = .ok (.iload_n 1, 1) := by decide +kernel
theorem dX8_isLitNow_12 : decode cX8_isLitNow 12 = .ok (.iconst 3, 1) := by decide +kernel
theorem dX8_isLitNow_13 : decode cX8_isLitNow 13 = .ok (.iastore, 1) := by decide +kernel
theorem dX8_isLitNow_14 : decode cX8_isLitNow 14 = .ok (.aload_n 0, 1) := by decide +kernel
theorem dX8_isLitNow_15 : decode cX8_isLitNow 15 = .ok (.iload_n 1, 1) := by decide +kernel
theorem dX8_isLitNow_16 : decode cX8_isLitNow 16 = .ok (.invokevirtual 140, 3) := by decide +kernel
theorem dX8_isLitNow_19 : decode cX8_isLitNow 19 = .ok (.aload_n 0, 1) := by decide +kernel
theorem dX8_isLitNow_20 : decode cX8_isLitNow 20 = .ok (.iload_n 1, 1) := by decide +kernel
theorem dX8_isLitNow_21 : decode cX8_isLitNow 21 = .ok (.iconst 0, 1) := by decide +kernel
theorem dX8_isLitNow_22 : decode cX8_isLitNow 22 = .ok (.invokevirtual 144, 3) := by decide +kernel
theorem dX8_isLitNow_25 : decode cX8_isLitNow 25 = .ok (.aload_n 0, 1) := by decide +kernel
theorem dX8_isLitNow_26 : decode cX8_isLitNow 26 = .ok (.getfield 50, 3) := by decide +kernel
theorem dX8_isLitNow_29 : decode cX8_isLitNow 29 = .ok (.iload_n 1, 1) := by decide +kernel
theorem dX8_isLitNow_30 : decode cX8_isLitNow 30 = .ok (.iconst 0, 1) := by decide +kernel
theorem dX8_isLitNow_31 : decode cX8_isLitNow 31 = .ok (.bastore, 1) := by decide +kernel
theorem dX8_isLitNow_32 : decode cX8_isLitNow 32 = .ok (.aload_n 0, 1) := by decide +kernel
theorem dX8_isLitNow_33 : decode cX8_isLitNow 33 = .ok (.getfield 71, 3) := by decide +kernel
theorem dX8_isLitNow_36 : decode cX8_isLitNow 36 = .ok (.iload_n 1, 1) := by decide +kernel
theorem dX8_isLitNow_37 : decode cX8_isLitNow 37 = .ok (.iconst (-1), 1) := by decide +kernel
theorem dX8_isLitNow_38 : decode cX8_isLitNow 38 = .ok (.iastore, 1) := by decide +kernel
theorem dX8_isLitNow_39 : decode cX8_isLitNow 39 = .ok (.return_, 1) := by decide +kernel
noncomputable def bX8_isLitNow_0 (Q : Option Value → MM → Prop) (nx : Nat → Kt) : Kt := ldA 0 (gR 8 7 (ldI 1 (cI 1 (sAI (ldA 0 (gR 8 8 (ldI 1 (cI 3 (sAI (ldA 0 (ldI 1 (cV 1 8 wX8_partnerStops 0 0 0 0 (ldA 0 (ldI 1 (cI 0 (cV 2 8 wX8_goesTo 0 0 0 0 (ldA 0 (gR 8 14 (ldI 1 (cI 0 (sAZ (ldA 0 (gR 8 21 (ldI 1 (cI (-1) (sAI (rV Q)))))))))))))))))))))))))))
noncomputable def kX8_isLitNow (Q : Option Value → MM → Prop) (nx : Nat → Kt) : Nat → Kt := bse [(0, bX8_isLitNow_0 Q nx)]
abbrev rX8_isLitNow : Room := { frames := 1, cells := 0, slots := 0, locals := 22 }
noncomputable def wX8_isLitNow : Mw := mw 2 kX8_isLitNow
set_option maxRecDepth 20000 in
theorem oX8_isLitNow_0 {T : Ct} {Q : Option Value → MM → Prop} (C : Cx T cX8_isLitNow 2 RX8 0 0) (CR : CxR T 1 22) (hr : T.2.2.2.2.2.2.2.2.1.sig.returnType = none) (hnm : T.2.2.2.2.2.2.2.2.1.name = "isLitNow") {nx : Nat → Kt} (hn : ∀ pc, Sd T 2 (QT T Q 0 0) 0 0 pc (nx pc)) : Sd T 2 (QT T Q 0 0) 0 0 0 (bX8_isLitNow_0 Q nx) := x_al_n C dX8_isLitNow_0 rfl (gf_X8_29 C dX8_isLitNow_1 (x_il_n C dX8_isLitNow_4 rfl (x_ic C dX8_isLitNow_5 (by decide) (x_iast C dX8_isLitNow_6 (x_al_n C dX8_isLitNow_7 rfl (gf_X8_32 C dX8_isLitNow_8 (x_il_n C dX8_isLitNow_11 rfl (x_ic C dX8_isLitNow_12 (by decide) (x_iast C dX8_isLitNow_13 (x_al_n C dX8_isLitNow_14 rfl (x_il_n C dX8_isLitNow_15 rfl (x_cV C CR mX8_partnerStops ⟨co_X8_partnerStops, init_X8, md_X8_partnerStops, by decide, by decide⟩ (ci := 8) (TX := TX8) (N := 51) rfl (by decide) ml_X8_140 im_X8_partnerStops se_X8_partnerStops dX8_isLitNow_16 (x_al_n C dX8_isLitNow_19 rfl (x_il_n C dX8_isLitNow_20 rfl (x_ic C dX8_isLitNow_21 (by decide) (x_cV C CR mX8_goesTo ⟨co_X8_goesTo, init_X8, md_X8_goesTo, by decide, by decide⟩ (ci := 8) (TX := TX8) (N := 51) rfl (by decide) ml_X8_144 im_X8_goesTo se_X8_goesTo dX8_isLitNow_22 (x_al_n C dX8_isLitNow_25 rfl (gf_X8_50 C dX8_isLitNow_26 (x_il_n C dX8_isLitNow_29 rfl (x_ic C dX8_isLitNow_30 (by decide) (x_zast C dX8_isLitNow_31 (x_al_n C dX8_isLitNow_32 rfl (gf_X8_71 C dX8_isLitNow_33 (x_il_n C dX8_isLitNow_36 rfl (x_ic C dX8_isLitNow_37 (by decide) (x_iast C dX8_isLitNow_38 (x_rV C hr dX8_isLitNow_39)))))))))))))))))))))))))))
set_option maxRecDepth 20000 in
theorem mX8_isLitNow (l : Launch) (D : va_G) (cA : Nat → ClassId) (base : Nat) : Mc l D cA base yX8_isLitNow cX8_isLitNow 2 none rX8_isLitNow wX8_isLitNow := mc_of (by decide +kernel) kX8_isLitNow (fun T Q C CR hr hnm nx hn => bse_ok _ (List.forall_mem_cons.mpr ⟨oX8_isLitNow_0 C CR hr hnm hn, fun _ h => nomatch h⟩))
theorem dX8_isDarkNow_0 : decode cX8_isDarkNow 0 = .ok (.aload_n 0, 1) := by decide +kernel
theorem dX8_isDarkNow_1 : decode cX8_isDarkNow 1 = .ok (.getfield 29, 3) := by decide +kernel
theorem dX8_isDarkNow_4 : decode cX8_isDarkNow 4 = .ok (.iload_n 1, 1) := by decide +kernel
theorem dX8_isDarkNow_5 : decode cX8_isDarkNow 5 = .ok (.iconst 0, 1) := by decide +kernel
theorem dX8_isDarkNow_6 : decode cX8_isDarkNow 6 = .ok (.iastore, 1) := by decide +kernel
theorem dX8_isDarkNow_7 : decode cX8_isDarkNow 7 = .ok (.aload_n 0, 1) := by decide +kernel
theorem dX8_isDarkNow_8 : decode cX8_isDarkNow 8 = .ok (.getfield 32, 3) := by decide +kernel
theorem dX8_isDarkNow_11 : decode cX8_isDarkNow 11 = .ok (.iload_n 1, 1) := by decide +kernel
theorem dX8_isDarkNow_12 : decode cX8_isDarkNow 12 = .ok (.iconst 0, 1) := by decide +kernel
theorem dX8_isDarkNow_13 : decode cX8_isDarkNow 13 = .ok (.iastore, 1) := by decide +kernel
theorem dX8_isDarkNow_14 : decode cX8_isDarkNow 14 = .ok (.aload_n 0, 1) := by decide +kernel
theorem dX8_isDarkNow_15 : decode cX8_isDarkNow 15 = .ok (.iload_n 1, 1) := by decide +kernel
theorem dX8_isDarkNow_16 : decode cX8_isDarkNow 16 = .ok (.iconst 0, 1) := by decide +kernel
theorem dX8_isDarkNow_17 : decode cX8_isDarkNow 17 = .ok (.invokevirtual 144, 3) := by decide +kernel
theorem dX8_isDarkNow_20 : decode cX8_isDarkNow 20 = .ok (.aload_n 0, 1) := by decide +kernel
theorem dX8_isDarkNow_21 : decode cX8_isDarkNow 21 = .ok (.iload_n 1, 1) := by decide +kernel
theorem dX8_isDarkNow_22 : decode cX8_isDarkNow 22 = .ok (.invokevirtual 148, 3) := by decide +kernel
theorem dX8_isDarkNow_25 : decode cX8_isDarkNow 25 = .ok (.aload_n 0, 1) := by decide +kernel
theorem dX8_isDarkNow_26 : decode cX8_isDarkNow 26 = .ok (.getfield 44, 3) := by decide +kernel
theorem dX8_isDarkNow_29 : decode cX8_isDarkNow 29 = .ok (.iload_n 1, 1) := by decide +kernel
theorem dX8_isDarkNow_30 : decode cX8_isDarkNow 30 = .ok (.iconst (-1), 1) := by decide +kernel
theorem dX8_isDarkNow_31 : decode cX8_isDarkNow 31 = .ok (.iastore, 1) := by decide +kernel
theorem dX8_isDarkNow_32 : decode cX8_isDarkNow 32 = .ok (.aload_n 0, 1) := by decide +kernel
theorem dX8_isDarkNow_33 : decode cX8_isDarkNow 33 = .ok (.getfield 47, 3) := by decide +kernel
theorem dX8_isDarkNow_36 : decode cX8_isDarkNow 36 = .ok (.iload_n 1, 1) := by decide +kernel
theorem dX8_isDarkNow_37 : decode cX8_isDarkNow 37 = .ok (.iconst 0, 1) := by decide +kernel
theorem dX8_isDarkNow_38 : decode cX8_isDarkNow 38 = .ok (.bastore, 1) := by decide +kernel
theorem dX8_isDarkNow_39 : decode cX8_isDarkNow 39 = .ok (.aload_n 0, 1) := by decide +kernel
theorem dX8_isDarkNow_40 : decode cX8_isDarkNow 40 = .ok (.getfield 50, 3) := by decide +kernel
theorem dX8_isDarkNow_43 : decode cX8_isDarkNow 43 = .ok (.iload_n 1, 1) := by decide +kernel
theorem dX8_isDarkNow_44 : decode cX8_isDarkNow 44 = .ok (.iconst 0, 1) := by decide +kernel
theorem dX8_isDarkNow_45 : decode cX8_isDarkNow 45 = .ok (.bastore, 1) := by decide +kernel
theorem dX8_isDarkNow_46 : decode cX8_isDarkNow 46 = .ok (.aload_n 0, 1) := by decide +kernel
theorem dX8_isDarkNow_47 : decode cX8_isDarkNow 47 = .ok (.getfield 71, 3) := by decide +kernel
theorem dX8_isDarkNow_50 : decode cX8_isDarkNow 50 = .ok (.iload_n 1, 1) := by decide +kernel
theorem dX8_isDarkNow_51 : decode cX8_isDarkNow 51 = .ok (.iconst (-1), 1) := by decide +kernel
theorem dX8_isDarkNow_52 : decode cX8_isDarkNow 52 = .ok (.iastore, 1) := by decide +kernel
theorem dX8_isDarkNow_53 : decode cX8_isDarkNow 53 = .ok (.return_, 1) := by decide +kernel
noncomputable def bX8_isDarkNow_0 (Q : Option Value → MM → Prop) (nx : Nat → Kt) : Kt := ldA 0 (gR 8 7 (ldI 1 (cI 0 (sAI (ldA 0 (gR 8 8 (ldI 1 (cI 0 (sAI (ldA 0 (ldI 1 (cI 0 (cV 2 8 wX8_goesTo 0 0 0 0 (ldA 0 (ldI 1 (cV 1 8 wX8_forgets 0 0 0 0 (ldA 0 (gR 8 12 (ldI 1 (cI (-1) (sAI (ldA 0 (gR 8 13 (ldI 1 (cI 0 (sAZ (ldA 0 (gR 8 14 (ldI 1 (cI 0 (sAZ (ldA 0 (gR 8 21 (ldI 1 (cI (-1) (sAI (rV Q)))))))))))))))))))))))))))))))))))))
noncomputable def kX8_isDarkNow (Q : Option Value → MM → Prop) (nx : Nat → Kt) : Nat → Kt := bse [(0, bX8_isDarkNow_0 Q nx)]
abbrev rX8_isDarkNow : Room := { frames := 1, cells := 0, slots := 0, locals := 22 }
noncomputable def wX8_isDarkNow : Mw := mw 2 kX8_isDarkNow
set_option maxRecDepth 20000 in
theorem oX8_isDarkNow_0 {T : Ct} {Q : Option Value → MM → Prop} (C : Cx T cX8_isDarkNow 2 RX8 0 0) (CR : CxR T 1 22) (hr : T.2.2.2.2.2.2.2.2.1.sig.returnType = none) (hnm : T.2.2.2.2.2.2.2.2.1.name = "isDarkNow") {nx : Nat → Kt} (hn : ∀ pc, Sd T 2 (QT T Q 0 0) 0 0 pc (nx pc)) : Sd T 2 (QT T Q 0 0) 0 0 0 (bX8_isDarkNow_0 Q nx) := x_al_n C dX8_isDarkNow_0 rfl (gf_X8_29 C dX8_isDarkNow_1 (x_il_n C dX8_isDarkNow_4 rfl (x_ic C dX8_isDarkNow_5 (by decide) (x_iast C dX8_isDarkNow_6 (x_al_n C dX8_isDarkNow_7 rfl (gf_X8_32 C dX8_isDarkNow_8 (x_il_n C dX8_isDarkNow_11 rfl (x_ic C dX8_isDarkNow_12 (by decide) (x_iast C dX8_isDarkNow_13 (x_al_n C dX8_isDarkNow_14 rfl (x_il_n C dX8_isDarkNow_15 rfl (x_ic C dX8_isDarkNow_16 (by decide) (x_cV C CR mX8_goesTo ⟨co_X8_goesTo, init_X8, md_X8_goesTo, by decide, by decide⟩ (ci := 8) (TX := TX8) (N := 51) rfl (by decide) ml_X8_144 im_X8_goesTo se_X8_goesTo dX8_isDarkNow_17 (x_al_n C dX8_isDarkNow_20 rfl (x_il_n C dX8_isDarkNow_21 rfl (x_cV C CR mX8_forgets ⟨co_X8_forgets, init_X8, md_X8_forgets, by decide, by decide⟩ (ci := 8) (TX := TX8) (N := 51) rfl (by decide) ml_X8_148 im_X8_forgets se_X8_forgets dX8_isDarkNow_22 (x_al_n C dX8_isDarkNow_25 rfl (gf_X8_44 C dX8_isDarkNow_26 (x_il_n C dX8_isDarkNow_29 rfl (x_ic C dX8_isDarkNow_30 (by decide) (x_iast C dX8_isDarkNow_31 (x_al_n C dX8_isDarkNow_32 rfl (gf_X8_47 C dX8_isDarkNow_33 (x_il_n C dX8_isDarkNow_36 rfl (x_ic C dX8_isDarkNow_37 (by decide) (x_zast C dX8_isDarkNow_38 (x_al_n C dX8_isDarkNow_39 rfl (gf_X8_50 C dX8_isDarkNow_40 (x_il_n C dX8_isDarkNow_43 rfl (x_ic C dX8_isDarkNow_44 (by decide) (x_zast C dX8_isDarkNow_45 (x_al_n C dX8_isDarkNow_46 rfl (gf_X8_71 C dX8_isDarkNow_47 (x_il_n C dX8_isDarkNow_50 rfl (x_ic C dX8_isDarkNow_51 (by decide) (x_iast C dX8_isDarkNow_52 (x_rV C hr dX8_isDarkNow_53)))))))))))))))))))))))))))))))))))))
set_option maxRecDepth 20000 in
theorem mX8_isDarkNow (l : Launch) (D : va_G) (cA : Nat → ClassId) (base : Nat) : Mc l D cA base yX8_isDarkNow cX8_isDarkNow 2 none rX8_isDarkNow wX8_isDarkNow := mc_of (by decide +kernel) kX8_isDarkNow (fun T Q C CR hr hnm nx hn => bse_ok _ (List.forall_mem_cons.mpr ⟨oX8_isDarkNow_0 C CR hr hnm hn, fun _ h => nomatch h⟩))
theorem dX8_isNotQuiet_0 : decode cX8_isNotQuiet 0 = .ok (.aload_n 0, 1) := by decide +kernel
theorem dX8_isNotQuiet_1 : decode cX8_isNotQuiet 1 = .ok (.iconst 0, 1) := by decide +kernel
theorem dX8_isNotQuiet_2 : decode cX8_isNotQuiet 2 = .ok (.putfield 151, 3) := by decide +kernel
theorem dX8_isNotQuiet_5 : decode cX8_isNotQuiet 5 = .ok (.return_, 1) := by decide +kernel
noncomputable def bX8_isNotQuiet_0 (Q : Option Value → MM → Prop) (nx : Nat → Kt) : Kt := ldA 0 (cI 0 (tI 8 44 (rV Q)))
noncomputable def kX8_isNotQuiet (Q : Option Value → MM → Prop) (nx : Nat → Kt) : Nat → Kt := bse [(0, bX8_isNotQuiet_0 Q nx)]
abbrev rX8_isNotQuiet : Room := { frames := 0, cells := 0, slots := 0, locals := 0 }
noncomputable def wX8_isNotQuiet : Mw := mw 1 kX8_isNotQuiet
set_option maxRecDepth 20000 in
theorem oX8_isNotQuiet_0 {T : Ct} {Q : Option Value → MM → Prop} (C : Cx T cX8_isNotQuiet 1 RX8 0 0) (CR : CxR T 0 0) (hr : T.2.2.2.2.2.2.2.2.1.sig.returnType = none) (hnm : T.2.2.2.2.2.2.2.2.1.name = "isNotQuiet") {nx : Nat → Kt} (hn : ∀ pc, Sd T 1 (QT T Q 0 0) 0 0 pc (nx pc)) : Sd T 1 (QT T Q 0 0) 0 0 0 (bX8_isNotQuiet_0 Q nx) := x_al_n C dX8_isNotQuiet_0 rfl (x_ic C dX8_isNotQuiet_1 (by decide) (pf_X8_151 C dX8_isNotQuiet_2 (x_rV C hr dX8_isNotQuiet_5)))
set_option maxRecDepth 20000 in
theorem mX8_isNotQuiet (l : Launch) (D : va_G) (cA : Nat → ClassId) (base : Nat) : Mc l D cA base yX8_isNotQuiet cX8_isNotQuiet 1 none rX8_isNotQuiet wX8_isNotQuiet := mc_of (by decide +kernel) kX8_isNotQuiet (fun T Q C CR hr hnm nx hn => bse_ok _ (List.forall_mem_cons.mpr ⟨oX8_isNotQuiet_0 C CR hr hnm hn, fun _ h => nomatch h⟩))
theorem dX8_system_0 : decode cX8_system 0 = .ok (.aload_n 0, 1) := by decide +kernel
theorem dX8_system_1 : decode cX8_system 1 = .ok (.iload_n 1, 1) := by decide +kernel
theorem dX8_system_2 : decode cX8_system 2 = .ok (.invokestatic 154, 3) := by decide +kernel
theorem dX8_system_5 : decode cX8_system 5 = .ok (.ifCond .eq 14, 3) := by decide +kernel
theorem dX8_system_8 : decode cX8_system 8 = .ok (.iload_n 2, 1) := by decide +kernel
theorem dX8_system_9 : decode cX8_system 9 = .ok (.iconst 1, 1) := by decide +kernel
theorem dX8_system_10 : decode cX8_system 10 = .ok (.if_icmp .lt 9, 3) := by decide +kernel
theorem dX8_system_13 : decode cX8_system 13 = .ok (.iload_n 2, 1) := by decide +kernel
theorem dX8_system_14 : decode cX8_system 14 = .ok (.ldc 158, 2) := by decide +kernel
theorem dX8_system_16 : decode cX8_system 16 = .ok (.if_icmp .le 7, 3) := by decide +kernel
theorem dX8_system_19 : decode cX8_system 19 = .ok (.iconst 1, 1) := by decide +kernel
theorem dX8_system_20 : decode cX8_system 20 = .ok (.goto 20, 3) := by decide +kernel
theorem dX8_system_23 : decode cX8_system 23 = .ok (.aload_n 0, 1) := by decide +kernel
theorem dX8_system_24 : decode cX8_system 24 = .ok (.getfield 7, 3) := by decide +kernel
theorem dX8_system_27 : decode cX8_system 27 = .ok (.iconst 1, 1) := by decide +kernel
theorem dX8_system_28 : decode cX8_system 28 = .ok (.iload_n 1, 1) := by decide +kernel
theorem dX8_system_29 : decode cX8_system 29 = .ok (.isub, 1) := by decide +kernel
theorem dX8_system_30 : decode cX8_system 30 = .ok (.iaload, 1) := by decide +kernel
theorem dX8_system_31 : decode cX8_system 31 = .ok (.iload_n 2, 1) := by decide +kernel
theorem dX8_system_32 : decode cX8_system 32 = .ok (.if_icmp .ne 7, 3) := by decide +kernel
theorem dX8_system_35 : decode cX8_system 35 = .ok (.iconst 2, 1) := by decide +kernel
theorem dX8_system_36 : decode cX8_system 36 = .ok (.goto 4, 3) := by decide +kernel
theorem dX8_system_39 : decode cX8_system 39 = .ok (.iconst 0, 1) := by decide +kernel
theorem dX8_system_40 : decode cX8_system 40 = .ok (.putfield 132, 3) := by decide +kernel
theorem dX8_system_43 : decode cX8_system 43 = .ok (.aload_n 0, 1) := by decide +kernel
theorem dX8_system_44 : decode cX8_system 44 = .ok (.getfield 132, 3) := by decide +kernel
theorem dX8_system_47 : decode cX8_system 47 = .ok (.ifCond .le 5, 3) := by decide +kernel
theorem dX8_system_50 : decode cX8_system 50 = .ok (.iconst 0, 1) := by decide +kernel
theorem dX8_system_51 : decode cX8_system 51 = .ok (.ireturn, 1) := by decide +kernel
theorem dX8_system_52 : decode cX8_system 52 = .ok (.aload_n 0, 1) := by decide +kernel
theorem dX8_system_53 : decode cX8_system 53 = .ok (.getfield 7, 3) := by decide +kernel
theorem dX8_system_56 : decode cX8_system 56 = .ok (.iload_n 1, 1) := by decide +kernel
theorem dX8_system_57 : decode cX8_system 57 = .ok (.iaload, 1) := by decide +kernel
theorem dX8_system_58 : decode cX8_system 58 = .ok (.istore_n 3, 1) := by decide +kernel
theorem dX8_system_59 : decode cX8_system 59 = .ok (.aload_n 0, 1) := by decide +kernel
theorem dX8_system_60 : decode cX8_system 60 = .ok (.getfield 7, 3) := by decide +kernel
theorem dX8_system_63 : decode cX8_system 63 = .ok (.iload_n 1, 1) := by decide +kernel
theorem dX8_system_64 : decode cX8_system 64 = .ok (.iload_n 2, 1) := by decide +kernel
theorem dX8_system_65 : decode cX8_system 65 = .ok (.iastore, 1) := by decide +kernel
theorem dX8_system_66 : decode cX8_system 66 = .ok (.aload_n 0, 1) := by decide +kernel
theorem dX8_system_67 : decode cX8_system 67 = .ok (.invokevirtual 159, 3) := by decide +kernel
theorem dX8_system_70 : decode cX8_system 70 = .ok (.iload_n 3, 1) := by decide +kernel
theorem dX8_system_71 : decode cX8_system 71 = .ok (.ireturn, 1) := by decide +kernel
noncomputable def bX8_system_0 (Q : Option Value → MM → Prop) (nx : Nat → Kt) : Kt := ldA 0 (ldI 1 (cS 1 wX8_isEnd 0 0 0 0 (ifz (fun x => x = 0) (nx 19) (ldI 2 (cI 1 (ifc (fun x y => x < y) (nx 19) (ldI 2 (cI 1000000 (ifc (fun x y => x ≤ y) (nx 23) (nx 19))))))))))
noncomputable def bX8_system_19 (Q : Option Value → MM → Prop) (nx : Nat → Kt) : Kt := cI 1 (nx 40)
noncomputable def bX8_system_23 (Q : Option Value → MM → Prop) (nx : Nat → Kt) : Kt := ldA 0 (gR 8 1 (cI 1 (ldI 1 (bop (fun x y => x - y) (aI 10 (ldI 2 (ifc (fun x y => x = y) (cI 2 (nx 40)) (nx 39))))))))
noncomputable def bX8_system_39 (Q : Option Value → MM → Prop) (nx : Nat → Kt) : Kt := cI 0 (nx 40)
noncomputable def bX8_system_40 (Q : Option Value → MM → Prop) (nx : Nat → Kt) : Kt := tI 8 0 (ldA 0 (gI 8 0 (ifz (fun x => x ≤ 0) (nx 52) (cI 0 (rI Q)))))
noncomputable def bX8_system_52 (Q : Option Value → MM → Prop) (nx : Nat → Kt) : Kt := ldA 0 (gR 8 1 (ldI 1 (aI 10 (stI 3 (ldA 0 (gR 8 1 (ldI 1 (ldI 2 (sAI (ldA 0 (cV 0 8 wX8_isNotQuiet 0 0 0 0 (ldI 3 (rI Q)))))))))))))
noncomputable def kX8_system (Q : Option Value → MM → Prop) (nx : Nat → Kt) : Nat → Kt := bse [(0, bX8_system_0 Q nx), (19, bX8_system_19 Q nx), (23, bX8_system_23 Q nx), (39, bX8_system_39 Q nx), (40, bX8_system_40 Q nx), (52, bX8_system_52 Q nx)]
abbrev rX8_system : Room := { frames := 1, cells := 0, slots := 0, locals := 20 }
noncomputable def wX8_system : Mw := mw 4 kX8_system
set_option maxRecDepth 20000 in
theorem oX8_system_0 {T : Ct} {Q : Option Value → MM → Prop} (C : Cx T cX8_system 4 RX8 0 0) (CR : CxR T 1 20) (hr : T.2.2.2.2.2.2.2.2.1.sig.returnType = (some .int)) (hnm : T.2.2.2.2.2.2.2.2.1.name = "system") {nx : Nat → Kt} (hn : ∀ pc, Sd T 4 (QT T Q 0 0) 0 0 pc (nx pc)) : Sd T 4 (QT T Q 0 0) 0 0 0 (bX8_system_0 Q nx) := x_al_n C dX8_system_0 rfl (x_il_n C dX8_system_1 rfl (x_cS C CR mX8_isEnd ⟨co_X8_isEnd, init_X8, md_X8_isEnd, by decide, by decide⟩ ml_X8_154 sm_X8_isEnd dX8_system_2 (x_if_eq C (hn 19) dX8_system_5 (by decide) (x_il_n C dX8_system_8 rfl (x_ic C dX8_system_9 (by decide) (x_ic_lt C (hn 19) dX8_system_10 (by decide) (x_il_n C dX8_system_13 rfl (x_lc C ct_X8_158 dX8_system_14 (x_ic_le C (hn 23) dX8_system_16 (by decide) (hn 19))))))))))
set_option maxRecDepth 20000 in
theorem oX8_system_19 {T : Ct} {Q : Option Value → MM → Prop} (C : Cx T cX8_system 4 RX8 0 0) (CR : CxR T 1 20) (hr : T.2.2.2.2.2.2.2.2.1.sig.returnType = (some .int)) (hnm : T.2.2.2.2.2.2.2.2.1.name = "system") {nx : Nat → Kt} (hn : ∀ pc, Sd T 4 (QT T Q 0 0) 0 0 pc (nx pc)) : Sd T 4 (QT T Q 0 0) 0 0 19 (bX8_system_19 Q nx) := x_ic C dX8_system_19 (by decide) (x_goto C (hn 40) dX8_system_20 (by decide))
set_option maxRecDepth 20000 in
theorem oX8_system_23 {T : Ct} {Q : Option Value → MM → Prop} (C : Cx T cX8_system 4 RX8 0 0) (CR : CxR T 1 20) (hr : T.2.2.2.2.2.2.2.2.1.sig.returnType = (some .int)) (hnm : T.2.2.2.2.2.2.2.2.1.name = "system") {nx : Nat → Kt} (hn : ∀ pc, Sd T 4 (QT T Q 0 0) 0 0 pc (nx pc)) : Sd T 4 (QT T Q 0 0) 0 0 23 (bX8_system_23 Q nx) := x_al_n C dX8_system_23 rfl (gf_X8_7 C dX8_system_24 (x_ic C dX8_system_27 (by decide) (x_il_n C dX8_system_28 rfl (x_isub C dX8_system_29 (x_iald C dX8_system_30 (x_il_n C dX8_system_31 rfl (x_ic_ne C (hn 39) dX8_system_32 (by decide) (x_ic C dX8_system_35 (by decide) (x_goto C (hn 40) dX8_system_36 (by decide))))))))))
set_option maxRecDepth 20000 in
theorem oX8_system_39 {T : Ct} {Q : Option Value → MM → Prop} (C : Cx T cX8_system 4 RX8 0 0) (CR : CxR T 1 20) (hr : T.2.2.2.2.2.2.2.2.1.sig.returnType = (some .int)) (hnm : T.2.2.2.2.2.2.2.2.1.name = "system") {nx : Nat → Kt} (hn : ∀ pc, Sd T 4 (QT T Q 0 0) 0 0 pc (nx pc)) : Sd T 4 (QT T Q 0 0) 0 0 39 (bX8_system_39 Q nx) := x_ic C dX8_system_39 (by decide) (hn 40)
set_option maxRecDepth 20000 in
theorem oX8_system_40 {T : Ct} {Q : Option Value → MM → Prop} (C : Cx T cX8_system 4 RX8 0 0) (CR : CxR T 1 20) (hr : T.2.2.2.2.2.2.2.2.1.sig.returnType = (some .int)) (hnm : T.2.2.2.2.2.2.2.2.1.name = "system") {nx : Nat → Kt} (hn : ∀ pc, Sd T 4 (QT T Q 0 0) 0 0 pc (nx pc)) : Sd T 4 (QT T Q 0 0) 0 0 40 (bX8_system_40 Q nx) := pf_X8_132 C dX8_system_40 (x_al_n C dX8_system_43 rfl (gf_X8_132 C dX8_system_44 (x_if_le C (hn 52) dX8_system_47 (by decide) (x_ic C dX8_system_50 (by decide) (x_rI C hr dX8_system_51)))))
set_option maxRecDepth 20000 in
theorem oX8_system_52 {T : Ct} {Q : Option Value → MM → Prop} (C : Cx T cX8_system 4 RX8 0 0) (CR : CxR T 1 20) (hr : T.2.2.2.2.2.2.2.2.1.sig.returnType = (some .int)) (hnm : T.2.2.2.2.2.2.2.2.1.name = "system") {nx : Nat → Kt} (hn : ∀ pc, Sd T 4 (QT T Q 0 0) 0 0 pc (nx pc)) : Sd T 4 (QT T Q 0 0) 0 0 52 (bX8_system_52 Q nx) := x_al_n C dX8_system_52 rfl (gf_X8_7 C dX8_system_53 (x_il_n C dX8_system_56 rfl (x_iald C dX8_system_57 (x_is_n C dX8_system_58 rfl (by decide) (x_al_n C dX8_system_59 rfl (gf_X8_7 C dX8_system_60 (x_il_n C dX8_system_63 rfl (x_il_n C dX8_system_64 rfl (x_iast C dX8_system_65 (x_al_n C dX8_system_66 rfl (x_cV C CR mX8_isNotQuiet ⟨co_X8_isNotQuiet, init_X8, md_X8_isNotQuiet, by decide, by decide⟩ (ci := 8) (TX := TX8) (N := 51) rfl (by decide) ml_X8_159 im_X8_isNotQuiet se_X8_isNotQuiet dX8_system_67 (x_il_n C dX8_system_70 rfl (x_rI C hr dX8_system_71)))))))))))))
set_option maxRecDepth 20000 in
theorem mX8_system (l : Launch) (D : va_G) (cA : Nat → ClassId) (base : Nat) : Mc l D cA base yX8_system cX8_system 4 (some .int) rX8_system wX8_system := mc_of (by decide +kernel) kX8_system (fun T Q C CR hr hnm nx hn => bse_ok _ (List.forall_mem_cons.mpr ⟨oX8_system_0 C CR hr hnm hn, List.forall_mem_cons.mpr ⟨oX8_system_19 C CR hr hnm hn, List.forall_mem_cons.mpr ⟨oX8_system_23 C CR hr hnm hn, List.forall_mem_cons.mpr ⟨oX8_system_39 C CR hr hnm hn, List.forall_mem_cons.mpr ⟨oX8_system_40 C CR hr hnm hn, List.forall_mem_cons.mpr ⟨oX8_system_52 C CR hr hnm hn, fun _ h => nomatch h⟩⟩⟩⟩⟩⟩))
theorem dX8_limit_0 : decode cX8_limit 0 = .ok (.aload_n 0, 1) := by decide +kernel
theorem dX8_limit_1 : decode cX8_limit 1 = .ok (.iload_n 1, 1) := by decide +kernel
theorem dX8_limit_2 : decode cX8_limit 2 = .ok (.invokestatic 154, 3) := by decide +kernel
theorem dX8_limit_5 : decode cX8_limit 5 = .ok (.ifCond .eq 14, 3) := by decide +kernel
theorem dX8_limit_8 : decode cX8_limit 8 = .ok (.iload_n 2, 1) := by decide +kernel
theorem dX8_limit_9 : decode cX8_limit 9 = .ok (.iconst 1, 1) := by decide +kernel
theorem dX8_limit_10 : decode cX8_limit 10 = .ok (.if_icmp .lt 9, 3) := by decide +kernel
theorem dX8_limit_13 : decode cX8_limit 13 = .ok (.iload_n 2, 1) := by decide +kernel
theorem dX8_limit_14 : decode cX8_limit 14 = .ok (.bipush 8, 2) := by decide +kernel
theorem dX8_limit_16 : decode cX8_limit 16 = .ok (.if_icmp .le 7, 3) := by decide +kernel
theorem dX8_limit_19 : decode cX8_limit 19 = .ok (.iconst 1, 1) := by decide +kernel
theorem dX8_limit_20 : decode cX8_limit 20 = .ok (.goto 4, 3) := by decide +kernel
theorem dX8_limit_23 : decode cX8_limit 23 = .ok (.iconst 0, 1) := by decide +kernel
theorem dX8_limit_24 : decode cX8_limit 24 = .ok (.putfield 132, 3) := by decide +kernel
theorem dX8_limit_27 : decode cX8_limit 27 = .ok (.aload_n 0, 1) := by decide +kernel
theorem dX8_limit_28 : decode cX8_limit 28 = .ok (.getfield 132, 3) := by decide +kernel
theorem dX8_limit_31 : decode cX8_limit 31 = .ok (.ifCond .le 5, 3) := by decide +kernel
theorem dX8_limit_34 : decode cX8_limit 34 = .ok (.iconst 0, 1) := by decide +kernel
theorem dX8_limit_35 : decode cX8_limit 35 = .ok (.ireturn, 1) := by decide +kernel
theorem dX8_limit_36 : decode cX8_limit 36 = .ok (.aload_n 0, 1) := by decide +kernel
theorem dX8_limit_37 : decode cX8_limit 37 = .ok (.getfield 13, 3) := by decide +kernel
theorem dX8_limit_40 : decode cX8_limit 40 = .ok (.iload_n 1, 1) := by decide +kernel
theorem dX8_limit_41 : decode cX8_limit 41 = .ok (.iaload, 1) := by decide +kernel
theorem dX8_limit_42 : decode cX8_limit 42 = .ok (.istore_n 3, 1) := by decide +kernel
theorem dX8_limit_43 : decode cX8_limit 43 = .ok (.aload_n 0, 1) := by decide +kernel
theorem dX8_limit_44 : decode cX8_limit 44 = .ok (.getfield 13, 3) := by decide +kernel
theorem dX8_limit_47 : decode cX8_limit 47 = .ok (.iload_n 1, 1) := by decide +kernel
theorem dX8_limit_48 : decode cX8_limit 48 = .ok (.iload_n 2, 1) := by decide +kernel
theorem dX8_limit_49 : decode cX8_limit 49 = .ok (.iastore, 1) := by decide +kernel
theorem dX8_limit_50 : decode cX8_limit 50 = .ok (.aload_n 0, 1) := by decide +kernel
theorem dX8_limit_51 : decode cX8_limit 51 = .ok (.invokevirtual 159, 3) := by decide +kernel
theorem dX8_limit_54 : decode cX8_limit 54 = .ok (.iload_n 3, 1) := by decide +kernel
theorem dX8_limit_55 : decode cX8_limit 55 = .ok (.ireturn, 1) := by decide +kernel
noncomputable def bX8_limit_0 (Q : Option Value → MM → Prop) (nx : Nat → Kt) : Kt := ldA 0 (ldI 1 (cS 1 wX8_isEnd 0 0 0 0 (ifz (fun x => x = 0) (nx 19) (ldI 2 (cI 1 (ifc (fun x y => x < y) (nx 19) (ldI 2 (cI 8 (ifc (fun x y => x ≤ y) (nx 23) (nx 19))))))))))
noncomputable def bX8_limit_19 (Q : Option Value → MM → Prop) (nx : Nat → Kt) : Kt := cI 1 (nx 24)
noncomputable def bX8_limit_23 (Q : Option Value → MM → Prop) (nx : Nat → Kt) : Kt := cI 0 (nx 24)
noncomputable def bX8_limit_24 (Q : Option Value → MM → Prop) (nx : Nat → Kt) : Kt := tI 8 0 (ldA 0 (gI 8 0 (ifz (fun x => x ≤ 0) (nx 36) (cI 0 (rI Q)))))
noncomputable def bX8_limit_36 (Q : Option Value → MM → Prop) (nx : Nat → Kt) : Kt := ldA 0 (gR 8 2 (ldI 1 (aI 10 (stI 3 (ldA 0 (gR 8 2 (ldI 1 (ldI 2 (sAI (ldA 0 (cV 0 8 wX8_isNotQuiet 0 0 0 0 (ldI 3 (rI Q)))))))))))))
noncomputable def kX8_limit (Q : Option Value → MM → Prop) (nx : Nat → Kt) : Nat → Kt := bse [(0, bX8_limit_0 Q nx), (19, bX8_limit_19 Q nx), (23, bX8_limit_23 Q nx), (24, bX8_limit_24 Q nx), (36, bX8_limit_36 Q nx)]
abbrev rX8_limit : Room := { frames := 1, cells := 0, slots := 0, locals := 20 }
noncomputable def wX8_limit : Mw := mw 4 kX8_limit
set_option maxRecDepth 20000 in
theorem oX8_limit_0 {T : Ct} {Q : Option Value → MM → Prop} (C : Cx T cX8_limit 4 RX8 0 0) (CR : CxR T 1 20) (hr : T.2.2.2.2.2.2.2.2.1.sig.returnType = (some .int)) (hnm : T.2.2.2.2.2.2.2.2.1.name = "limit") {nx : Nat → Kt} (hn : ∀ pc, Sd T 4 (QT T Q 0 0) 0 0 pc (nx pc)) : Sd T 4 (QT T Q 0 0) 0 0 0 (bX8_limit_0 Q nx) := x_al_n C dX8_limit_0 rfl (x_il_n C dX8_limit_1 rfl (x_cS C CR mX8_isEnd ⟨co_X8_isEnd, init_X8, md_X8_isEnd, by decide, by decide⟩ ml_X8_154 sm_X8_isEnd dX8_limit_2 (x_if_eq C (hn 19) dX8_limit_5 (by decide) (x_il_n C dX8_limit_8 rfl (x_ic C dX8_limit_9 (by decide) (x_ic_lt C (hn 19) dX8_limit_10 (by decide) (x_il_n C dX8_limit_13 rfl (x_bp C dX8_limit_14 (by decide) (x_ic_le C (hn 23) dX8_limit_16 (by decide) (hn 19))))))))))
set_option maxRecDepth 20000 in
theorem oX8_limit_19 {T : Ct} {Q : Option Value → MM → Prop} (C : Cx T cX8_limit 4 RX8 0 0) (CR : CxR T 1 20) (hr : T.2.2.2.2.2.2.2.2.1.sig.returnType = (some .int)) (hnm : T.2.2.2.2.2.2.2.2.1.name = "limit") {nx : Nat → Kt} (hn : ∀ pc, Sd T 4 (QT T Q 0 0) 0 0 pc (nx pc)) : Sd T 4 (QT T Q 0 0) 0 0 19 (bX8_limit_19 Q nx) := x_ic C dX8_limit_19 (by decide) (x_goto C (hn 24) dX8_limit_20 (by decide))
set_option maxRecDepth 20000 in
theorem oX8_limit_23 {T : Ct} {Q : Option Value → MM → Prop} (C : Cx T cX8_limit 4 RX8 0 0) (CR : CxR T 1 20) (hr : T.2.2.2.2.2.2.2.2.1.sig.returnType = (some .int)) (hnm : T.2.2.2.2.2.2.2.2.1.name = "limit") {nx : Nat → Kt} (hn : ∀ pc, Sd T 4 (QT T Q 0 0) 0 0 pc (nx pc)) : Sd T 4 (QT T Q 0 0) 0 0 23 (bX8_limit_23 Q nx) := x_ic C dX8_limit_23 (by decide) (hn 24)
set_option maxRecDepth 20000 in
theorem oX8_limit_24 {T : Ct} {Q : Option Value → MM → Prop} (C : Cx T cX8_limit 4 RX8 0 0) (CR : CxR T 1 20) (hr : T.2.2.2.2.2.2.2.2.1.sig.returnType = (some .int)) (hnm : T.2.2.2.2.2.2.2.2.1.name = "limit") {nx : Nat → Kt} (hn : ∀ pc, Sd T 4 (QT T Q 0 0) 0 0 pc (nx pc)) : Sd T 4 (QT T Q 0 0) 0 0 24 (bX8_limit_24 Q nx) := pf_X8_132 C dX8_limit_24 (x_al_n C dX8_limit_27 rfl (gf_X8_132 C dX8_limit_28 (x_if_le C (hn 36) dX8_limit_31 (by decide) (x_ic C dX8_limit_34 (by decide) (x_rI C hr dX8_limit_35)))))
set_option maxRecDepth 20000 in
theorem oX8_limit_36 {T : Ct} {Q : Option Value → MM → Prop} (C : Cx T cX8_limit 4 RX8 0 0) (CR : CxR T 1 20) (hr : T.2.2.2.2.2.2.2.2.1.sig.returnType = (some .int)) (hnm : T.2.2.2.2.2.2.2.2.1.name = "limit") {nx : Nat → Kt} (hn : ∀ pc, Sd T 4 (QT T Q 0 0) 0 0 pc (nx pc)) : Sd T 4 (QT T Q 0 0) 0 0 36 (bX8_limit_36 Q nx) := x_al_n C dX8_limit_36 rfl (gf_X8_13 C dX8_limit_37 (x_il_n C dX8_limit_40 rfl (x_iald C dX8_limit_41 (x_is_n C dX8_limit_42 rfl (by decide) (x_al_n C dX8_limit_43 rfl (gf_X8_13 C dX8_limit_44 (x_il_n C dX8_limit_47 rfl (x_il_n C dX8_limit_48 rfl (x_iast C dX8_limit_49 (x_al_n C dX8_limit_50 rfl (x_cV C CR mX8_isNotQuiet ⟨co_X8_isNotQuiet, init_X8, md_X8_isNotQuiet, by decide, by decide⟩ (ci := 8) (TX := TX8) (N := 51) rfl (by decide) ml_X8_159 im_X8_isNotQuiet se_X8_isNotQuiet dX8_limit_51 (x_il_n C dX8_limit_54 rfl (x_rI C hr dX8_limit_55)))))))))))))
set_option maxRecDepth 20000 in
theorem mX8_limit (l : Launch) (D : va_G) (cA : Nat → ClassId) (base : Nat) : Mc l D cA base yX8_limit cX8_limit 4 (some .int) rX8_limit wX8_limit := mc_of (by decide +kernel) kX8_limit (fun T Q C CR hr hnm nx hn => bse_ok _ (List.forall_mem_cons.mpr ⟨oX8_limit_0 C CR hr hnm hn, List.forall_mem_cons.mpr ⟨oX8_limit_19 C CR hr hnm hn, List.forall_mem_cons.mpr ⟨oX8_limit_23 C CR hr hnm hn, List.forall_mem_cons.mpr ⟨oX8_limit_24 C CR hr hnm hn, List.forall_mem_cons.mpr ⟨oX8_limit_36 C CR hr hnm hn, fun _ h => nomatch h⟩⟩⟩⟩⟩))
theorem dX8_port_0 : decode cX8_port 0 = .ok (.aload_n 0, 1) := by decide +kernel
theorem dX8_port_1 : decode cX8_port 1 = .ok (.iload_n 1, 1) := by decide +kernel
theorem dX8_port_2 : decode cX8_port 2 = .ok (.invokestatic 154, 3) := by decide +kernel
theorem dX8_port_5 : decode cX8_port 5 = .ok (.ifCond .eq 32, 3) := by decide +kernel
theorem dX8_port_8 : decode cX8_port 8 = .ok (.iload_n 2, 1) := by decide +kernel
theorem dX8_port_9 : decode cX8_port 9 = .ok (.invokestatic 162, 3) := by decide +kernel
theorem dX8_port_12 : decode cX8_port 12 = .ok (.ifCond .eq 25, 3) := by decide +kernel
theorem dX8_port_15 : decode cX8_port 15 = .ok (.iload_n 3, 1) := by decide +kernel
theorem dX8_port_16 : decode cX8_port 16 = .ok (.ifCond .lt 21, 3) := by decide +kernel
theorem dX8_port_19 : decode cX8_port 19 = .ok (.iload_n 3, 1) := by decide +kernel
theorem dX8_port_20 : decode cX8_port 20 = .ok (.ldc 165, 2) := by decide +kernel
theorem dX8_port_22 : decode cX8_port 22 = .ok (.if_icmp .gt 15, 3) := by decide +kernel
theorem dX8_port_25 : decode cX8_port 25 = .ok (.iload 4, 2) := by decide +kernel
theorem dX8_port_27 : decode cX8_port 27 = .ok (.ifCond .lt 10, 3) := by decide +kernel
theorem dX8_port_30 : decode cX8_port 30 = .ok (.iload 4, 2) := by decide +kernel
theorem dX8_port_32 : decode cX8_port 32 = .ok (.ldc 165, 2) := by decide +kernel
theorem dX8_port_34 : decode cX8_port 34 = .ok (.if_icmp .le 7, 3) := by decide +kernel
theorem dX8_port_37 : decode cX8_port 37 = .ok (.iconst 1, 1) := by decide +kernel
theorem dX8_port_38 : decode cX8_port 38 = .ok (.goto 4, 3) := by decide +kernel
theorem dX8_port_41 : decode cX8_port 41 = .ok (.iconst 0, 1) := by decide +kernel
theorem dX8_port_42 : decode cX8_port 42 = .ok (.putfield 132, 3) := by decide +kernel
theorem dX8_port_45 : decode cX8_port 45 = .ok (.aload_n 0, 1) := by decide +kernel
theorem dX8_port_46 : decode cX8_port 46 = .ok (.getfield 132, 3) := by decide +kernel
theorem dX8_port_49 : decode cX8_port 49 = .ok (.ifCond .le 4, 3) := by decide +kernel
theorem dX8_port_52 : decode cX8_port 52 = .ok (.return_, 1) := by decide +kernel
theorem dX8_port_53 : decode cX8_port 53 = .ok (.aload_n 0, 1) := by decide +kernel
theorem dX8_port_54 : decode cX8_port 54 = .ok (.getfield 16, 3) := by decide +kernel
theorem dX8_port_57 : decode cX8_port 57 = .ok (.bipush 8, 2) := by decide +kernel
theorem dX8_port_59 : decode cX8_port 59 = .ok (.iload_n 1, 1) := by decide +kernel
theorem dX8_port_60 : decode cX8_port 60 = .ok (.imul, 1) := by decide +kernel
theorem dX8_port_61 : decode cX8_port 61 = .ok (.iload_n 2, 1) := by decide +kernel
theorem dX8_port_62 : decode cX8_port 62 = .ok (.iadd, 1) := by decide +kernel
theorem dX8_port_63 : decode cX8_port 63 = .ok (.iload_n 3, 1) := by decide +kernel
theorem dX8_port_64 : decode cX8_port 64 = .ok (.iastore, 1) := by decide +kernel
theorem dX8_port_65 : decode cX8_port 65 = .ok (.aload_n 0, 1) := by decide +kernel
theorem dX8_port_66 : decode cX8_port 66 = .ok (.getfield 19, 3) := by decide +kernel
theorem dX8_port_69 : decode cX8_port 69 = .ok (.bipush 8, 2) := by decide +kernel
theorem dX8_port_71 : decode cX8_port 71 = .ok (.iload_n 1, 1) := by decide +kernel
theorem dX8_port_72 : decode cX8_port 72 = .ok (.imul, 1) := by decide +kernel
theorem dX8_port_73 : decode cX8_port 73 = .ok (.iload_n 2, 1) := by decide +kernel
theorem dX8_port_74 : decode cX8_port 74 = .ok (.iadd, 1) := by decide +kernel
theorem dX8_port_75 : decode cX8_port 75 = .ok (.iload 4, 2) := by decide +kernel
theorem dX8_port_77 : decode cX8_port 77 = .ok (.iastore, 1) := by decide +kernel
theorem dX8_port_78 : decode cX8_port 78 = .ok (.aload_n 0, 1) := by decide +kernel
theorem dX8_port_79 : decode cX8_port 79 = .ok (.invokevirtual 159, 3) := by decide +kernel
theorem dX8_port_82 : decode cX8_port 82 = .ok (.return_, 1) := by decide +kernel
noncomputable def bX8_port_0 (Q : Option Value → MM → Prop) (nx : Nat → Kt) : Kt := ldA 0 (ldI 1 (cS 1 wX8_isEnd 0 0 0 0 (ifz (fun x => x = 0) (nx 37) (ldI 2 (cS 1 wX8_isPort 0 0 0 0 (ifz (fun x => x = 0) (nx 37) (ldI 3 (ifz (fun x => x < 0) (nx 37) (ldI 3 (cI 65535 (ifc (fun x y => y < x) (nx 37) (ldI 4 (ifz (fun x => x < 0) (nx 37) (ldI 4 (cI 65535 (ifc (fun x y => x ≤ y) (nx 41) (nx 37)))))))))))))))))
noncomputable def bX8_port_37 (Q : Option Value → MM → Prop) (nx : Nat → Kt) : Kt := cI 1 (nx 42)
noncomputable def bX8_port_41 (Q : Option Value → MM → Prop) (nx : Nat → Kt) : Kt := cI 0 (nx 42)
noncomputable def bX8_port_42 (Q : Option Value → MM → Prop) (nx : Nat → Kt) : Kt := tI 8 0 (ldA 0 (gI 8 0 (ifz (fun x => x ≤ 0) (nx 53) (rV Q))))
noncomputable def bX8_port_53 (Q : Option Value → MM → Prop) (nx : Nat → Kt) : Kt := ldA 0 (gR 8 3 (cI 8 (ldI 1 (bop (fun x y => x * y) (ldI 2 (bop (fun x y => x + y) (ldI 3 (sAI (ldA 0 (gR 8 4 (cI 8 (ldI 1 (bop (fun x y => x * y) (ldI 2 (bop (fun x y => x + y) (ldI 4 (sAI (ldA 0 (cV 0 8 wX8_isNotQuiet 0 0 0 0 (rV Q))))))))))))))))))))
noncomputable def kX8_port (Q : Option Value → MM → Prop) (nx : Nat → Kt) : Nat → Kt := bse [(0, bX8_port_0 Q nx), (37, bX8_port_37 Q nx), (41, bX8_port_41 Q nx), (42, bX8_port_42 Q nx), (53, bX8_port_53 Q nx)]
abbrev rX8_port : Room := { frames := 1, cells := 0, slots := 0, locals := 20 }
noncomputable def wX8_port : Mw := mw 5 kX8_port
set_option maxRecDepth 20000 in
theorem oX8_port_0 {T : Ct} {Q : Option Value → MM → Prop} (C : Cx T cX8_port 5 RX8 0 0) (CR : CxR T 1 20) (hr : T.2.2.2.2.2.2.2.2.1.sig.returnType = none) (hnm : T.2.2.2.2.2.2.2.2.1.name = "port") {nx : Nat → Kt} (hn : ∀ pc, Sd T 5 (QT T Q 0 0) 0 0 pc (nx pc)) : Sd T 5 (QT T Q 0 0) 0 0 0 (bX8_port_0 Q nx) := x_al_n C dX8_port_0 rfl (x_il_n C dX8_port_1 rfl (x_cS C CR mX8_isEnd ⟨co_X8_isEnd, init_X8, md_X8_isEnd, by decide, by decide⟩ ml_X8_154 sm_X8_isEnd dX8_port_2 (x_if_eq C (hn 37) dX8_port_5 (by decide) (x_il_n C dX8_port_8 rfl (x_cS C CR mX8_isPort ⟨co_X8_isPort, init_X8, md_X8_isPort, by decide, by decide⟩ ml_X8_162 sm_X8_isPort dX8_port_9 (x_if_eq C (hn 37) dX8_port_12 (by decide) (x_il_n C dX8_port_15 rfl (x_if_lt C (hn 37) dX8_port_16 (by decide) (x_il_n C dX8_port_19 rfl (x_lc C ct_X8_165 dX8_port_20 (x_ic_gt C (hn 37) dX8_port_22 (by decide) (x_il C dX8_port_25 (x_if_lt C (hn 37) dX8_port_27 (by decide) (x_il C dX8_port_30 (x_lc C ct_X8_165 dX8_port_32 (x_ic_le C (hn 41) dX8_port_34 (by decide) (hn 37)))))))))))))))))
set_option maxRecDepth 20000 in
theorem oX8_port_37 {T : Ct} {Q : Option Value → MM → Prop} (C : Cx T cX8_port 5 RX8 0 0) (CR : CxR T 1 20) (hr : T.2.2.2.2.2.2.2.2.1.sig.returnType = none) (hnm : T.2.2.2.2.2.2.2.2.1.name = "port") {nx : Nat → Kt} (hn : ∀ pc, Sd T 5 (QT T Q 0 0) 0 0 pc (nx pc)) : Sd T 5 (QT T Q 0 0) 0 0 37 (bX8_port_37 Q nx) := x_ic C dX8_port_37 (by decide) (x_goto C (hn 42) dX8_port_38 (by decide))
set_option maxRecDepth 20000 in
theorem oX8_port_41 {T : Ct} {Q : Option Value → MM → Prop} (C : Cx T cX8_port 5 RX8 0 0) (CR : CxR T 1 20) (hr : T.2.2.2.2.2.2.2.2.1.sig.returnType = none) (hnm : T.2.2.2.2.2.2.2.2.1.name = "port") {nx : Nat → Kt} (hn : ∀ pc, Sd T 5 (QT T Q 0 0) 0 0 pc (nx pc)) : Sd T 5 (QT T Q 0 0) 0 0 41 (bX8_port_41 Q nx) := x_ic C dX8_port_41 (by decide) (hn 42)
set_option maxRecDepth 20000 in
theorem oX8_port_42 {T : Ct} {Q : Option Value → MM → Prop} (C : Cx T cX8_port 5 RX8 0 0) (CR : CxR T 1 20) (hr : T.2.2.2.2.2.2.2.2.1.sig.returnType = none) (hnm : T.2.2.2.2.2.2.2.2.1.name = "port") {nx : Nat → Kt} (hn : ∀ pc, Sd T 5 (QT T Q 0 0) 0 0 pc (nx pc)) : Sd T 5 (QT T Q 0 0) 0 0 42 (bX8_port_42 Q nx) := pf_X8_132 C dX8_port_42 (x_al_n C dX8_port_45 rfl (gf_X8_132 C dX8_port_46 (x_if_le C (hn 53) dX8_port_49 (by decide) (x_rV C hr dX8_port_52))))
set_option maxRecDepth 20000 in
theorem oX8_port_53 {T : Ct} {Q : Option Value → MM → Prop} (C : Cx T cX8_port 5 RX8 0 0) (CR : CxR T 1 20) (hr : T.2.2.2.2.2.2.2.2.1.sig.returnType = none) (hnm : T.2.2.2.2.2.2.2.2.1.name = "port") {nx : Nat → Kt} (hn : ∀ pc, Sd T 5 (QT T Q 0 0) 0 0 pc (nx pc)) : Sd T 5 (QT T Q 0 0) 0 0 53 (bX8_port_53 Q nx) := x_al_n C dX8_port_53 rfl (gf_X8_16 C dX8_port_54 (x_bp C dX8_port_57 (by decide) (x_il_n C dX8_port_59 rfl (x_imul C dX8_port_60 (x_il_n C dX8_port_61 rfl (x_iadd C dX8_port_62 (x_il_n C dX8_port_63 rfl (x_iast C dX8_port_64 (x_al_n C dX8_port_65 rfl (gf_X8_19 C dX8_port_66 (x_bp C dX8_port_69 (by decide) (x_il_n C dX8_port_71 rfl (x_imul C dX8_port_72 (x_il_n C dX8_port_73 rfl (x_iadd C dX8_port_74 (x_il C dX8_port_75 (x_iast C dX8_port_77 (x_al_n C dX8_port_78 rfl (x_cV C CR mX8_isNotQuiet ⟨co_X8_isNotQuiet, init_X8, md_X8_isNotQuiet, by decide, by decide⟩ (ci := 8) (TX := TX8) (N := 51) rfl (by decide) ml_X8_159 im_X8_isNotQuiet se_X8_isNotQuiet dX8_port_79 (x_rV C hr dX8_port_82))))))))))))))))))))
set_option maxRecDepth 20000 in
theorem mX8_port (l : Launch) (D : va_G) (cA : Nat → ClassId) (base : Nat) : Mc l D cA base yX8_port cX8_port 5 none rX8_port wX8_port := mc_of (by decide +kernel) kX8_port (fun T Q C CR hr hnm nx hn => bse_ok _ (List.forall_mem_cons.mpr ⟨oX8_port_0 C CR hr hnm hn, List.forall_mem_cons.mpr ⟨oX8_port_37 C CR hr hnm hn, List.forall_mem_cons.mpr ⟨oX8_port_41 C CR hr hnm hn, List.forall_mem_cons.mpr ⟨oX8_port_42 C CR hr hnm hn, List.forall_mem_cons.mpr ⟨oX8_port_53 C CR hr hnm hn, fun _ h => nomatch h⟩⟩⟩⟩⟩))
theorem dX8_manner_0 : decode cX8_manner 0 = .ok (.aload_n 0, 1) := by decide +kernel
theorem dX8_manner_1 : decode cX8_manner 1 = .ok (.iload_n 1, 1) := by decide +kernel
theorem dX8_manner_2 : decode cX8_manner 2 = .ok (.invokestatic 154, 3) := by decide +kernel
theorem dX8_manner_5 : decode cX8_manner 5 = .ok (.ifCond .eq 10, 3) := by decide +kernel
theorem dX8_manner_8 : decode cX8_manner 8 = .ok (.iload_n 2, 1) := by decide +kernel
theorem dX8_manner_9 : decode cX8_manner 9 = .ok (.invokestatic 162, 3) := by decide +kernel
theorem dX8_manner_12 : decode cX8_manner 12 = .ok (.ifCond .ne 7, 3) := by decide +kernel
theorem dX8_manner_15 : decode cX8_manner 15 = .ok (.iconst 1, 1) := by decide +kernel
theorem dX8_manner_16 : decode cX8_manner 16 = .ok (.goto 4, 3) := by decide +kernel
theorem dX8_manner_19 : decode cX8_manner 19 = .ok (.iconst 0, 1) := by decide +kernel
theorem dX8_manner_20 : decode cX8_manner 20 = .ok (.putfield 132, 3) := by decide +kernel
theorem dX8_manner_23 : decode cX8_manner 23 = .ok (.aload_n 0, 1) := by decide +kernel
theorem dX8_manner_24 : decode cX8_manner 24 = .ok (.getfield 132, 3) := by decide +kernel
theorem dX8_manner_27 : decode cX8_manner 27 = .ok (.ifCond .le 4, 3) := by decide +kernel
theorem dX8_manner_30 : decode cX8_manner 30 = .ok (.return_, 1) := by decide +kernel
theorem dX8_manner_31 : decode cX8_manner 31 = .ok (.aload_n 0, 1) := by decide +kernel
theorem dX8_manner_32 : decode cX8_manner 32 = .ok (.getfield 22, 3) := by decide +kernel
theorem dX8_manner_35 : decode cX8_manner 35 = .ok (.bipush 8, 2) := by decide +kernel
theorem dX8_manner_37 : decode cX8_manner 37 = .ok (.iload_n 1, 1) := by decide +kernel
theorem dX8_manner_38 : decode cX8_manner 38 = .ok (.imul, 1) := by decide +kernel
theorem dX8_manner_39 : decode cX8_manner 39 = .ok (.iload_n 2, 1) := by decide +kernel
theorem dX8_manner_40 : decode cX8_manner 40 = .ok (.iadd, 1) := by decide +kernel
theorem dX8_manner_41 : decode cX8_manner 41 = .ok (.iload_n 3, 1) := by decide +kernel
theorem dX8_manner_42 : decode cX8_manner 42 = .ok (.bastore, 1) := by decide +kernel
theorem dX8_manner_43 : decode cX8_manner 43 = .ok (.aload_n 0, 1) := by decide +kernel
theorem dX8_manner_44 : decode cX8_manner 44 = .ok (.getfield 26, 3) := by decide +kernel
theorem dX8_manner_47 : decode cX8_manner 47 = .ok (.bipush 8, 2) := by decide +kernel
theorem dX8_manner_49 : decode cX8_manner 49 = .ok (.iload_n 1, 1) := by decide +kernel
theorem dX8_manner_50 : decode cX8_manner 50 = .ok (.imul, 1) := by decide +kernel
theorem dX8_manner_51 : decode cX8_manner 51 = .ok (.iload_n 2, 1) := by decide +kernel
theorem dX8_manner_52 : decode cX8_manner 52 = .ok (.iadd, 1) := by decide +kernel
theorem dX8_manner_53 : decode cX8_manner 53 = .ok (.iload 4, 2) := by decide +kernel
theorem dX8_manner_55 : decode cX8_manner 55 = .ok (.bastore, 1) := by decide +kernel
theorem dX8_manner_56 : decode cX8_manner 56 = .ok (.aload_n 0, 1) := by decide +kernel
theorem dX8_manner_57 : decode cX8_manner 57 = .ok (.invokevirtual 159, 3) := by decide +kernel
theorem dX8_manner_60 : decode cX8_manner 60 = .ok (.return_, 1) := by decide +kernel
noncomputable def bX8_manner_0 (Q : Option Value → MM → Prop) (nx : Nat → Kt) : Kt := ldA 0 (ldI 1 (cS 1 wX8_isEnd 0 0 0 0 (ifz (fun x => x = 0) (nx 15) (ldI 2 (cS 1 wX8_isPort 0 0 0 0 (ifz (fun x => x = 0) (nx 15) (nx 19)))))))
noncomputable def bX8_manner_15 (Q : Option Value → MM → Prop) (nx : Nat → Kt) : Kt := cI 1 (nx 20)
noncomputable def bX8_manner_19 (Q : Option Value → MM → Prop) (nx : Nat → Kt) : Kt := cI 0 (nx 20)
noncomputable def bX8_manner_20 (Q : Option Value → MM → Prop) (nx : Nat → Kt) : Kt := tI 8 0 (ldA 0 (gI 8 0 (ifz (fun x => x ≤ 0) (nx 31) (rV Q))))
noncomputable def bX8_manner_31 (Q : Option Value → MM → Prop) (nx : Nat → Kt) : Kt := ldA 0 (gR 8 5 (cI 8 (ldI 1 (bop (fun x y => x * y) (ldI 2 (bop (fun x y => x + y) (ldI 3 (sAZ (ldA 0 (gR 8 6 (cI 8 (ldI 1 (bop (fun x y => x * y) (ldI 2 (bop (fun x y => x + y) (ldI 4 (sAZ (ldA 0 (cV 0 8 wX8_isNotQuiet 0 0 0 0 (rV Q))))))))))))))))))))
noncomputable def kX8_manner (Q : Option Value → MM → Prop) (nx : Nat → Kt) : Nat → Kt := bse [(0, bX8_manner_0 Q nx), (15, bX8_manner_15 Q nx), (19, bX8_manner_19 Q nx), (20, bX8_manner_20 Q nx), (31, bX8_manner_31 Q nx)]
abbrev rX8_manner : Room := { frames := 1, cells := 0, slots := 0, locals := 20 }
noncomputable def wX8_manner : Mw := mw 5 kX8_manner
set_option maxRecDepth 20000 in
theorem oX8_manner_0 {T : Ct} {Q : Option Value → MM → Prop} (C : Cx T cX8_manner 5 RX8 0 0) (CR : CxR T 1 20) (hr : T.2.2.2.2.2.2.2.2.1.sig.returnType = none) (hnm : T.2.2.2.2.2.2.2.2.1.name = "manner") {nx : Nat → Kt} (hn : ∀ pc, Sd T 5 (QT T Q 0 0) 0 0 pc (nx pc)) : Sd T 5 (QT T Q 0 0) 0 0 0 (bX8_manner_0 Q nx) := x_al_n C dX8_manner_0 rfl (x_il_n C dX8_manner_1 rfl (x_cS C CR mX8_isEnd ⟨co_X8_isEnd, init_X8, md_X8_isEnd, by decide, by decide⟩ ml_X8_154 sm_X8_isEnd dX8_manner_2 (x_if_eq C (hn 15) dX8_manner_5 (by decide) (x_il_n C dX8_manner_8 rfl (x_cS C CR mX8_isPort ⟨co_X8_isPort, init_X8, md_X8_isPort, by decide, by decide⟩ ml_X8_162 sm_X8_isPort dX8_manner_9 (x_if_ne C (hn 19) dX8_manner_12 (by decide) (hn 15)))))))
set_option maxRecDepth 20000 in
theorem oX8_manner_15 {T : Ct} {Q : Option Value → MM → Prop} (C : Cx T cX8_manner 5 RX8 0 0) (CR : CxR T 1 20) (hr : T.2.2.2.2.2.2.2.2.1.sig.returnType = none) (hnm : T.2.2.2.2.2.2.2.2.1.name = "manner") {nx : Nat → Kt} (hn : ∀ pc, Sd T 5 (QT T Q 0 0) 0 0 pc (nx pc)) : Sd T 5 (QT T Q 0 0) 0 0 15 (bX8_manner_15 Q nx) := x_ic C dX8_manner_15 (by decide) (x_goto C (hn 20) dX8_manner_16 (by decide))
set_option maxRecDepth 20000 in
theorem oX8_manner_19 {T : Ct} {Q : Option Value → MM → Prop} (C : Cx T cX8_manner 5 RX8 0 0) (CR : CxR T 1 20) (hr : T.2.2.2.2.2.2.2.2.1.sig.returnType = none) (hnm : T.2.2.2.2.2.2.2.2.1.name = "manner") {nx : Nat → Kt} (hn : ∀ pc, Sd T 5 (QT T Q 0 0) 0 0 pc (nx pc)) : Sd T 5 (QT T Q 0 0) 0 0 19 (bX8_manner_19 Q nx) := x_ic C dX8_manner_19 (by decide) (hn 20)
set_option maxRecDepth 20000 in
theorem oX8_manner_20 {T : Ct} {Q : Option Value → MM → Prop} (C : Cx T cX8_manner 5 RX8 0 0) (CR : CxR T 1 20) (hr : T.2.2.2.2.2.2.2.2.1.sig.returnType = none) (hnm : T.2.2.2.2.2.2.2.2.1.name = "manner") {nx : Nat → Kt} (hn : ∀ pc, Sd T 5 (QT T Q 0 0) 0 0 pc (nx pc)) : Sd T 5 (QT T Q 0 0) 0 0 20 (bX8_manner_20 Q nx) := pf_X8_132 C dX8_manner_20 (x_al_n C dX8_manner_23 rfl (gf_X8_132 C dX8_manner_24 (x_if_le C (hn 31) dX8_manner_27 (by decide) (x_rV C hr dX8_manner_30))))
set_option maxRecDepth 20000 in
theorem oX8_manner_31 {T : Ct} {Q : Option Value → MM → Prop} (C : Cx T cX8_manner 5 RX8 0 0) (CR : CxR T 1 20) (hr : T.2.2.2.2.2.2.2.2.1.sig.returnType = none) (hnm : T.2.2.2.2.2.2.2.2.1.name = "manner") {nx : Nat → Kt} (hn : ∀ pc, Sd T 5 (QT T Q 0 0) 0 0 pc (nx pc)) : Sd T 5 (QT T Q 0 0) 0 0 31 (bX8_manner_31 Q nx) := x_al_n C dX8_manner_31 rfl (gf_X8_22 C dX8_manner_32 (x_bp C dX8_manner_35 (by decide) (x_il_n C dX8_manner_37 rfl (x_imul C dX8_manner_38 (x_il_n C dX8_manner_39 rfl (x_iadd C dX8_manner_40 (x_il_n C dX8_manner_41 rfl (x_zast C dX8_manner_42 (x_al_n C dX8_manner_43 rfl (gf_X8_26 C dX8_manner_44 (x_bp C dX8_manner_47 (by decide) (x_il_n C dX8_manner_49 rfl (x_imul C dX8_manner_50 (x_il_n C dX8_manner_51 rfl (x_iadd C dX8_manner_52 (x_il C dX8_manner_53 (x_zast C dX8_manner_55 (x_al_n C dX8_manner_56 rfl (x_cV C CR mX8_isNotQuiet ⟨co_X8_isNotQuiet, init_X8, md_X8_isNotQuiet, by decide, by decide⟩ (ci := 8) (TX := TX8) (N := 51) rfl (by decide) ml_X8_159 im_X8_isNotQuiet se_X8_isNotQuiet dX8_manner_57 (x_rV C hr dX8_manner_60))))))))))))))))))))
set_option maxRecDepth 20000 in
theorem mX8_manner (l : Launch) (D : va_G) (cA : Nat → ClassId) (base : Nat) : Mc l D cA base yX8_manner cX8_manner 5 none rX8_manner wX8_manner := mc_of (by decide +kernel) kX8_manner (fun T Q C CR hr hnm nx hn => bse_ok _ (List.forall_mem_cons.mpr ⟨oX8_manner_0 C CR hr hnm hn, List.forall_mem_cons.mpr ⟨oX8_manner_15 C CR hr hnm hn, List.forall_mem_cons.mpr ⟨oX8_manner_19 C CR hr hnm hn, List.forall_mem_cons.mpr ⟨oX8_manner_20 C CR hr hnm hn, List.forall_mem_cons.mpr ⟨oX8_manner_31 C CR hr hnm hn, fun _ h => nomatch h⟩⟩⟩⟩⟩))
theorem dX8_portAt_0 : decode cX8_portAt 0 = .ok (.bipush 8, 2) := by decide +kernel
theorem dX8_portAt_2 : decode cX8_portAt 2 = .ok (.iload_n 2, 1) := by decide +kernel
theorem dX8_portAt_3 : decode cX8_portAt 3 = .ok (.imul, 1) := by decide +kernel
theorem dX8_portAt_4 : decode cX8_portAt 4 = .ok (.aload_n 0, 1) := by decide +kernel
theorem dX8_portAt_5 : decode cX8_portAt 5 = .ok (.getfield 74, 3) := by decide +kernel
theorem dX8_portAt_8 : decode cX8_portAt 8 = .ok (.iconst 2, 1) := by decide +kernel
theorem dX8_portAt_9 : decode cX8_portAt 9 = .ok (.iload_n 1, 1) := by decide +kernel
theorem dX8_portAt_10 : decode cX8_portAt 10 = .ok (.imul, 1) := by decide +kernel
theorem dX8_portAt_11 : decode cX8_portAt 11 = .ok (.iload_n 2, 1) := by decide +kernel
theorem dX8_portAt_12 : decode cX8_portAt 12 = .ok (.iadd, 1) := by decide +kernel
theorem dX8_portAt_13 : decode cX8_portAt 13 = .ok (.iaload, 1) := by decide +kernel
theorem dX8_portAt_14 : decode cX8_portAt 14 = .ok (.iadd, 1) := by decide +kernel
theorem dX8_portAt_15 : decode cX8_portAt 15 = .ok (.ireturn, 1) := by decide +kernel
noncomputable def bX8_portAt_0 (Q : Option Value → MM → Prop) (nx : Nat → Kt) : Kt := cI 8 (ldI 2 (bop (fun x y => x * y) (ldA 0 (gR 8 22 (cI 2 (ldI 1 (bop (fun x y => x * y) (ldI 2 (bop (fun x y => x + y) (aI 10 (bop (fun x y => x + y) (rI Q))))))))))))
noncomputable def kX8_portAt (Q : Option Value → MM → Prop) (nx : Nat → Kt) : Nat → Kt := bse [(0, bX8_portAt_0 Q nx)]
abbrev rX8_portAt : Room := { frames := 0, cells := 0, slots := 0, locals := 0 }
noncomputable def wX8_portAt : Mw := mw 3 kX8_portAt
set_option maxRecDepth 20000 in
theorem oX8_portAt_0 {T : Ct} {Q : Option Value → MM → Prop} (C : Cx T cX8_portAt 3 RX8 0 0) (CR : CxR T 0 0) (hr : T.2.2.2.2.2.2.2.2.1.sig.returnType = (some .int)) (hnm : T.2.2.2.2.2.2.2.2.1.name = "portAt") {nx : Nat → Kt} (hn : ∀ pc, Sd T 3 (QT T Q 0 0) 0 0 pc (nx pc)) : Sd T 3 (QT T Q 0 0) 0 0 0 (bX8_portAt_0 Q nx) := x_bp C dX8_portAt_0 (by decide) (x_il_n C dX8_portAt_2 rfl (x_imul C dX8_portAt_3 (x_al_n C dX8_portAt_4 rfl (gf_X8_74 C dX8_portAt_5 (x_ic C dX8_portAt_8 (by decide) (x_il_n C dX8_portAt_9 rfl (x_imul C dX8_portAt_10 (x_il_n C dX8_portAt_11 rfl (x_iadd C dX8_portAt_12 (x_iald C dX8_portAt_13 (x_iadd C dX8_portAt_14 (x_rI C hr dX8_portAt_15))))))))))))
set_option maxRecDepth 20000 in
theorem mX8_portAt (l : Launch) (D : va_G) (cA : Nat → ClassId) (base : Nat) : Mc l D cA base yX8_portAt cX8_portAt 3 (some .int) rX8_portAt wX8_portAt := mc_of (by decide +kernel) kX8_portAt (fun T Q C CR hr hnm nx hn => bse_ok _ (List.forall_mem_cons.mpr ⟨oX8_portAt_0 C CR hr hnm hn, fun _ h => nomatch h⟩))
theorem dX8_moves_0 : decode cX8_moves 0 = .ok (.aload_n 0, 1) := by decide +kernel
theorem dX8_moves_1 : decode cX8_moves 1 = .ok (.getfield 89, 3) := by decide +kernel
theorem dX8_moves_4 : decode cX8_moves 4 = .ok (.iload_n 2, 1) := by decide +kernel
theorem dX8_moves_5 : decode cX8_moves 5 = .ok (.aload_n 0, 1) := by decide +kernel
theorem dX8_moves_6 : decode cX8_moves 6 = .ok (.getfield 89, 3) := by decide +kernel
theorem dX8_moves_9 : decode cX8_moves 9 = .ok (.iload_n 1, 1) := by decide +kernel
theorem dX8_moves_10 : decode cX8_moves 10 = .ok (.iaload, 1) := by decide +kernel
theorem dX8_moves_11 : decode cX8_moves 11 = .ok (.iastore, 1) := by decide +kernel
theorem dX8_moves_12 : decode cX8_moves 12 = .ok (.aload_n 0, 1) := by decide +kernel
theorem dX8_moves_13 : decode cX8_moves 13 = .ok (.getfield 92, 3) := by decide +kernel
theorem dX8_moves_16 : decode cX8_moves 16 = .ok (.iload_n 2, 1) := by decide +kernel
theorem dX8_moves_17 : decode cX8_moves 17 = .ok (.aload_n 0, 1) := by decide +kernel
theorem dX8_moves_18 : decode cX8_moves 18 = .ok (.getfield 92, 3) := by decide +kernel
theorem dX8_moves_21 : decode cX8_moves 21 = .ok (.iload_n 1, 1) := by decide +kernel
theorem dX8_moves_22 : decode cX8_moves 22 = .ok (.iaload, 1) := by decide +kernel
theorem dX8_moves_23 : decode cX8_moves 23 = .ok (.iastore, 1) := by decide +kernel
theorem dX8_moves_24 : decode cX8_moves 24 = .ok (.aload_n 0, 1) := by decide +kernel
theorem dX8_moves_25 : decode cX8_moves 25 = .ok (.getfield 95, 3) := by decide +kernel
theorem dX8_moves_28 : decode cX8_moves 28 = .ok (.iload_n 2, 1) := by decide +kernel
theorem dX8_moves_29 : decode cX8_moves 29 = .ok (.aload_n 0, 1) := by decide +kernel
theorem dX8_moves_30 : decode cX8_moves 30 = .ok (.getfield 95, 3) := by decide +kernel
theorem dX8_moves_33 : decode cX8_moves 33 = .ok (.iload_n 1, 1) := by decide +kernel
theorem dX8_moves_34 : decode cX8_moves 34 = .ok (.iaload, 1) := by decide +kernel
theorem dX8_moves_35 : decode cX8_moves 35 = .ok (.iastore, 1) := by decide +kernel
theorem dX8_moves_36 : decode cX8_moves 36 = .ok (.aload_n 0, 1) := by decide +kernel
theorem dX8_moves_37 : decode cX8_moves 37 = .ok (.getfield 98, 3) := by decide +kernel
theorem dX8_moves_40 : decode cX8_moves 40 = .ok (.iload_n 2, 1) := by decide +kernel
theorem dX8_moves_41 : decode cX8_moves 41 = .ok (.aload_n 0, 1) := by decide +kernel
theorem dX8_moves_42 : decode cX8_moves 42 = .ok (.getfield 98, 3) := by decide +kernel
theorem dX8_moves_45 : decode cX8_moves 45 = .ok (.iload_n 1, 1) := by decide +kernel
theorem dX8_moves_46 : decode cX8_moves 46 = .ok (.iaload, 1) := by decide +kernel
theorem dX8_moves_47 : decode cX8_moves 47 = .ok (.iastore, 1) := by decide +kernel
theorem dX8_moves_48 : decode cX8_moves 48 = .ok (.iconst 0, 1) := by decide +kernel
theorem dX8_moves_49 : decode cX8_moves 49 = .ok (.istore_n 3, 1) := by decide +kernel
theorem dX8_moves_50 : decode cX8_moves 50 = .ok (.iload_n 3, 1) := by decide +kernel
theorem dX8_moves_51 : decode cX8_moves 51 = .ok (.bipush 10, 2) := by decide +kernel
theorem dX8_moves_53 : decode cX8_moves 53 = .ok (.if_icmp .ge 31, 3) := by decide +kernel
theorem dX8_moves_56 : decode cX8_moves 56 = .ok (.aload_n 0, 1) := by decide +kernel
theorem dX8_moves_57 : decode cX8_moves 57 = .ok (.getfield 102, 3) := by decide +kernel
theorem dX8_moves_60 : decode cX8_moves 60 = .ok (.bipush 10, 2) := by decide +kernel
theorem dX8_moves_62 : decode cX8_moves 62 = .ok (.iload_n 2, 1) := by decide +kernel
theorem dX8_moves_63 : decode cX8_moves 63 = .ok (.imul, 1) := by decide +kernel
theorem dX8_moves_64 : decode cX8_moves 64 = .ok (.iload_n 3, 1) := by decide +kernel
theorem dX8_moves_65 : decode cX8_moves 65 = .ok (.iadd, 1) := by decide +kernel
theorem dX8_moves_66 : decode cX8_moves 66 = .ok (.aload_n 0, 1) := by decide +kernel
theorem dX8_moves_67 : decode cX8_moves 67 = .ok (.getfield 102, 3) := by decide +kernel
theorem dX8_moves_70 : decode cX8_moves 70 = .ok (.bipush 10, 2) := by decide +kernel
theorem dX8_moves_72 : decode cX8_moves 72 = .ok (.iload_n 1, 1) := by decide +kernel
theorem dX8_moves_73 : decode cX8_moves 73 = .ok (.imul, 1) := by decide +kernel
theorem dX8_moves_74 : decode cX8_moves 74 = .ok (.iload_n 3, 1) := by decide +kernel
theorem dX8_moves_75 : decode cX8_moves 75 = .ok (.iadd, 1) := by decide +kernel
theorem dX8_moves_76 : decode cX8_moves 76 = .ok (.iaload, 1) := by decide +kernel
theorem dX8_moves_77 : decode cX8_moves 77 = .ok (.iastore, 1) := by decide +kernel
theorem dX8_moves_78 : decode cX8_moves 78 = .ok (.iinc 3 1, 3) := by decide +kernel
theorem dX8_moves_81 : decode cX8_moves 81 = .ok (.goto (-31), 3) := by decide +kernel
theorem dX8_moves_84 : decode cX8_moves 84 = .ok (.return_, 1) := by decide +kernel
noncomputable def bX8_moves_0 (Q : Option Value → MM → Prop) (nx : Nat → Kt) : Kt := ldA 0 (gR 8 27 (ldI 2 (ldA 0 (gR 8 27 (ldI 1 (aI 10 (sAI (ldA 0 (gR 8 28 (ldI 2 (ldA 0 (gR 8 28 (ldI 1 (aI 10 (sAI (ldA 0 (gR 8 29 (ldI 2 (ldA 0 (gR 8 29 (ldI 1 (aI 10 (sAI (ldA 0 (gR 8 30 (ldI 2 (ldA 0 (gR 8 30 (ldI 1 (aI 10 (sAI (cI 0 (stI 3 (nx 50))))))))))))))))))))))))))))))))))
noncomputable def bX8_moves_50 (Q : Option Value → MM → Prop) (nx : Nat → Kt) : Kt := ldI 3 (cI 10 (ifc (fun x y => y ≤ x) (nx 84) (ldA 0 (gR 8 31 (cI 10 (ldI 2 (bop (fun x y => x * y) (ldI 3 (bop (fun x y => x + y) (ldA 0 (gR 8 31 (cI 10 (ldI 1 (bop (fun x y => x * y) (ldI 3 (bop (fun x y => x + y) (aI 10 (sAI (inc 3 1 (nx 50))))))))))))))))))))
noncomputable def bX8_moves_84 (Q : Option Value → MM → Prop) (nx : Nat → Kt) : Kt := rV Q
noncomputable def kX8_moves (Q : Option Value → MM → Prop) (nx : Nat → Kt) : Nat → Kt := bse [(0, bX8_moves_0 Q nx), (50, bX8_moves_50 Q nx), (84, bX8_moves_84 Q nx)]
abbrev rX8_moves : Room := { frames := 0, cells := 0, slots := 0, locals := 0 }
noncomputable def wX8_moves : Mw := mw 4 kX8_moves
set_option maxRecDepth 20000 in
theorem oX8_moves_0 {T : Ct} {Q : Option Value → MM → Prop} (C : Cx T cX8_moves 4 RX8 0 0) (CR : CxR T 0 0) (hr : T.2.2.2.2.2.2.2.2.1.sig.returnType = none) (hnm : T.2.2.2.2.2.2.2.2.1.name = "moves") {nx : Nat → Kt} (hn : ∀ pc, Sd T 4 (QT T Q 0 0) 0 0 pc (nx pc)) : Sd T 4 (QT T Q 0 0) 0 0 0 (bX8_moves_0 Q nx) := x_al_n C dX8_moves_0 rfl (gf_X8_89 C dX8_moves_1 (x_il_n C dX8_moves_4 rfl (x_al_n C dX8_moves_5 rfl (gf_X8_89 C dX8_moves_6 (x_il_n C dX8_moves_9 rfl (x_iald C dX8_moves_10 (x_iast C dX8_moves_11 (x_al_n C dX8_moves_12 rfl (gf_X8_92 C dX8_moves_13 (x_il_n C dX8_moves_16 rfl (x_al_n C dX8_moves_17 rfl (gf_X8_92 C dX8_moves_18 (x_il_n C dX8_moves_21 rfl (x_iald C dX8_moves_22 (x_iast C dX8_moves_23 (x_al_n C dX8_moves_24 rfl (gf_X8_95 C dX8_moves_25 (x_il_n C dX8_moves_28 rfl (x_al_n C dX8_moves_29 rfl (gf_X8_95 C dX8_moves_30 (x_il_n C dX8_moves_33 rfl (x_iald C dX8_moves_34 (x_iast C dX8_moves_35 (x_al_n C dX8_moves_36 rfl (gf_X8_98 C dX8_moves_37 (x_il_n C dX8_moves_40 rfl (x_al_n C dX8_moves_41 rfl (gf_X8_98 C dX8_moves_42 (x_il_n C dX8_moves_45 rfl (x_iald C dX8_moves_46 (x_iast C dX8_moves_47 (x_ic C dX8_moves_48 (by decide) (x_is_n C dX8_moves_49 rfl (by decide) (hn 50))))))))))))))))))))))))))))))))))
set_option maxRecDepth 20000 in
theorem oX8_moves_50 {T : Ct} {Q : Option Value → MM → Prop} (C : Cx T cX8_moves 4 RX8 0 0) (CR : CxR T 0 0) (hr : T.2.2.2.2.2.2.2.2.1.sig.returnType = none) (hnm : T.2.2.2.2.2.2.2.2.1.name = "moves") {nx : Nat → Kt} (hn : ∀ pc, Sd T 4 (QT T Q 0 0) 0 0 pc (nx pc)) : Sd T 4 (QT T Q 0 0) 0 0 50 (bX8_moves_50 Q nx) := x_il_n C dX8_moves_50 rfl (x_bp C dX8_moves_51 (by decide) (x_ic_ge C (hn 84) dX8_moves_53 (by decide) (x_al_n C dX8_moves_56 rfl (gf_X8_102 C dX8_moves_57 (x_bp C dX8_moves_60 (by decide) (x_il_n C dX8_moves_62 rfl (x_imul C dX8_moves_63 (x_il_n C dX8_moves_64 rfl (x_iadd C dX8_moves_65 (x_al_n C dX8_moves_66 rfl (gf_X8_102 C dX8_moves_67 (x_bp C dX8_moves_70 (by decide) (x_il_n C dX8_moves_72 rfl (x_imul C dX8_moves_73 (x_il_n C dX8_moves_74 rfl (x_iadd C dX8_moves_75 (x_iald C dX8_moves_76 (x_iast C dX8_moves_77 (x_inc C dX8_moves_78 (by decide) (by decide) (x_goto C (hn 50) dX8_moves_81 (by decide)))))))))))))))))))))
set_option maxRecDepth 20000 in
theorem oX8_moves_84 {T : Ct} {Q : Option Value → MM → Prop} (C : Cx T cX8_moves 4 RX8 0 0) (CR : CxR T 0 0) (hr : T.2.2.2.2.2.2.2.2.1.sig.returnType = none) (hnm : T.2.2.2.2.2.2.2.2.1.name = "moves") {nx : Nat → Kt} (hn : ∀ pc, Sd T 4 (QT T Q 0 0) 0 0 pc (nx pc)) : Sd T 4 (QT T Q 0 0) 0 0 84 (bX8_moves_84 Q nx) := x_rV C hr dX8_moves_84
set_option maxRecDepth 20000 in
theorem mX8_moves (l : Launch) (D : va_G) (cA : Nat → ClassId) (base : Nat) : Mc l D cA base yX8_moves cX8_moves 4 none rX8_moves wX8_moves := mc_of (by decide +kernel) kX8_moves (fun T Q C CR hr hnm nx hn => bse_ok _ (List.forall_mem_cons.mpr ⟨oX8_moves_0 C CR hr hnm hn, List.forall_mem_cons.mpr ⟨oX8_moves_50 C CR hr hnm hn, List.forall_mem_cons.mpr ⟨oX8_moves_84 C CR hr hnm hn, fun _ h => nomatch h⟩⟩⟩))
theorem dX8_empties_0 : decode cX8_empties 0 = .ok (.iconst 0, 1) := by decide +kernel
theorem dX8_empties_1 : decode cX8_empties 1 = .ok (.istore_n 2, 1) := by decide +kernel
theorem dX8_empties_2 : decode cX8_empties 2 = .ok (.iconst 0, 1) := by decide +kernel
theorem dX8_empties_3 : decode cX8_empties 3 = .ok (.istore_n 3, 1) := by decide +kernel
theorem dX8_empties_4 : decode cX8_empties 4 = .ok (.iload_n 3, 1) := by decide +kernel
theorem dX8_empties_5 : decode cX8_empties 5 = .ok (.aload_n 0, 1) := by decide +kernel
theorem dX8_empties_6 : decode cX8_empties 6 = .ok (.getfield 166, 3) := by decide +kernel
theorem dX8_empties_9 : decode cX8_empties 9 = .ok (.if_icmp .ge 55, 3) := by decide +kernel
theorem dX8_empties_12 : decode cX8_empties 12 = .ok (.aload_n 0, 1) := by decide +kernel
theorem dX8_empties_13 : decode cX8_empties 13 = .ok (.getfield 89, 3) := by decide +kernel
theorem dX8_empties_16 : decode cX8_empties 16 = .ok (.iload_n 3, 1) := by decide +kernel
theorem dX8_empties_17 : decode cX8_empties 17 = .ok (.iaload, 1) := by decide +kernel
theorem dX8_empties_18 : decode cX8_empties 18 = .ok (.iload_n 1, 1) := by decide +kernel
theorem dX8_empties_19 : decode cX8_empties 19 = .ok (.if_icmp .ne 30, 3) := by decide +kernel
theorem dX8_empties_22 : decode cX8_empties 22 = .ok (.aload_n 0, 1) := by decide +kernel
theorem dX8_empties_23 : decode cX8_empties 23 = .ok (.dup, 1) := by decide +kernel
theorem dX8_empties_24 : decode cX8_empties 24 = .ok (.getfield 169, 3) := by decide +kernel
theorem dX8_empties_27 : decode cX8_empties 27 = .ok (.aload_n 0, 1) := by decide +kernel
theorem dX8_empties_28 : decode cX8_empties 28 = .ok (.getfield 98, 3) := by decide +kernel
theorem dX8_empties_31 : decode cX8_empties 31 = .ok (.iload_n 3, 1) := by decide +kernel
theorem dX8_empties_32 : decode cX8_empties 32 = .ok (.iaload, 1) := by decide +kernel
theorem dX8_empties_33 : decode cX8_empties 33 = .ok (.iconst (-1), 1) := by decide +kernel
theorem dX8_empties_34 : decode cX8_empties 34 = .ok (.if_icmp .ne 7, 3) := by decide +kernel
theorem dX8_empties_37 : decode cX8_empties 37 = .ok (.iconst 0, 1) := by decide +kernel
theorem dX8_empties_38 : decode cX8_empties 38 = .ok (.goto 4, 3) := by decide +kernel
theorem dX8_empties_41 : decode cX8_empties 41 = .ok (.iconst 1, 1) := by decide +kernel
theorem dX8_empties_42 : decode cX8_empties 42 = .ok (.iadd, 1) := by decide +kernel
theorem dX8_empties_43 : decode cX8_empties 43 = .ok (.putfield 169, 3) := by decide +kernel
theorem dX8_empties_46 : decode cX8_empties 46 = .ok (.goto 12, 3) := by decide +kernel
theorem dX8_empties_49 : decode cX8_empties 49 = .ok (.aload_n 0, 1) := by decide +kernel
theorem dX8_empties_50 : decode cX8_empties 50 = .ok (.iload_n 3, 1) := by decide +kernel
theorem dX8_empties_51 : decode cX8_empties 51 = .ok (.iload_n 2, 1) := by decide +kernel
theorem dX8_empties_52 : decode cX8_empties 52 = .ok (.invokevirtual 172, 3) := by decide +kernel
theorem dX8_empties_55 : decode cX8_empties 55 = .ok (.iinc 2 1, 3) := by decide +kernel
theorem dX8_empties_58 : decode cX8_empties 58 = .ok (.iinc 3 1, 3) := by decide +kernel
theorem dX8_empties_61 : decode cX8_empties 61 = .ok (.goto (-57), 3) := by decide +kernel
theorem dX8_empties_64 : decode cX8_empties 64 = .ok (.aload_n 0, 1) := by decide +kernel
theorem dX8_empties_65 : decode cX8_empties 65 = .ok (.iload_n 2, 1) := by decide +kernel
theorem dX8_empties_66 : decode cX8_empties 66 = .ok (.putfield 166, 3) := by decide +kernel
theorem dX8_empties_69 : decode cX8_empties 69 = .ok (.return_, 1) := by decide +kernel
noncomputable def bX8_empties_0 (Q : Option Value → MM → Prop) (nx : Nat → Kt) : Kt := cI 0 (stI 2 (cI 0 (stI 3 (nx 4))))
noncomputable def bX8_empties_4 (Q : Option Value → MM → Prop) (nx : Nat → Kt) : Kt := ldI 3 (ldA 0 (gI 8 32 (ifc (fun x y => y ≤ x) (nx 64) (ldA 0 (gR 8 27 (ldI 3 (aI 10 (ldI 1 (ifc (fun x y => x = y) (ldA 0 (du (gI 8 46 (ldA 0 (gR 8 30 (ldI 3 (aI 10 (cI (-1) (ifc (fun x y => x = y) (cI 0 (nx 42)) (nx 41)))))))))) (nx 49))))))))))
noncomputable def bX8_empties_41 (Q : Option Value → MM → Prop) (nx : Nat → Kt) : Kt := cI 1 (nx 42)
noncomputable def bX8_empties_42 (Q : Option Value → MM → Prop) (nx : Nat → Kt) : Kt := bop (fun x y => x + y) (tI 8 46 (nx 58))
noncomputable def bX8_empties_49 (Q : Option Value → MM → Prop) (nx : Nat → Kt) : Kt := ldA 0 (ldI 3 (ldI 2 (cV 2 8 wX8_moves 0 0 0 0 (inc 2 1 (nx 58)))))
noncomputable def bX8_empties_58 (Q : Option Value → MM → Prop) (nx : Nat → Kt) : Kt := inc 3 1 (nx 4)
noncomputable def bX8_empties_64 (Q : Option Value → MM → Prop) (nx : Nat → Kt) : Kt := ldA 0 (ldI 2 (tI 8 32 (rV Q)))
noncomputable def kX8_empties (Q : Option Value → MM → Prop) (nx : Nat → Kt) : Nat → Kt := bse [(0, bX8_empties_0 Q nx), (4, bX8_empties_4 Q nx), (41, bX8_empties_41 Q nx), (42, bX8_empties_42 Q nx), (49, bX8_empties_49 Q nx), (58, bX8_empties_58 Q nx), (64, bX8_empties_64 Q nx)]
abbrev rX8_empties : Room := { frames := 1, cells := 0, slots := 0, locals := 23 }
noncomputable def wX8_empties : Mw := mw 4 kX8_empties
set_option maxRecDepth 20000 in
theorem oX8_empties_0 {T : Ct} {Q : Option Value → MM → Prop} (C : Cx T cX8_empties 4 RX8 0 0) (CR : CxR T 1 23) (hr : T.2.2.2.2.2.2.2.2.1.sig.returnType = none) (hnm : T.2.2.2.2.2.2.2.2.1.name = "empties") {nx : Nat → Kt} (hn : ∀ pc, Sd T 4 (QT T Q 0 0) 0 0 pc (nx pc)) : Sd T 4 (QT T Q 0 0) 0 0 0 (bX8_empties_0 Q nx) := x_ic C dX8_empties_0 (by decide) (x_is_n C dX8_empties_1 rfl (by decide) (x_ic C dX8_empties_2 (by decide) (x_is_n C dX8_empties_3 rfl (by decide) (hn 4))))
set_option maxRecDepth 20000 in
theorem oX8_empties_4 {T : Ct} {Q : Option Value → MM → Prop} (C : Cx T cX8_empties 4 RX8 0 0) (CR : CxR T 1 23) (hr : T.2.2.2.2.2.2.2.2.1.sig.returnType = none) (hnm : T.2.2.2.2.2.2.2.2.1.name = "empties") {nx : Nat → Kt} (hn : ∀ pc, Sd T 4 (QT T Q 0 0) 0 0 pc (nx pc)) : Sd T 4 (QT T Q 0 0) 0 0 4 (bX8_empties_4 Q nx) := x_il_n C dX8_empties_4 rfl (x_al_n C dX8_empties_5 rfl (gf_X8_166 C dX8_empties_6 (x_ic_ge C (hn 64) dX8_empties_9 (by decide) (x_al_n C dX8_empties_12 rfl (gf_X8_89 C dX8_empties_13 (x_il_n C dX8_empties_16 rfl (x_iald C dX8_empties_17 (x_il_n C dX8_empties_18 rfl (x_ic_ne C (hn 49) dX8_empties_19 (by decide) (x_al_n C dX8_empties_22 rfl (x_dup C dX8_empties_23 (gf_X8_169 C dX8_empties_24 (x_al_n C dX8_empties_27 rfl (gf_X8_98 C dX8_empties_28 (x_il_n C dX8_empties_31 rfl (x_iald C dX8_empties_32 (x_ic C dX8_empties_33 (by decide) (x_ic_ne C (hn 41) dX8_empties_34 (by decide) (x_ic C dX8_empties_37 (by decide) (x_goto C (hn 42) dX8_empties_38 (by decide)))))))))))))))))))))
set_option maxRecDepth 20000 in
theorem oX8_empties_41 {T : Ct} {Q : Option Value → MM → Prop} (C : Cx T cX8_empties 4 RX8 0 0) (CR : CxR T 1 23) (hr : T.2.2.2.2.2.2.2.2.1.sig.returnType = none) (hnm : T.2.2.2.2.2.2.2.2.1.name = "empties") {nx : Nat → Kt} (hn : ∀ pc, Sd T 4 (QT T Q 0 0) 0 0 pc (nx pc)) : Sd T 4 (QT T Q 0 0) 0 0 41 (bX8_empties_41 Q nx) := x_ic C dX8_empties_41 (by decide) (hn 42)
set_option maxRecDepth 20000 in
theorem oX8_empties_42 {T : Ct} {Q : Option Value → MM → Prop} (C : Cx T cX8_empties 4 RX8 0 0) (CR : CxR T 1 23) (hr : T.2.2.2.2.2.2.2.2.1.sig.returnType = none) (hnm : T.2.2.2.2.2.2.2.2.1.name = "empties") {nx : Nat → Kt} (hn : ∀ pc, Sd T 4 (QT T Q 0 0) 0 0 pc (nx pc)) : Sd T 4 (QT T Q 0 0) 0 0 42 (bX8_empties_42 Q nx) := x_iadd C dX8_empties_42 (pf_X8_169 C dX8_empties_43 (x_goto C (hn 58) dX8_empties_46 (by decide)))
set_option maxRecDepth 20000 in
theorem oX8_empties_49 {T : Ct} {Q : Option Value → MM → Prop} (C : Cx T cX8_empties 4 RX8 0 0) (CR : CxR T 1 23) (hr : T.2.2.2.2.2.2.2.2.1.sig.returnType = none) (hnm : T.2.2.2.2.2.2.2.2.1.name = "empties") {nx : Nat → Kt} (hn : ∀ pc, Sd T 4 (QT T Q 0 0) 0 0 pc (nx pc)) : Sd T 4 (QT T Q 0 0) 0 0 49 (bX8_empties_49 Q nx) := x_al_n C dX8_empties_49 rfl (x_il_n C dX8_empties_50 rfl (x_il_n C dX8_empties_51 rfl (x_cV C CR mX8_moves ⟨co_X8_moves, init_X8, md_X8_moves, by decide, by decide⟩ (ci := 8) (TX := TX8) (N := 51) rfl (by decide) ml_X8_172 im_X8_moves se_X8_moves dX8_empties_52 (x_inc C dX8_empties_55 (by decide) (by decide) (hn 58)))))
set_option maxRecDepth 20000 in
theorem oX8_empties_58 {T : Ct} {Q : Option Value → MM → Prop} (C : Cx T cX8_empties 4 RX8 0 0) (CR : CxR T 1 23) (hr : T.2.2.2.2.2.2.2.2.1.sig.returnType = none) (hnm : T.2.2.2.2.2.2.2.2.1.name = "empties") {nx : Nat → Kt} (hn : ∀ pc, Sd T 4 (QT T Q 0 0) 0 0 pc (nx pc)) : Sd T 4 (QT T Q 0 0) 0 0 58 (bX8_empties_58 Q nx) := x_inc C dX8_empties_58 (by decide) (by decide) (x_goto C (hn 4) dX8_empties_61 (by decide))
set_option maxRecDepth 20000 in
theorem oX8_empties_64 {T : Ct} {Q : Option Value → MM → Prop} (C : Cx T cX8_empties 4 RX8 0 0) (CR : CxR T 1 23) (hr : T.2.2.2.2.2.2.2.2.1.sig.returnType = none) (hnm : T.2.2.2.2.2.2.2.2.1.name = "empties") {nx : Nat → Kt} (hn : ∀ pc, Sd T 4 (QT T Q 0 0) 0 0 pc (nx pc)) : Sd T 4 (QT T Q 0 0) 0 0 64 (bX8_empties_64 Q nx) := x_al_n C dX8_empties_64 rfl (x_il_n C dX8_empties_65 rfl (pf_X8_166 C dX8_empties_66 (x_rV C hr dX8_empties_69)))
set_option maxRecDepth 20000 in
theorem mX8_empties (l : Launch) (D : va_G) (cA : Nat → ClassId) (base : Nat) : Mc l D cA base yX8_empties cX8_empties 4 none rX8_empties wX8_empties := mc_of (by decide +kernel) kX8_empties (fun T Q C CR hr hnm nx hn => bse_ok _ (List.forall_mem_cons.mpr ⟨oX8_empties_0 C CR hr hnm hn, List.forall_mem_cons.mpr ⟨oX8_empties_4 C CR hr hnm hn, List.forall_mem_cons.mpr ⟨oX8_empties_41 C CR hr hnm hn, List.forall_mem_cons.mpr ⟨oX8_empties_42 C CR hr hnm hn, List.forall_mem_cons.mpr ⟨oX8_empties_49 C CR hr hnm hn, List.forall_mem_cons.mpr ⟨oX8_empties_58 C CR hr hnm hn, List.forall_mem_cons.mpr ⟨oX8_empties_64 C CR hr hnm hn, fun _ h => nomatch h⟩⟩⟩⟩⟩⟩⟩))
theorem dX8_isCut_0 : decode cX8_isCut 0 = .ok (.aload_n 0, 1) := by decide +kernel
theorem dX8_isCut_1 : decode cX8_isCut 1 = .ok (.iload_n 1, 1) := by decide +kernel
theorem dX8_isCut_2 : decode cX8_isCut 2 = .ok (.invokevirtual 175, 3) := by decide +kernel
theorem dX8_isCut_5 : decode cX8_isCut 5 = .ok (.aload_n 0, 1) := by decide +kernel
theorem dX8_isCut_6 : decode cX8_isCut 6 = .ok (.getfield 83, 3) := by decide +kernel
theorem dX8_isCut_9 : decode cX8_isCut 9 = .ok (.iload_n 1, 1) := by decide +kernel
theorem dX8_isCut_10 : decode cX8_isCut 10 = .ok (.iconst 0, 1) := by decide +kernel
theorem dX8_isCut_11 : decode cX8_isCut 11 = .ok (.bastore, 1) := by decide +kernel
theorem dX8_isCut_12 : decode cX8_isCut 12 = .ok (.aload_n 0, 1) := by decide +kernel
theorem dX8_isCut_13 : decode cX8_isCut 13 = .ok (.aload_n 0, 1) := by decide +kernel
theorem dX8_isCut_14 : decode cX8_isCut 14 = .ok (.iload_n 1, 1) := by decide +kernel
theorem dX8_isCut_15 : decode cX8_isCut 15 = .ok (.iconst 0, 1) := by decide +kernel
theorem dX8_isCut_16 : decode cX8_isCut 16 = .ok (.invokevirtual 178, 3) := by decide +kernel
theorem dX8_isCut_19 : decode cX8_isCut 19 = .ok (.invokevirtual 182, 3) := by decide +kernel
theorem dX8_isCut_22 : decode cX8_isCut 22 = .ok (.aload_n 0, 1) := by decide +kernel
theorem dX8_isCut_23 : decode cX8_isCut 23 = .ok (.aload_n 0, 1) := by decide +kernel
theorem dX8_isCut_24 : decode cX8_isCut 24 = .ok (.iload_n 1, 1) := by decide +kernel
theorem dX8_isCut_25 : decode cX8_isCut 25 = .ok (.iconst 1, 1) := by decide +kernel
theorem dX8_isCut_26 : decode cX8_isCut 26 = .ok (.invokevirtual 178, 3) := by decide +kernel
theorem dX8_isCut_29 : decode cX8_isCut 29 = .ok (.invokevirtual 182, 3) := by decide +kernel
theorem dX8_isCut_32 : decode cX8_isCut 32 = .ok (.return_, 1) := by decide +kernel
noncomputable def bX8_isCut_0 (Q : Option Value → MM → Prop) (nx : Nat → Kt) : Kt := ldA 0 (ldI 1 (cV 1 8 wX8_empties 0 0 0 0 (ldA 0 (gR 8 25 (ldI 1 (cI 0 (sAZ (ldA 0 (ldA 0 (ldI 1 (cI 0 (cV 2 8 wX8_portAt 0 0 0 0 (cV 1 8 wX8_isDarkNow 0 0 0 0 (ldA 0 (ldA 0 (ldI 1 (cI 1 (cV 2 8 wX8_portAt 0 0 0 0 (cV 1 8 wX8_isDarkNow 0 0 0 0 (rV Q))))))))))))))))))))
noncomputable def kX8_isCut (Q : Option Value → MM → Prop) (nx : Nat → Kt) : Nat → Kt := bse [(0, bX8_isCut_0 Q nx)]
abbrev rX8_isCut : Room := { frames := 2, cells := 0, slots := 0, locals := 46 }
noncomputable def wX8_isCut : Mw := mw 2 kX8_isCut
set_option maxRecDepth 20000 in
theorem oX8_isCut_0 {T : Ct} {Q : Option Value → MM → Prop} (C : Cx T cX8_isCut 2 RX8 0 0) (CR : CxR T 2 46) (hr : T.2.2.2.2.2.2.2.2.1.sig.returnType = none) (hnm : T.2.2.2.2.2.2.2.2.1.name = "isCut") {nx : Nat → Kt} (hn : ∀ pc, Sd T 2 (QT T Q 0 0) 0 0 pc (nx pc)) : Sd T 2 (QT T Q 0 0) 0 0 0 (bX8_isCut_0 Q nx) := x_al_n C dX8_isCut_0 rfl (x_il_n C dX8_isCut_1 rfl (x_cV C CR mX8_empties ⟨co_X8_empties, init_X8, md_X8_empties, by decide, by decide⟩ (ci := 8) (TX := TX8) (N := 51) rfl (by decide) ml_X8_175 im_X8_empties se_X8_empties dX8_isCut_2 (x_al_n C dX8_isCut_5 rfl (gf_X8_83 C dX8_isCut_6 (x_il_n C dX8_isCut_9 rfl (x_ic C dX8_isCut_10 (by decide) (x_zast C dX8_isCut_11 (x_al_n C dX8_isCut_12 rfl (x_al_n C dX8_isCut_13 rfl (x_il_n C dX8_isCut_14 rfl (x_ic C dX8_isCut_15 (by decide) (x_cV C CR mX8_portAt ⟨co_X8_portAt, init_X8, md_X8_portAt, by decide, by decide⟩ (ci := 8) (TX := TX8) (N := 51) rfl (by decide) ml_X8_178 im_X8_portAt se_X8_portAt dX8_isCut_16 (x_cV C CR mX8_isDarkNow ⟨co_X8_isDarkNow, init_X8, md_X8_isDarkNow, by decide, by decide⟩ (ci := 8) (TX := TX8) (N := 51) rfl (by decide) ml_X8_182 im_X8_isDarkNow se_X8_isDarkNow dX8_isCut_19 (x_al_n C dX8_isCut_22 rfl (x_al_n C dX8_isCut_23 rfl (x_il_n C dX8_isCut_24 rfl (x_ic C dX8_isCut_25 (by decide) (x_cV C CR mX8_portAt ⟨co_X8_portAt, init_X8, md_X8_portAt, by decide, by decide⟩ (ci := 8) (TX := TX8) (N := 51) rfl (by decide) ml_X8_178 im_X8_portAt se_X8_portAt dX8_isCut_26 (x_cV C CR mX8_isDarkNow ⟨co_X8_isDarkNow, init_X8, md_X8_isDarkNow, by decide, by decide⟩ (ci := 8) (TX := TX8) (N := 51) rfl (by decide) ml_X8_182 im_X8_isDarkNow se_X8_isDarkNow dX8_isCut_29 (x_rV C hr dX8_isCut_32))))))))))))))))))))
set_option maxRecDepth 20000 in
theorem mX8_isCut (l : Launch) (D : va_G) (cA : Nat → ClassId) (base : Nat) : Mc l D cA base yX8_isCut cX8_isCut 2 none rX8_isCut wX8_isCut := mc_of (by decide +kernel) kX8_isCut (fun T Q C CR hr hnm nx hn => bse_ok _ (List.forall_mem_cons.mpr ⟨oX8_isCut_0 C CR hr hnm hn, fun _ h => nomatch h⟩))
theorem dX8_isUp_0 : decode cX8_isUp 0 = .ok (.aload_n 0, 1) := by decide +kernel
theorem dX8_isUp_1 : decode cX8_isUp 1 = .ok (.getfield 83, 3) := by decide +kernel
theorem dX8_isUp_4 : decode cX8_isUp 4 = .ok (.iload_n 1, 1) := by decide +kernel
theorem dX8_isUp_5 : decode cX8_isUp 5 = .ok (.iconst 1, 1) := by decide +kernel
theorem dX8_isUp_6 : decode cX8_isUp 6 = .ok (.bastore, 1) := by decide +kernel
theorem dX8_isUp_7 : decode cX8_isUp 7 = .ok (.aload_n 0, 1) := by decide +kernel
theorem dX8_isUp_8 : decode cX8_isUp 8 = .ok (.aload_n 0, 1) := by decide +kernel
theorem dX8_isUp_9 : decode cX8_isUp 9 = .ok (.iload_n 1, 1) := by decide +kernel
theorem dX8_isUp_10 : decode cX8_isUp 10 = .ok (.iconst 0, 1) := by decide +kernel
theorem dX8_isUp_11 : decode cX8_isUp 11 = .ok (.invokevirtual 178, 3) := by decide +kernel
theorem dX8_isUp_14 : decode cX8_isUp 14 = .ok (.invokevirtual 185, 3) := by decide +kernel
theorem dX8_isUp_17 : decode cX8_isUp 17 = .ok (.aload_n 0, 1) := by decide +kernel
theorem dX8_isUp_18 : decode cX8_isUp 18 = .ok (.aload_n 0, 1) := by decide +kernel
theorem dX8_isUp_19 : decode cX8_isUp 19 = .ok (.iload_n 1, 1) := by decide +kernel
theorem dX8_isUp_20 : decode cX8_isUp 20 = .ok (.iconst 1, 1) := by decide +kernel
theorem dX8_isUp_21 : decode cX8_isUp 21 = .ok (.invokevirtual 178, 3) := by decide +kernel
theorem dX8_isUp_24 : decode cX8_isUp 24 = .ok (.invokevirtual 185, 3) := by decide +kernel
theorem dX8_isUp_27 : decode cX8_isUp 27 = .ok (.return_, 1) := by decide +kernel
noncomputable def bX8_isUp_0 (Q : Option Value → MM → Prop) (nx : Nat → Kt) : Kt := ldA 0 (gR 8 25 (ldI 1 (cI 1 (sAZ (ldA 0 (ldA 0 (ldI 1 (cI 0 (cV 2 8 wX8_portAt 0 0 0 0 (cV 1 8 wX8_isLitNow 0 0 0 0 (ldA 0 (ldA 0 (ldI 1 (cI 1 (cV 2 8 wX8_portAt 0 0 0 0 (cV 1 8 wX8_isLitNow 0 0 0 0 (rV Q)))))))))))))))))
noncomputable def kX8_isUp (Q : Option Value → MM → Prop) (nx : Nat → Kt) : Nat → Kt := bse [(0, bX8_isUp_0 Q nx)]
abbrev rX8_isUp : Room := { frames := 2, cells := 0, slots := 0, locals := 43 }
noncomputable def wX8_isUp : Mw := mw 2 kX8_isUp
set_option maxRecDepth 20000 in
theorem oX8_isUp_0 {T : Ct} {Q : Option Value → MM → Prop} (C : Cx T cX8_isUp 2 RX8 0 0) (CR : CxR T 2 43) (hr : T.2.2.2.2.2.2.2.2.1.sig.returnType = none) (hnm : T.2.2.2.2.2.2.2.2.1.name = "isUp") {nx : Nat → Kt} (hn : ∀ pc, Sd T 2 (QT T Q 0 0) 0 0 pc (nx pc)) : Sd T 2 (QT T Q 0 0) 0 0 0 (bX8_isUp_0 Q nx) := x_al_n C dX8_isUp_0 rfl (gf_X8_83 C dX8_isUp_1 (x_il_n C dX8_isUp_4 rfl (x_ic C dX8_isUp_5 (by decide) (x_zast C dX8_isUp_6 (x_al_n C dX8_isUp_7 rfl (x_al_n C dX8_isUp_8 rfl (x_il_n C dX8_isUp_9 rfl (x_ic C dX8_isUp_10 (by decide) (x_cV C CR mX8_portAt ⟨co_X8_portAt, init_X8, md_X8_portAt, by decide, by decide⟩ (ci := 8) (TX := TX8) (N := 51) rfl (by decide) ml_X8_178 im_X8_portAt se_X8_portAt dX8_isUp_11 (x_cV C CR mX8_isLitNow ⟨co_X8_isLitNow, init_X8, md_X8_isLitNow, by decide, by decide⟩ (ci := 8) (TX := TX8) (N := 51) rfl (by decide) ml_X8_185 im_X8_isLitNow se_X8_isLitNow dX8_isUp_14 (x_al_n C dX8_isUp_17 rfl (x_al_n C dX8_isUp_18 rfl (x_il_n C dX8_isUp_19 rfl (x_ic C dX8_isUp_20 (by decide) (x_cV C CR mX8_portAt ⟨co_X8_portAt, init_X8, md_X8_portAt, by decide, by decide⟩ (ci := 8) (TX := TX8) (N := 51) rfl (by decide) ml_X8_178 im_X8_portAt se_X8_portAt dX8_isUp_21 (x_cV C CR mX8_isLitNow ⟨co_X8_isLitNow, init_X8, md_X8_isLitNow, by decide, by decide⟩ (ci := 8) (TX := TX8) (N := 51) rfl (by decide) ml_X8_185 im_X8_isLitNow se_X8_isLitNow dX8_isUp_24 (x_rV C hr dX8_isUp_27)))))))))))))))))
set_option maxRecDepth 20000 in
theorem mX8_isUp (l : Launch) (D : va_G) (cA : Nat → ClassId) (base : Nat) : Mc l D cA base yX8_isUp cX8_isUp 2 none rX8_isUp wX8_isUp := mc_of (by decide +kernel) kX8_isUp (fun T Q C CR hr hnm nx hn => bse_ok _ (List.forall_mem_cons.mpr ⟨oX8_isUp_0 C CR hr hnm hn, fun _ h => nomatch h⟩))
theorem dX8_isPulled_0 : decode cX8_isPulled 0 = .ok (.aload_n 0, 1) := by decide +kernel
theorem dX8_isPulled_1 : decode cX8_isPulled 1 = .ok (.getfield 83, 3) := by decide +kernel
theorem dX8_isPulled_4 : decode cX8_isPulled 4 = .ok (.iload_n 1, 1) := by decide +kernel
theorem dX8_isPulled_5 : decode cX8_isPulled 5 = .ok (.baload, 1) := by decide +kernel
theorem dX8_isPulled_6 : decode cX8_isPulled 6 = .ok (.ifCond .eq 8, 3) := by decide +kernel
theorem dX8_isPulled_9 : decode cX8_isPulled 9 = .ok (.aload_n 0, 1) := by decide +kernel
theorem dX8_isPulled_10 : decode cX8_isPulled 10 = .ok (.iload_n 1, 1) := by decide +kernel
theorem dX8_isPulled_11 : decode cX8_isPulled 11 = .ok (.invokevirtual 188, 3) := by decide +kernel
theorem dX8_isPulled_14 : decode cX8_isPulled 14 = .ok (.aload_n 0, 1) := by decide +kernel
theorem dX8_isPulled_15 : decode cX8_isPulled 15 = .ok (.getfield 41, 3) := by decide +kernel
theorem dX8_isPulled_18 : decode cX8_isPulled 18 = .ok (.aload_n 0, 1) := by decide +kernel
theorem dX8_isPulled_19 : decode cX8_isPulled 19 = .ok (.iload_n 1, 1) := by decide +kernel
theorem dX8_isPulled_20 : decode cX8_isPulled 20 = .ok (.iconst 0, 1) := by decide +kernel
theorem dX8_isPulled_21 : decode cX8_isPulled 21 = .ok (.invokevirtual 178, 3) := by decide +kernel
theorem dX8_isPulled_24 : decode cX8_isPulled 24 = .ok (.iconst (-1), 1) := by decide +kernel
theorem dX8_isPulled_25 : decode cX8_isPulled 25 = .ok (.iastore, 1) := by decide +kernel
theorem dX8_isPulled_26 : decode cX8_isPulled 26 = .ok (.aload_n 0, 1) := by decide +kernel
theorem dX8_isPulled_27 : decode cX8_isPulled 27 = .ok (.getfield 41, 3) := by decide +kernel
theorem dX8_isPulled_30 : decode cX8_isPulled 30 = .ok (.aload_n 0, 1) := by decide +kernel
theorem dX8_isPulled_31 : decode cX8_isPulled 31 = .ok (.iload_n 1, 1) := by decide +kernel
theorem dX8_isPulled_32 : decode cX8_isPulled 32 = .ok (.iconst 1, 1) := by decide +kernel
theorem dX8_isPulled_33 : decode cX8_isPulled 33 = .ok (.invokevirtual 178, 3) := by decide +kernel
theorem dX8_isPulled_36 : decode cX8_isPulled 36 = .ok (.iconst (-1), 1) := by decide +kernel
theorem dX8_isPulled_37 : decode cX8_isPulled 37 = .ok (.iastore, 1) := by decide +kernel
theorem dX8_isPulled_38 : decode cX8_isPulled 38 = .ok (.aload_n 0, 1) := by decide +kernel
theorem dX8_isPulled_39 : decode cX8_isPulled 39 = .ok (.getfield 80, 3) := by decide +kernel
theorem dX8_isPulled_42 : decode cX8_isPulled 42 = .ok (.iload_n 1, 1) := by decide +kernel
theorem dX8_isPulled_43 : decode cX8_isPulled 43 = .ok (.iconst 0, 1) := by decide +kernel
theorem dX8_isPulled_44 : decode cX8_isPulled 44 = .ok (.bastore, 1) := by decide +kernel
theorem dX8_isPulled_45 : decode cX8_isPulled 45 = .ok (.return_, 1) := by decide +kernel
noncomputable def bX8_isPulled_0 (Q : Option Value → MM → Prop) (nx : Nat → Kt) : Kt := ldA 0 (gR 8 25 (ldI 1 (aI 11 (ifz (fun x => x = 0) (nx 14) (ldA 0 (ldI 1 (cV 1 8 wX8_isCut 0 0 0 0 (nx 14))))))))
noncomputable def bX8_isPulled_14 (Q : Option Value → MM → Prop) (nx : Nat → Kt) : Kt := ldA 0 (gR 8 11 (ldA 0 (ldI 1 (cI 0 (cV 2 8 wX8_portAt 0 0 0 0 (cI (-1) (sAI (ldA 0 (gR 8 11 (ldA 0 (ldI 1 (cI 1 (cV 2 8 wX8_portAt 0 0 0 0 (cI (-1) (sAI (ldA 0 (gR 8 24 (ldI 1 (cI 0 (sAZ (rV Q)))))))))))))))))))))
noncomputable def kX8_isPulled (Q : Option Value → MM → Prop) (nx : Nat → Kt) : Nat → Kt := bse [(0, bX8_isPulled_0 Q nx), (14, bX8_isPulled_14 Q nx)]
abbrev rX8_isPulled : Room := { frames := 3, cells := 0, slots := 0, locals := 67 }
noncomputable def wX8_isPulled : Mw := mw 2 kX8_isPulled
set_option maxRecDepth 20000 in
theorem oX8_isPulled_0 {T : Ct} {Q : Option Value → MM → Prop} (C : Cx T cX8_isPulled 2 RX8 0 0) (CR : CxR T 3 67) (hr : T.2.2.2.2.2.2.2.2.1.sig.returnType = none) (hnm : T.2.2.2.2.2.2.2.2.1.name = "isPulled") {nx : Nat → Kt} (hn : ∀ pc, Sd T 2 (QT T Q 0 0) 0 0 pc (nx pc)) : Sd T 2 (QT T Q 0 0) 0 0 0 (bX8_isPulled_0 Q nx) := x_al_n C dX8_isPulled_0 rfl (gf_X8_83 C dX8_isPulled_1 (x_il_n C dX8_isPulled_4 rfl (x_zald C dX8_isPulled_5 (x_if_eq C (hn 14) dX8_isPulled_6 (by decide) (x_al_n C dX8_isPulled_9 rfl (x_il_n C dX8_isPulled_10 rfl (x_cV C CR mX8_isCut ⟨co_X8_isCut, init_X8, md_X8_isCut, by decide, by decide⟩ (ci := 8) (TX := TX8) (N := 51) rfl (by decide) ml_X8_188 im_X8_isCut se_X8_isCut dX8_isPulled_11 (hn 14))))))))
set_option maxRecDepth 20000 in
theorem oX8_isPulled_14 {T : Ct} {Q : Option Value → MM → Prop} (C : Cx T cX8_isPulled 2 RX8 0 0) (CR : CxR T 3 67) (hr : T.2.2.2.2.2.2.2.2.1.sig.returnType = none) (hnm : T.2.2.2.2.2.2.2.2.1.name = "isPulled") {nx : Nat → Kt} (hn : ∀ pc, Sd T 2 (QT T Q 0 0) 0 0 pc (nx pc)) : Sd T 2 (QT T Q 0 0) 0 0 14 (bX8_isPulled_14 Q nx) := x_al_n C dX8_isPulled_14 rfl (gf_X8_41 C dX8_isPulled_15 (x_al_n C dX8_isPulled_18 rfl (x_il_n C dX8_isPulled_19 rfl (x_ic C dX8_isPulled_20 (by decide) (x_cV C CR mX8_portAt ⟨co_X8_portAt, init_X8, md_X8_portAt, by decide, by decide⟩ (ci := 8) (TX := TX8) (N := 51) rfl (by decide) ml_X8_178 im_X8_portAt se_X8_portAt dX8_isPulled_21 (x_ic C dX8_isPulled_24 (by decide) (x_iast C dX8_isPulled_25 (x_al_n C dX8_isPulled_26 rfl (gf_X8_41 C dX8_isPulled_27 (x_al_n C dX8_isPulled_30 rfl (x_il_n C dX8_isPulled_31 rfl (x_ic C dX8_isPulled_32 (by decide) (x_cV C CR mX8_portAt ⟨co_X8_portAt, init_X8, md_X8_portAt, by decide, by decide⟩ (ci := 8) (TX := TX8) (N := 51) rfl (by decide) ml_X8_178 im_X8_portAt se_X8_portAt dX8_isPulled_33 (x_ic C dX8_isPulled_36 (by decide) (x_iast C dX8_isPulled_37 (x_al_n C dX8_isPulled_38 rfl (gf_X8_80 C dX8_isPulled_39 (x_il_n C dX8_isPulled_42 rfl (x_ic C dX8_isPulled_43 (by decide) (x_zast C dX8_isPulled_44 (x_rV C hr dX8_isPulled_45)))))))))))))))))))))
set_option maxRecDepth 20000 in
theorem mX8_isPulled (l : Launch) (D : va_G) (cA : Nat → ClassId) (base : Nat) : Mc l D cA base yX8_isPulled cX8_isPulled 2 none rX8_isPulled wX8_isPulled := mc_of (by decide +kernel) kX8_isPulled (fun T Q C CR hr hnm nx hn => bse_ok _ (List.forall_mem_cons.mpr ⟨oX8_isPulled_0 C CR hr hnm hn, List.forall_mem_cons.mpr ⟨oX8_isPulled_14 C CR hr hnm hn, fun _ h => nomatch h⟩⟩))
theorem dX8_isCable_0 : decode cX8_isCable 0 = .ok (.iload_n 0, 1) := by decide +kernel
theorem dX8_isCable_1 : decode cX8_isCable 1 = .ok (.ifCond .lt 13, 3) := by decide +kernel
theorem dX8_isCable_4 : decode cX8_isCable 4 = .ok (.iload_n 0, 1) := by decide +kernel
theorem dX8_isCable_5 : decode cX8_isCable 5 = .ok (.bipush 8, 2) := by decide +kernel
theorem dX8_isCable_7 : decode cX8_isCable 7 = .ok (.if_icmp .ge 7, 3) := by decide +kernel
theorem dX8_isCable_10 : decode cX8_isCable 10 = .ok (.iconst 1, 1) := by decide +kernel
theorem dX8_isCable_11 : decode cX8_isCable 11 = .ok (.goto 4, 3) := by decide +kernel
theorem dX8_isCable_14 : decode cX8_isCable 14 = .ok (.iconst 0, 1) := by decide +kernel
theorem dX8_isCable_15 : decode cX8_isCable 15 = .ok (.ireturn, 1) := by decide +kernel
noncomputable def bX8_isCable_0 (Q : Option Value → MM → Prop) (nx : Nat → Kt) : Kt := ldI 0 (ifz (fun x => x < 0) (nx 14) (ldI 0 (cI 8 (ifc (fun x y => y ≤ x) (nx 14) (cI 1 (nx 15))))))
noncomputable def bX8_isCable_14 (Q : Option Value → MM → Prop) (nx : Nat → Kt) : Kt := cI 0 (nx 15)
noncomputable def bX8_isCable_15 (Q : Option Value → MM → Prop) (nx : Nat → Kt) : Kt := rZ Q
noncomputable def kX8_isCable (Q : Option Value → MM → Prop) (nx : Nat → Kt) : Nat → Kt := bse [(0, bX8_isCable_0 Q nx), (14, bX8_isCable_14 Q nx), (15, bX8_isCable_15 Q nx)]
abbrev rX8_isCable : Room := { frames := 0, cells := 0, slots := 0, locals := 0 }
noncomputable def wX8_isCable : Mw := mw 1 kX8_isCable
set_option maxRecDepth 20000 in
theorem oX8_isCable_0 {T : Ct} {Q : Option Value → MM → Prop} (C : Cx T cX8_isCable 1 RX8 0 0) (CR : CxR T 0 0) (hr : T.2.2.2.2.2.2.2.2.1.sig.returnType = (some .boolean)) (hnm : T.2.2.2.2.2.2.2.2.1.name = "isCable") {nx : Nat → Kt} (hn : ∀ pc, Sd T 1 (QT T Q 0 0) 0 0 pc (nx pc)) : Sd T 1 (QT T Q 0 0) 0 0 0 (bX8_isCable_0 Q nx) := x_il_n C dX8_isCable_0 rfl (x_if_lt C (hn 14) dX8_isCable_1 (by decide) (x_il_n C dX8_isCable_4 rfl (x_bp C dX8_isCable_5 (by decide) (x_ic_ge C (hn 14) dX8_isCable_7 (by decide) (x_ic C dX8_isCable_10 (by decide) (x_goto C (hn 15) dX8_isCable_11 (by decide)))))))
set_option maxRecDepth 20000 in
theorem oX8_isCable_14 {T : Ct} {Q : Option Value → MM → Prop} (C : Cx T cX8_isCable 1 RX8 0 0) (CR : CxR T 0 0) (hr : T.2.2.2.2.2.2.2.2.1.sig.returnType = (some .boolean)) (hnm : T.2.2.2.2.2.2.2.2.1.name = "isCable") {nx : Nat → Kt} (hn : ∀ pc, Sd T 1 (QT T Q 0 0) 0 0 pc (nx pc)) : Sd T 1 (QT T Q 0 0) 0 0 14 (bX8_isCable_14 Q nx) := x_ic C dX8_isCable_14 (by decide) (hn 15)
set_option maxRecDepth 20000 in
theorem oX8_isCable_15 {T : Ct} {Q : Option Value → MM → Prop} (C : Cx T cX8_isCable 1 RX8 0 0) (CR : CxR T 0 0) (hr : T.2.2.2.2.2.2.2.2.1.sig.returnType = (some .boolean)) (hnm : T.2.2.2.2.2.2.2.2.1.name = "isCable") {nx : Nat → Kt} (hn : ∀ pc, Sd T 1 (QT T Q 0 0) 0 0 pc (nx pc)) : Sd T 1 (QT T Q 0 0) 0 0 15 (bX8_isCable_15 Q nx) := x_rZ C hr dX8_isCable_15
set_option maxRecDepth 20000 in
theorem mX8_isCable (l : Launch) (D : va_G) (cA : Nat → ClassId) (base : Nat) : Mc l D cA base yX8_isCable cX8_isCable 1 (some .boolean) rX8_isCable wX8_isCable := mc_of (by decide +kernel) kX8_isCable (fun T Q C CR hr hnm nx hn => bse_ok _ (List.forall_mem_cons.mpr ⟨oX8_isCable_0 C CR hr hnm hn, List.forall_mem_cons.mpr ⟨oX8_isCable_14 C CR hr hnm hn, List.forall_mem_cons.mpr ⟨oX8_isCable_15 C CR hr hnm hn, fun _ h => nomatch h⟩⟩⟩))
theorem dX8_isAnother_0 : decode cX8_isAnother 0 = .ok (.aload_n 0, 1) := by decide +kernel
theorem dX8_isAnother_1 : decode cX8_isAnother 1 = .ok (.getfield 41, 3) := by decide +kernel
theorem dX8_isAnother_4 : decode cX8_isAnother 4 = .ok (.iload_n 1, 1) := by decide +kernel
theorem dX8_isAnother_5 : decode cX8_isAnother 5 = .ok (.iaload, 1) := by decide +kernel
theorem dX8_isAnother_6 : decode cX8_isAnother 6 = .ok (.iconst (-1), 1) := by decide +kernel
theorem dX8_isAnother_7 : decode cX8_isAnother 7 = .ok (.if_icmp .eq 17, 3) := by decide +kernel
theorem dX8_isAnother_10 : decode cX8_isAnother 10 = .ok (.aload_n 0, 1) := by decide +kernel
theorem dX8_isAnother_11 : decode cX8_isAnother 11 = .ok (.getfield 41, 3) := by decide +kernel
theorem dX8_isAnother_14 : decode cX8_isAnother 14 = .ok (.iload_n 1, 1) := by decide +kernel
theorem dX8_isAnother_15 : decode cX8_isAnother 15 = .ok (.iaload, 1) := by decide +kernel
theorem dX8_isAnother_16 : decode cX8_isAnother 16 = .ok (.iload_n 2, 1) := by decide +kernel
theorem dX8_isAnother_17 : decode cX8_isAnother 17 = .ok (.if_icmp .eq 7, 3) := by decide +kernel
theorem dX8_isAnother_20 : decode cX8_isAnother 20 = .ok (.iconst 1, 1) := by decide +kernel
theorem dX8_isAnother_21 : decode cX8_isAnother 21 = .ok (.goto 4, 3) := by decide +kernel
theorem dX8_isAnother_24 : decode cX8_isAnother 24 = .ok (.iconst 0, 1) := by decide +kernel
theorem dX8_isAnother_25 : decode cX8_isAnother 25 = .ok (.ireturn, 1) := by decide +kernel
noncomputable def bX8_isAnother_0 (Q : Option Value → MM → Prop) (nx : Nat → Kt) : Kt := ldA 0 (gR 8 11 (ldI 1 (aI 10 (cI (-1) (ifc (fun x y => x = y) (nx 24) (ldA 0 (gR 8 11 (ldI 1 (aI 10 (ldI 2 (ifc (fun x y => x = y) (nx 24) (cI 1 (nx 25)))))))))))))
noncomputable def bX8_isAnother_24 (Q : Option Value → MM → Prop) (nx : Nat → Kt) : Kt := cI 0 (nx 25)
noncomputable def bX8_isAnother_25 (Q : Option Value → MM → Prop) (nx : Nat → Kt) : Kt := rZ Q
noncomputable def kX8_isAnother (Q : Option Value → MM → Prop) (nx : Nat → Kt) : Nat → Kt := bse [(0, bX8_isAnother_0 Q nx), (24, bX8_isAnother_24 Q nx), (25, bX8_isAnother_25 Q nx)]
abbrev rX8_isAnother : Room := { frames := 0, cells := 0, slots := 0, locals := 0 }
noncomputable def wX8_isAnother : Mw := mw 3 kX8_isAnother
set_option maxRecDepth 20000 in
theorem oX8_isAnother_0 {T : Ct} {Q : Option Value → MM → Prop} (C : Cx T cX8_isAnother 3 RX8 0 0) (CR : CxR T 0 0) (hr : T.2.2.2.2.2.2.2.2.1.sig.returnType = (some .boolean)) (hnm : T.2.2.2.2.2.2.2.2.1.name = "isAnother") {nx : Nat → Kt} (hn : ∀ pc, Sd T 3 (QT T Q 0 0) 0 0 pc (nx pc)) : Sd T 3 (QT T Q 0 0) 0 0 0 (bX8_isAnother_0 Q nx) := x_al_n C dX8_isAnother_0 rfl (gf_X8_41 C dX8_isAnother_1 (x_il_n C dX8_isAnother_4 rfl (x_iald C dX8_isAnother_5 (x_ic C dX8_isAnother_6 (by decide) (x_ic_eq C (hn 24) dX8_isAnother_7 (by decide) (x_al_n C dX8_isAnother_10 rfl (gf_X8_41 C dX8_isAnother_11 (x_il_n C dX8_isAnother_14 rfl (x_iald C dX8_isAnother_15 (x_il_n C dX8_isAnother_16 rfl (x_ic_eq C (hn 24) dX8_isAnother_17 (by decide) (x_ic C dX8_isAnother_20 (by decide) (x_goto C (hn 25) dX8_isAnother_21 (by decide))))))))))))))
set_option maxRecDepth 20000 in
theorem oX8_isAnother_24 {T : Ct} {Q : Option Value → MM → Prop} (C : Cx T cX8_isAnother 3 RX8 0 0) (CR : CxR T 0 0) (hr : T.2.2.2.2.2.2.2.2.1.sig.returnType = (some .boolean)) (hnm : T.2.2.2.2.2.2.2.2.1.name = "isAnother") {nx : Nat → Kt} (hn : ∀ pc, Sd T 3 (QT T Q 0 0) 0 0 pc (nx pc)) : Sd T 3 (QT T Q 0 0) 0 0 24 (bX8_isAnother_24 Q nx) := x_ic C dX8_isAnother_24 (by decide) (hn 25)
set_option maxRecDepth 20000 in
theorem oX8_isAnother_25 {T : Ct} {Q : Option Value → MM → Prop} (C : Cx T cX8_isAnother 3 RX8 0 0) (CR : CxR T 0 0) (hr : T.2.2.2.2.2.2.2.2.1.sig.returnType = (some .boolean)) (hnm : T.2.2.2.2.2.2.2.2.1.name = "isAnother") {nx : Nat → Kt} (hn : ∀ pc, Sd T 3 (QT T Q 0 0) 0 0 pc (nx pc)) : Sd T 3 (QT T Q 0 0) 0 0 25 (bX8_isAnother_25 Q nx) := x_rZ C hr dX8_isAnother_25
set_option maxRecDepth 20000 in
theorem mX8_isAnother (l : Launch) (D : va_G) (cA : Nat → ClassId) (base : Nat) : Mc l D cA base yX8_isAnother cX8_isAnother 3 (some .boolean) rX8_isAnother wX8_isAnother := mc_of (by decide +kernel) kX8_isAnother (fun T Q C CR hr hnm nx hn => bse_ok _ (List.forall_mem_cons.mpr ⟨oX8_isAnother_0 C CR hr hnm hn, List.forall_mem_cons.mpr ⟨oX8_isAnother_24 C CR hr hnm hn, List.forall_mem_cons.mpr ⟨oX8_isAnother_25 C CR hr hnm hn, fun _ h => nomatch h⟩⟩⟩))
theorem dX8_plug_0 : decode cX8_plug 0 = .ok (.aload_n 0, 1) := by decide +kernel
theorem dX8_plug_1 : decode cX8_plug 1 = .ok (.iload_n 1, 1) := by decide +kernel
theorem dX8_plug_2 : decode cX8_plug 2 = .ok (.invokestatic 191, 3) := by decide +kernel
theorem dX8_plug_5 : decode cX8_plug 5 = .ok (.ifCond .eq 30, 3) := by decide +kernel
theorem dX8_plug_8 : decode cX8_plug 8 = .ok (.iload_n 2, 1) := by decide +kernel
theorem dX8_plug_9 : decode cX8_plug 9 = .ok (.invokestatic 162, 3) := by decide +kernel
theorem dX8_plug_12 : decode cX8_plug 12 = .ok (.ifCond .eq 23, 3) := by decide +kernel
theorem dX8_plug_15 : decode cX8_plug 15 = .ok (.iload_n 3, 1) := by decide +kernel
theorem dX8_plug_16 : decode cX8_plug 16 = .ok (.invokestatic 162, 3) := by decide +kernel
theorem dX8_plug_19 : decode cX8_plug 19 = .ok (.ifCond .eq 16, 3) := by decide +kernel
theorem dX8_plug_22 : decode cX8_plug 22 = .ok (.iload 4, 2) := by decide +kernel
theorem dX8_plug_24 : decode cX8_plug 24 = .ok (.iconst 1, 1) := by decide +kernel
theorem dX8_plug_25 : decode cX8_plug 25 = .ok (.if_icmp .lt 10, 3) := by decide +kernel
theorem dX8_plug_28 : decode cX8_plug 28 = .ok (.iload 4, 2) := by decide +kernel
theorem dX8_plug_30 : decode cX8_plug 30 = .ok (.bipush 8, 2) := by decide +kernel
theorem dX8_plug_32 : decode cX8_plug 32 = .ok (.if_icmp .le 7, 3) := by decide +kernel
theorem dX8_plug_35 : decode cX8_plug 35 = .ok (.iconst 1, 1) := by decide +kernel
theorem dX8_plug_36 : decode cX8_plug 36 = .ok (.goto 29, 3) := by decide +kernel
theorem dX8_plug_39 : decode cX8_plug 39 = .ok (.aload_n 0, 1) := by decide +kernel
theorem dX8_plug_40 : decode cX8_plug 40 = .ok (.iload_n 2, 1) := by decide +kernel
theorem dX8_plug_41 : decode cX8_plug 41 = .ok (.iload_n 1, 1) := by decide +kernel
theorem dX8_plug_42 : decode cX8_plug 42 = .ok (.invokevirtual 194, 3) := by decide +kernel
theorem dX8_plug_45 : decode cX8_plug 45 = .ok (.ifCond .ne 15, 3) := by decide +kernel
theorem dX8_plug_48 : decode cX8_plug 48 = .ok (.aload_n 0, 1) := by decide +kernel
theorem dX8_plug_49 : decode cX8_plug 49 = .ok (.bipush 8, 2) := by decide +kernel
theorem dX8_plug_51 : decode cX8_plug 51 = .ok (.iload_n 3, 1) := by decide +kernel
theorem dX8_plug_52 : decode cX8_plug 52 = .ok (.iadd, 1) := by decide +kernel
theorem dX8_plug_53 : decode cX8_plug 53 = .ok (.iload_n 1, 1) := by decide +kernel
theorem dX8_plug_54 : decode cX8_plug 54 = .ok (.invokevirtual 194, 3) := by decide +kernel
theorem dX8_plug_57 : decode cX8_plug 57 = .ok (.ifCond .eq 7, 3) := by decide +kernel
theorem dX8_plug_60 : decode cX8_plug 60 = .ok (.iconst 2, 1) := by decide +kernel
theorem dX8_plug_61 : decode cX8_plug 61 = .ok (.goto 4, 3) := by decide +kernel
theorem dX8_plug_64 : decode cX8_plug 64 = .ok (.iconst 0, 1) := by decide +kernel
theorem dX8_plug_65 : decode cX8_plug 65 = .ok (.putfield 132, 3) := by decide +kernel
theorem dX8_plug_68 : decode cX8_plug 68 = .ok (.aload_n 0, 1) := by decide +kernel
theorem dX8_plug_69 : decode cX8_plug 69 = .ok (.getfield 132, 3) := by decide +kernel
theorem dX8_plug_72 : decode cX8_plug 72 = .ok (.ifCond .le 4, 3) := by decide +kernel
theorem dX8_plug_75 : decode cX8_plug 75 = .ok (.return_, 1) := by decide +kernel
theorem dX8_plug_76 : decode cX8_plug 76 = .ok (.aload_n 0, 1) := by decide +kernel
theorem dX8_plug_77 : decode cX8_plug 77 = .ok (.getfield 80, 3) := by decide +kernel
theorem dX8_plug_80 : decode cX8_plug 80 = .ok (.iload_n 1, 1) := by decide +kernel
theorem dX8_plug_81 : decode cX8_plug 81 = .ok (.baload, 1) := by decide +kernel
theorem dX8_plug_82 : decode cX8_plug 82 = .ok (.ifCond .eq 8, 3) := by decide +kernel
theorem dX8_plug_85 : decode cX8_plug 85 = .ok (.aload_n 0, 1) := by decide +kernel
theorem dX8_plug_86 : decode cX8_plug 86 = .ok (.iload_n 1, 1) := by decide +kernel
theorem dX8_plug_87 : decode cX8_plug 87 = .ok (.invokevirtual 198, 3) := by decide +kernel
theorem dX8_plug_90 : decode cX8_plug 90 = .ok (.aload_n 0, 1) := by decide +kernel
theorem dX8_plug_91 : decode cX8_plug 91 = .ok (.getfield 80, 3) := by decide +kernel
theorem dX8_plug_94 : decode cX8_plug 94 = .ok (.iload_n 1, 1) := by decide +kernel
theorem dX8_plug_95 : decode cX8_plug 95 = .ok (.iconst 1, 1) := by decide +kernel
theorem dX8_plug_96 : decode cX8_plug 96 = .ok (.bastore, 1) := by decide +kernel
theorem dX8_plug_97 : decode cX8_plug 97 = .ok (.aload_n 0, 1) := by decide +kernel
theorem dX8_plug_98 : decode cX8_plug 98 = .ok (.getfield 74, 3) := by decide +kernel
theorem dX8_plug_101 : decode cX8_plug 101 = .ok (.iconst 2, 1) := by decide +kernel
theorem dX8_plug_102 : decode cX8_plug 102 = .ok (.iload_n 1, 1) := by decide +kernel
theorem dX8_plug_103 : decode cX8_plug 103 = .ok (.imul, 1) := by decide +kernel
theorem dX8_plug_104 : decode cX8_plug 104 = .ok (.iload_n 2, 1) := by decide +kernel
theorem dX8_plug_105 : decode cX8_plug 105 = .ok (.iastore, 1) := by decide +kernel
theorem dX8_plug_106 : decode cX8_plug 106 = .ok (.aload_n 0, 1) := by decide +kernel
theorem dX8_plug_107 : decode cX8_plug 107 = .ok (.getfield 74, 3) := by decide +kernel
theorem dX8_plug_110 : decode cX8_plug 110 = .ok (.iconst 2, 1) := by decide +kernel
theorem dX8_plug_111 : decode cX8_plug 111 = .ok (.iload_n 1, 1) := by decide +kernel
theorem dX8_plug_112 : decode cX8_plug 112 = .ok (.imul, 1) := by decide +kernel
theorem dX8_plug_113 : decode cX8_plug 113 = .ok (.iconst 1, 1) := by decide +kernel
theorem dX8_plug_114 : decode cX8_plug 114 = .ok (.iadd, 1) := by decide +kernel
theorem dX8_plug_115 : decode cX8_plug 115 = .ok (.iload_n 3, 1) := by decide +kernel
theorem dX8_plug_116 : decode cX8_plug 116 = .ok (.iastore, 1) := by decide +kernel
theorem dX8_plug_117 : decode cX8_plug 117 = .ok (.aload_n 0, 1) := by decide +kernel
theorem dX8_plug_118 : decode cX8_plug 118 = .ok (.getfield 77, 3) := by decide +kernel
theorem dX8_plug_121 : decode cX8_plug 121 = .ok (.iload_n 1, 1) := by decide +kernel
theorem dX8_plug_122 : decode cX8_plug 122 = .ok (.iload 4, 2) := by decide +kernel
theorem dX8_plug_124 : decode cX8_plug 124 = .ok (.iastore, 1) := by decide +kernel
theorem dX8_plug_125 : decode cX8_plug 125 = .ok (.aload_n 0, 1) := by decide +kernel
theorem dX8_plug_126 : decode cX8_plug 126 = .ok (.getfield 41, 3) := by decide +kernel
theorem dX8_plug_129 : decode cX8_plug 129 = .ok (.iload_n 2, 1) := by decide +kernel
theorem dX8_plug_130 : decode cX8_plug 130 = .ok (.iload_n 1, 1) := by decide +kernel
theorem dX8_plug_131 : decode cX8_plug 131 = .ok (.iastore, 1) := by decide +kernel
theorem dX8_plug_132 : decode cX8_plug 132 = .ok (.aload_n 0, 1) := by decide +kernel
theorem dX8_plug_133 : decode cX8_plug 133 = .ok (.getfield 41, 3) := by decide +kernel
theorem dX8_plug_136 : decode cX8_plug 136 = .ok (.bipush 8, 2) := by decide +kernel
theorem dX8_plug_138 : decode cX8_plug 138 = .ok (.iload_n 3, 1) := by decide +kernel
theorem dX8_plug_139 : decode cX8_plug 139 = .ok (.iadd, 1) := by decide +kernel
theorem dX8_plug_140 : decode cX8_plug 140 = .ok (.iload_n 1, 1) := by decide +kernel
theorem dX8_plug_141 : decode cX8_plug 141 = .ok (.iastore, 1) := by decide +kernel
theorem dX8_plug_142 : decode cX8_plug 142 = .ok (.aload_n 0, 1) := by decide +kernel
theorem dX8_plug_143 : decode cX8_plug 143 = .ok (.iload_n 1, 1) := by decide +kernel
theorem dX8_plug_144 : decode cX8_plug 144 = .ok (.invokevirtual 201, 3) := by decide +kernel
theorem dX8_plug_147 : decode cX8_plug 147 = .ok (.aload_n 0, 1) := by decide +kernel
theorem dX8_plug_148 : decode cX8_plug 148 = .ok (.invokevirtual 159, 3) := by decide +kernel
theorem dX8_plug_151 : decode cX8_plug 151 = .ok (.return_, 1) := by decide +kernel
noncomputable def bX8_plug_0 (Q : Option Value → MM → Prop) (nx : Nat → Kt) : Kt := ldA 0 (ldI 1 (cS 1 wX8_isCable 0 0 0 0 (ifz (fun x => x = 0) (nx 35) (ldI 2 (cS 1 wX8_isPort 0 0 0 0 (ifz (fun x => x = 0) (nx 35) (ldI 3 (cS 1 wX8_isPort 0 0 0 0 (ifz (fun x => x = 0) (nx 35) (ldI 4 (cI 1 (ifc (fun x y => x < y) (nx 35) (ldI 4 (cI 8 (ifc (fun x y => x ≤ y) (nx 39) (nx 35))))))))))))))))
noncomputable def bX8_plug_35 (Q : Option Value → MM → Prop) (nx : Nat → Kt) : Kt := cI 1 (nx 65)
noncomputable def bX8_plug_39 (Q : Option Value → MM → Prop) (nx : Nat → Kt) : Kt := ldA 0 (ldI 2 (ldI 1 (cV 2 8 wX8_isAnother 0 0 0 0 (ifz (fun x => x = 0) (ldA 0 (cI 8 (ldI 3 (bop (fun x y => x + y) (ldI 1 (cV 2 8 wX8_isAnother 0 0 0 0 (ifz (fun x => x = 0) (nx 64) (nx 60)))))))) (nx 60)))))
noncomputable def bX8_plug_60 (Q : Option Value → MM → Prop) (nx : Nat → Kt) : Kt := cI 2 (nx 65)
noncomputable def bX8_plug_64 (Q : Option Value → MM → Prop) (nx : Nat → Kt) : Kt := cI 0 (nx 65)
noncomputable def bX8_plug_65 (Q : Option Value → MM → Prop) (nx : Nat → Kt) : Kt := tI 8 0 (ldA 0 (gI 8 0 (ifz (fun x => x ≤ 0) (nx 76) (rV Q))))
noncomputable def bX8_plug_76 (Q : Option Value → MM → Prop) (nx : Nat → Kt) : Kt := ldA 0 (gR 8 24 (ldI 1 (aI 11 (ifz (fun x => x = 0) (nx 90) (ldA 0 (ldI 1 (cV 1 8 wX8_isPulled 0 0 0 0 (nx 90))))))))
noncomputable def bX8_plug_90 (Q : Option Value → MM → Prop) (nx : Nat → Kt) : Kt := ldA 0 (gR 8 24 (ldI 1 (cI 1 (sAZ (ldA 0 (gR 8 22 (cI 2 (ldI 1 (bop (fun x y => x * y) (ldI 2 (sAI (ldA 0 (gR 8 22 (cI 2 (ldI 1 (bop (fun x y => x * y) (cI 1 (bop (fun x y => x + y) (ldI 3 (sAI (ldA 0 (gR 8 23 (ldI 1 (ldI 4 (sAI (ldA 0 (gR 8 11 (ldI 2 (ldI 1 (sAI (ldA 0 (gR 8 11 (cI 8 (ldI 3 (bop (fun x y => x + y) (ldI 1 (sAI (ldA 0 (ldI 1 (cV 1 8 wX8_isUp 0 0 0 0 (ldA 0 (cV 0 8 wX8_isNotQuiet 0 0 0 0 (rV Q)))))))))))))))))))))))))))))))))))))))))))
noncomputable def kX8_plug (Q : Option Value → MM → Prop) (nx : Nat → Kt) : Nat → Kt := bse [(0, bX8_plug_0 Q nx), (35, bX8_plug_35 Q nx), (39, bX8_plug_39 Q nx), (60, bX8_plug_60 Q nx), (64, bX8_plug_64 Q nx), (65, bX8_plug_65 Q nx), (76, bX8_plug_76 Q nx), (90, bX8_plug_90 Q nx)]
abbrev rX8_plug : Room := { frames := 4, cells := 0, slots := 0, locals := 88 }
noncomputable def wX8_plug : Mw := mw 5 kX8_plug
set_option maxRecDepth 20000 in
theorem oX8_plug_0 {T : Ct} {Q : Option Value → MM → Prop} (C : Cx T cX8_plug 5 RX8 0 0) (CR : CxR T 4 88) (hr : T.2.2.2.2.2.2.2.2.1.sig.returnType = none) (hnm : T.2.2.2.2.2.2.2.2.1.name = "plug") {nx : Nat → Kt} (hn : ∀ pc, Sd T 5 (QT T Q 0 0) 0 0 pc (nx pc)) : Sd T 5 (QT T Q 0 0) 0 0 0 (bX8_plug_0 Q nx) := x_al_n C dX8_plug_0 rfl (x_il_n C dX8_plug_1 rfl (x_cS C CR mX8_isCable ⟨co_X8_isCable, init_X8, md_X8_isCable, by decide, by decide⟩ ml_X8_191 sm_X8_isCable dX8_plug_2 (x_if_eq C (hn 35) dX8_plug_5 (by decide) (x_il_n C dX8_plug_8 rfl (x_cS C CR mX8_isPort ⟨co_X8_isPort, init_X8, md_X8_isPort, by decide, by decide⟩ ml_X8_162 sm_X8_isPort dX8_plug_9 (x_if_eq C (hn 35) dX8_plug_12 (by decide) (x_il_n C dX8_plug_15 rfl (x_cS C CR mX8_isPort ⟨co_X8_isPort, init_X8, md_X8_isPort, by decide, by decide⟩ ml_X8_162 sm_X8_isPort dX8_plug_16 (x_if_eq C (hn 35) dX8_plug_19 (by decide) (x_il C dX8_plug_22 (x_ic C dX8_plug_24 (by decide) (x_ic_lt C (hn 35) dX8_plug_25 (by decide) (x_il C dX8_plug_28 (x_bp C dX8_plug_30 (by decide) (x_ic_le C (hn 39) dX8_plug_32 (by decide) (hn 35))))))))))))))))
set_option maxRecDepth 20000 in
theorem oX8_plug_35 {T : Ct} {Q : Option Value → MM → Prop} (C : Cx T cX8_plug 5 RX8 0 0) (CR : CxR T 4 88) (hr : T.2.2.2.2.2.2.2.2.1.sig.returnType = none) (hnm : T.2.2.2.2.2.2.2.2.1.name = "plug") {nx : Nat → Kt} (hn : ∀ pc, Sd T 5 (QT T Q 0 0) 0 0 pc (nx pc)) : Sd T 5 (QT T Q 0 0) 0 0 35 (bX8_plug_35 Q nx) := x_ic C dX8_plug_35 (by decide) (x_goto C (hn 65) dX8_plug_36 (by decide))
set_option maxRecDepth 20000 in
theorem oX8_plug_39 {T : Ct} {Q : Option Value → MM → Prop} (C : Cx T cX8_plug 5 RX8 0 0) (CR : CxR T 4 88) (hr : T.2.2.2.2.2.2.2.2.1.sig.returnType = none) (hnm : T.2.2.2.2.2.2.2.2.1.name = "plug") {nx : Nat → Kt} (hn : ∀ pc, Sd T 5 (QT T Q 0 0) 0 0 pc (nx pc)) : Sd T 5 (QT T Q 0 0) 0 0 39 (bX8_plug_39 Q nx) := x_al_n C dX8_plug_39 rfl (x_il_n C dX8_plug_40 rfl (x_il_n C dX8_plug_41 rfl (x_cV C CR mX8_isAnother ⟨co_X8_isAnother, init_X8, md_X8_isAnother, by decide, by decide⟩ (ci := 8) (TX := TX8) (N := 51) rfl (by decide) ml_X8_194 im_X8_isAnother se_X8_isAnother dX8_plug_42 (x_if_ne C (hn 60) dX8_plug_45 (by decide) (x_al_n C dX8_plug_48 rfl (x_bp C dX8_plug_49 (by decide) (x_il_n C dX8_plug_51 rfl (x_iadd C dX8_plug_52 (x_il_n C dX8_plug_53 rfl (x_cV C CR mX8_isAnother ⟨co_X8_isAnother, init_X8, md_X8_isAnother, by decide, by decide⟩ (ci := 8) (TX := TX8) (N := 51) rfl (by decide) ml_X8_194 im_X8_isAnother se_X8_isAnother dX8_plug_54 (x_if_eq C (hn 64) dX8_plug_57 (by decide) (hn 60))))))))))))
set_option maxRecDepth 20000 in
theorem oX8_plug_60 {T : Ct} {Q : Option Value → MM → Prop} (C : Cx T cX8_plug 5 RX8 0 0) (CR : CxR T 4 88) (hr : T.2.2.2.2.2.2.2.2.1.sig.returnType = none) (hnm : T.2.2.2.2.2.2.2.2.1.name = "plug") {nx : Nat → Kt} (hn : ∀ pc, Sd T 5 (QT T Q 0 0) 0 0 pc (nx pc)) : Sd T 5 (QT T Q 0 0) 0 0 60 (bX8_plug_60 Q nx) := x_ic C dX8_plug_60 (by decide) (x_goto C (hn 65) dX8_plug_61 (by decide))
set_option maxRecDepth 20000 in
theorem oX8_plug_64 {T : Ct} {Q : Option Value → MM → Prop} (C : Cx T cX8_plug 5 RX8 0 0) (CR : CxR T 4 88) (hr : T.2.2.2.2.2.2.2.2.1.sig.returnType = none) (hnm : T.2.2.2.2.2.2.2.2.1.name = "plug") {nx : Nat → Kt} (hn : ∀ pc, Sd T 5 (QT T Q 0 0) 0 0 pc (nx pc)) : Sd T 5 (QT T Q 0 0) 0 0 64 (bX8_plug_64 Q nx) := x_ic C dX8_plug_64 (by decide) (hn 65)
set_option maxRecDepth 20000 in
theorem oX8_plug_65 {T : Ct} {Q : Option Value → MM → Prop} (C : Cx T cX8_plug 5 RX8 0 0) (CR : CxR T 4 88) (hr : T.2.2.2.2.2.2.2.2.1.sig.returnType = none) (hnm : T.2.2.2.2.2.2.2.2.1.name = "plug") {nx : Nat → Kt} (hn : ∀ pc, Sd T 5 (QT T Q 0 0) 0 0 pc (nx pc)) : Sd T 5 (QT T Q 0 0) 0 0 65 (bX8_plug_65 Q nx) := pf_X8_132 C dX8_plug_65 (x_al_n C dX8_plug_68 rfl (gf_X8_132 C dX8_plug_69 (x_if_le C (hn 76) dX8_plug_72 (by decide) (x_rV C hr dX8_plug_75))))
set_option maxRecDepth 20000 in
theorem oX8_plug_76 {T : Ct} {Q : Option Value → MM → Prop} (C : Cx T cX8_plug 5 RX8 0 0) (CR : CxR T 4 88) (hr : T.2.2.2.2.2.2.2.2.1.sig.returnType = none) (hnm : T.2.2.2.2.2.2.2.2.1.name = "plug") {nx : Nat → Kt} (hn : ∀ pc, Sd T 5 (QT T Q 0 0) 0 0 pc (nx pc)) : Sd T 5 (QT T Q 0 0) 0 0 76 (bX8_plug_76 Q nx) := x_al_n C dX8_plug_76 rfl (gf_X8_80 C dX8_plug_77 (x_il_n C dX8_plug_80 rfl (x_zald C dX8_plug_81 (x_if_eq C (hn 90) dX8_plug_82 (by decide) (x_al_n C dX8_plug_85 rfl (x_il_n C dX8_plug_86 rfl (x_cV C CR mX8_isPulled ⟨co_X8_isPulled, init_X8, md_X8_isPulled, by decide, by decide⟩ (ci := 8) (TX := TX8) (N := 51) rfl (by decide) ml_X8_198 im_X8_isPulled se_X8_isPulled dX8_plug_87 (hn 90))))))))
set_option maxRecDepth 20000 in
theorem oX8_plug_90 {T : Ct} {Q : Option Value → MM → Prop} (C : Cx T cX8_plug 5 RX8 0 0) (CR : CxR T 4 88) (hr : T.2.2.2.2.2.2.2.2.1.sig.returnType = none) (hnm : T.2.2.2.2.2.2.2.2.1.name = "plug") {nx : Nat → Kt} (hn : ∀ pc, Sd T 5 (QT T Q 0 0) 0 0 pc (nx pc)) : Sd T 5 (QT T Q 0 0) 0 0 90 (bX8_plug_90 Q nx) := x_al_n C dX8_plug_90 rfl (gf_X8_80 C dX8_plug_91 (x_il_n C dX8_plug_94 rfl (x_ic C dX8_plug_95 (by decide) (x_zast C dX8_plug_96 (x_al_n C dX8_plug_97 rfl (gf_X8_74 C dX8_plug_98 (x_ic C dX8_plug_101 (by decide) (x_il_n C dX8_plug_102 rfl (x_imul C dX8_plug_103 (x_il_n C dX8_plug_104 rfl (x_iast C dX8_plug_105 (x_al_n C dX8_plug_106 rfl (gf_X8_74 C dX8_plug_107 (x_ic C dX8_plug_110 (by decide) (x_il_n C dX8_plug_111 rfl (x_imul C dX8_plug_112 (x_ic C dX8_plug_113 (by decide) (x_iadd C dX8_plug_114 (x_il_n C dX8_plug_115 rfl (x_iast C dX8_plug_116 (x_al_n C dX8_plug_117 rfl (gf_X8_77 C dX8_plug_118 (x_il_n C dX8_plug_121 rfl (x_il C dX8_plug_122 (x_iast C dX8_plug_124 (x_al_n C dX8_plug_125 rfl (gf_X8_41 C dX8_plug_126 (x_il_n C dX8_plug_129 rfl (x_il_n C dX8_plug_130 rfl (x_iast C dX8_plug_131 (x_al_n C dX8_plug_132 rfl (gf_X8_41 C dX8_plug_133 (x_bp C dX8_plug_136 (by decide) (x_il_n C dX8_plug_138 rfl (x_iadd C dX8_plug_139 (x_il_n C dX8_plug_140 rfl (x_iast C dX8_plug_141 (x_al_n C dX8_plug_142 rfl (x_il_n C dX8_plug_143 rfl (x_cV C CR mX8_isUp ⟨co_X8_isUp, init_X8, md_X8_isUp, by decide, by decide⟩ (ci := 8) (TX := TX8) (N := 51) rfl (by decide) ml_X8_201 im_X8_isUp se_X8_isUp dX8_plug_144 (x_al_n C dX8_plug_147 rfl (x_cV C CR mX8_isNotQuiet ⟨co_X8_isNotQuiet, init_X8, md_X8_isNotQuiet, by decide, by decide⟩ (ci := 8) (TX := TX8) (N := 51) rfl (by decide) ml_X8_159 im_X8_isNotQuiet se_X8_isNotQuiet dX8_plug_148 (x_rV C hr dX8_plug_151)))))))))))))))))))))))))))))))))))))))))))
set_option maxRecDepth 20000 in
theorem mX8_plug (l : Launch) (D : va_G) (cA : Nat → ClassId) (base : Nat) : Mc l D cA base yX8_plug cX8_plug 5 none rX8_plug wX8_plug := mc_of (by decide +kernel) kX8_plug (fun T Q C CR hr hnm nx hn => bse_ok _ (List.forall_mem_cons.mpr ⟨oX8_plug_0 C CR hr hnm hn, List.forall_mem_cons.mpr ⟨oX8_plug_35 C CR hr hnm hn, List.forall_mem_cons.mpr ⟨oX8_plug_39 C CR hr hnm hn, List.forall_mem_cons.mpr ⟨oX8_plug_60 C CR hr hnm hn, List.forall_mem_cons.mpr ⟨oX8_plug_64 C CR hr hnm hn, List.forall_mem_cons.mpr ⟨oX8_plug_65 C CR hr hnm hn, List.forall_mem_cons.mpr ⟨oX8_plug_76 C CR hr hnm hn, List.forall_mem_cons.mpr ⟨oX8_plug_90 C CR hr hnm hn, fun _ h => nomatch h⟩⟩⟩⟩⟩⟩⟩⟩))
theorem dX8_pull_0 : decode cX8_pull 0 = .ok (.aload_n 0, 1) := by decide +kernel
theorem dX8_pull_1 : decode cX8_pull 1 = .ok (.iload_n 1, 1) := by decide +kernel
theorem dX8_pull_2 : decode cX8_pull 2 = .ok (.invokestatic 191, 3) := by decide +kernel
theorem dX8_pull_5 : decode cX8_pull 5 = .ok (.ifCond .ne 7, 3) := by decide +kernel
theorem dX8_pull_8 : decode cX8_pull 8 = .ok (.iconst 1, 1) := by decide +kernel
theorem dX8_pull_9 : decode cX8_pull 9 = .ok (.goto 17, 3) := by decide +kernel
theorem dX8_pull_12 : decode cX8_pull 12 = .ok (.aload_n 0, 1) := by decide +kernel
theorem dX8_pull_13 : decode cX8_pull 13 = .ok (.getfield 80, 3) := by decide +kernel
theorem dX8_pull_16 : decode cX8_pull 16 = .ok (.iload_n 1, 1) := by decide +kernel
theorem dX8_pull_17 : decode cX8_pull 17 = .ok (.baload, 1) := by decide +kernel
theorem dX8_pull_18 : decode cX8_pull 18 = .ok (.ifCond .ne 7, 3) := by decide +kernel
theorem dX8_pull_21 : decode cX8_pull 21 = .ok (.iconst 2, 1) := by decide +kernel
theorem dX8_pull_22 : decode cX8_pull 22 = .ok (.goto 4, 3) := by decide +kernel
theorem dX8_pull_25 : decode cX8_pull 25 = .ok (.iconst 0, 1) := by decide +kernel
theorem dX8_pull_26 : decode cX8_pull 26 = .ok (.putfield 132, 3) := by decide +kernel
theorem dX8_pull_29 : decode cX8_pull 29 = .ok (.aload_n 0, 1) := by decide +kernel
theorem dX8_pull_30 : decode cX8_pull 30 = .ok (.getfield 132, 3) := by decide +kernel
theorem dX8_pull_33 : decode cX8_pull 33 = .ok (.ifCond .le 4, 3) := by decide +kernel
theorem dX8_pull_36 : decode cX8_pull 36 = .ok (.return_, 1) := by decide +kernel
theorem dX8_pull_37 : decode cX8_pull 37 = .ok (.aload_n 0, 1) := by decide +kernel
theorem dX8_pull_38 : decode cX8_pull 38 = .ok (.iload_n 1, 1) := by decide +kernel
theorem dX8_pull_39 : decode cX8_pull 39 = .ok (.invokevirtual 198, 3) := by decide +kernel
theorem dX8_pull_42 : decode cX8_pull 42 = .ok (.aload_n 0, 1) := by decide +kernel
theorem dX8_pull_43 : decode cX8_pull 43 = .ok (.invokevirtual 159, 3) := by decide +kernel
theorem dX8_pull_46 : decode cX8_pull 46 = .ok (.return_, 1) := by decide +kernel
noncomputable def bX8_pull_0 (Q : Option Value → MM → Prop) (nx : Nat → Kt) : Kt := ldA 0 (ldI 1 (cS 1 wX8_isCable 0 0 0 0 (ifz (fun x => x = 0) (cI 1 (nx 26)) (nx 12))))
noncomputable def bX8_pull_12 (Q : Option Value → MM → Prop) (nx : Nat → Kt) : Kt := ldA 0 (gR 8 24 (ldI 1 (aI 11 (ifz (fun x => x = 0) (cI 2 (nx 26)) (nx 25)))))
noncomputable def bX8_pull_25 (Q : Option Value → MM → Prop) (nx : Nat → Kt) : Kt := cI 0 (nx 26)
noncomputable def bX8_pull_26 (Q : Option Value → MM → Prop) (nx : Nat → Kt) : Kt := tI 8 0 (ldA 0 (gI 8 0 (ifz (fun x => x ≤ 0) (nx 37) (rV Q))))
noncomputable def bX8_pull_37 (Q : Option Value → MM → Prop) (nx : Nat → Kt) : Kt := ldA 0 (ldI 1 (cV 1 8 wX8_isPulled 0 0 0 0 (ldA 0 (cV 0 8 wX8_isNotQuiet 0 0 0 0 (rV Q)))))
noncomputable def kX8_pull (Q : Option Value → MM → Prop) (nx : Nat → Kt) : Nat → Kt := bse [(0, bX8_pull_0 Q nx), (12, bX8_pull_12 Q nx), (25, bX8_pull_25 Q nx), (26, bX8_pull_26 Q nx), (37, bX8_pull_37 Q nx)]
abbrev rX8_pull : Room := { frames := 4, cells := 0, slots := 0, locals := 88 }
noncomputable def wX8_pull : Mw := mw 2 kX8_pull
set_option maxRecDepth 20000 in
theorem oX8_pull_0 {T : Ct} {Q : Option Value → MM → Prop} (C : Cx T cX8_pull 2 RX8 0 0) (CR : CxR T 4 88) (hr : T.2.2.2.2.2.2.2.2.1.sig.returnType = none) (hnm : T.2.2.2.2.2.2.2.2.1.name = "pull") {nx : Nat → Kt} (hn : ∀ pc, Sd T 2 (QT T Q 0 0) 0 0 pc (nx pc)) : Sd T 2 (QT T Q 0 0) 0 0 0 (bX8_pull_0 Q nx) := x_al_n C dX8_pull_0 rfl (x_il_n C dX8_pull_1 rfl (x_cS C CR mX8_isCable ⟨co_X8_isCable, init_X8, md_X8_isCable, by decide, by decide⟩ ml_X8_191 sm_X8_isCable dX8_pull_2 (x_if_ne C (hn 12) dX8_pull_5 (by decide) (x_ic C dX8_pull_8 (by decide) (x_goto C (hn 26) dX8_pull_9 (by decide))))))
set_option maxRecDepth 20000 in
theorem oX8_pull_12 {T : Ct} {Q : Option Value → MM → Prop} (C : Cx T cX8_pull 2 RX8 0 0) (CR : CxR T 4 88) (hr : T.2.2.2.2.2.2.2.2.1.sig.returnType = none) (hnm : T.2.2.2.2.2.2.2.2.1.name = "pull") {nx : Nat → Kt} (hn : ∀ pc, Sd T 2 (QT T Q 0 0) 0 0 pc (nx pc)) : Sd T 2 (QT T Q 0 0) 0 0 12 (bX8_pull_12 Q nx) := x_al_n C dX8_pull_12 rfl (gf_X8_80 C dX8_pull_13 (x_il_n C dX8_pull_16 rfl (x_zald C dX8_pull_17 (x_if_ne C (hn 25) dX8_pull_18 (by decide) (x_ic C dX8_pull_21 (by decide) (x_goto C (hn 26) dX8_pull_22 (by decide)))))))
set_option maxRecDepth 20000 in
theorem oX8_pull_25 {T : Ct} {Q : Option Value → MM → Prop} (C : Cx T cX8_pull 2 RX8 0 0) (CR : CxR T 4 88) (hr : T.2.2.2.2.2.2.2.2.1.sig.returnType = none) (hnm : T.2.2.2.2.2.2.2.2.1.name = "pull") {nx : Nat → Kt} (hn : ∀ pc, Sd T 2 (QT T Q 0 0) 0 0 pc (nx pc)) : Sd T 2 (QT T Q 0 0) 0 0 25 (bX8_pull_25 Q nx) := x_ic C dX8_pull_25 (by decide) (hn 26)
set_option maxRecDepth 20000 in
theorem oX8_pull_26 {T : Ct} {Q : Option Value → MM → Prop} (C : Cx T cX8_pull 2 RX8 0 0) (CR : CxR T 4 88) (hr : T.2.2.2.2.2.2.2.2.1.sig.returnType = none) (hnm : T.2.2.2.2.2.2.2.2.1.name = "pull") {nx : Nat → Kt} (hn : ∀ pc, Sd T 2 (QT T Q 0 0) 0 0 pc (nx pc)) : Sd T 2 (QT T Q 0 0) 0 0 26 (bX8_pull_26 Q nx) := pf_X8_132 C dX8_pull_26 (x_al_n C dX8_pull_29 rfl (gf_X8_132 C dX8_pull_30 (x_if_le C (hn 37) dX8_pull_33 (by decide) (x_rV C hr dX8_pull_36))))
set_option maxRecDepth 20000 in
theorem oX8_pull_37 {T : Ct} {Q : Option Value → MM → Prop} (C : Cx T cX8_pull 2 RX8 0 0) (CR : CxR T 4 88) (hr : T.2.2.2.2.2.2.2.2.1.sig.returnType = none) (hnm : T.2.2.2.2.2.2.2.2.1.name = "pull") {nx : Nat → Kt} (hn : ∀ pc, Sd T 2 (QT T Q 0 0) 0 0 pc (nx pc)) : Sd T 2 (QT T Q 0 0) 0 0 37 (bX8_pull_37 Q nx) := x_al_n C dX8_pull_37 rfl (x_il_n C dX8_pull_38 rfl (x_cV C CR mX8_isPulled ⟨co_X8_isPulled, init_X8, md_X8_isPulled, by decide, by decide⟩ (ci := 8) (TX := TX8) (N := 51) rfl (by decide) ml_X8_198 im_X8_isPulled se_X8_isPulled dX8_pull_39 (x_al_n C dX8_pull_42 rfl (x_cV C CR mX8_isNotQuiet ⟨co_X8_isNotQuiet, init_X8, md_X8_isNotQuiet, by decide, by decide⟩ (ci := 8) (TX := TX8) (N := 51) rfl (by decide) ml_X8_159 im_X8_isNotQuiet se_X8_isNotQuiet dX8_pull_43 (x_rV C hr dX8_pull_46)))))
set_option maxRecDepth 20000 in
theorem mX8_pull (l : Launch) (D : va_G) (cA : Nat → ClassId) (base : Nat) : Mc l D cA base yX8_pull cX8_pull 2 none rX8_pull wX8_pull := mc_of (by decide +kernel) kX8_pull (fun T Q C CR hr hnm nx hn => bse_ok _ (List.forall_mem_cons.mpr ⟨oX8_pull_0 C CR hr hnm hn, List.forall_mem_cons.mpr ⟨oX8_pull_12 C CR hr hnm hn, List.forall_mem_cons.mpr ⟨oX8_pull_25 C CR hr hnm hn, List.forall_mem_cons.mpr ⟨oX8_pull_26 C CR hr hnm hn, List.forall_mem_cons.mpr ⟨oX8_pull_37 C CR hr hnm hn, fun _ h => nomatch h⟩⟩⟩⟩⟩))
theorem dX8_light_0 : decode cX8_light 0 = .ok (.aload_n 0, 1) := by decide +kernel
theorem dX8_light_1 : decode cX8_light 1 = .ok (.iload_n 1, 1) := by decide +kernel
theorem dX8_light_2 : decode cX8_light 2 = .ok (.invokestatic 191, 3) := by decide +kernel
theorem dX8_light_5 : decode cX8_light 5 = .ok (.ifCond .ne 7, 3) := by decide +kernel
theorem dX8_light_8 : decode cX8_light 8 = .ok (.iconst 1, 1) := by decide +kernel
theorem dX8_light_9 : decode cX8_light 9 = .ok (.goto 27, 3) := by decide +kernel
theorem dX8_light_12 : decode cX8_light 12 = .ok (.aload_n 0, 1) := by decide +kernel
theorem dX8_light_13 : decode cX8_light 13 = .ok (.getfield 80, 3) := by decide +kernel
theorem dX8_light_16 : decode cX8_light 16 = .ok (.iload_n 1, 1) := by decide +kernel
theorem dX8_light_17 : decode cX8_light 17 = .ok (.baload, 1) := by decide +kernel
theorem dX8_light_18 : decode cX8_light 18 = .ok (.ifCond .eq 13, 3) := by decide +kernel
theorem dX8_light_21 : decode cX8_light 21 = .ok (.aload_n 0, 1) := by decide +kernel
theorem dX8_light_22 : decode cX8_light 22 = .ok (.getfield 83, 3) := by decide +kernel
theorem dX8_light_25 : decode cX8_light 25 = .ok (.iload_n 1, 1) := by decide +kernel
theorem dX8_light_26 : decode cX8_light 26 = .ok (.baload, 1) := by decide +kernel
theorem dX8_light_27 : decode cX8_light 27 = .ok (.iload_n 2, 1) := by decide +kernel
theorem dX8_light_28 : decode cX8_light 28 = .ok (.if_icmp .ne 7, 3) := by decide +kernel
theorem dX8_light_31 : decode cX8_light 31 = .ok (.iconst 2, 1) := by decide +kernel
theorem dX8_light_32 : decode cX8_light 32 = .ok (.goto 4, 3) := by decide +kernel
theorem dX8_light_35 : decode cX8_light 35 = .ok (.iconst 0, 1) := by decide +kernel
theorem dX8_light_36 : decode cX8_light 36 = .ok (.putfield 132, 3) := by decide +kernel
theorem dX8_light_39 : decode cX8_light 39 = .ok (.aload_n 0, 1) := by decide +kernel
theorem dX8_light_40 : decode cX8_light 40 = .ok (.getfield 132, 3) := by decide +kernel
theorem dX8_light_43 : decode cX8_light 43 = .ok (.ifCond .le 4, 3) := by decide +kernel
theorem dX8_light_46 : decode cX8_light 46 = .ok (.return_, 1) := by decide +kernel
theorem dX8_light_47 : decode cX8_light 47 = .ok (.iload_n 2, 1) := by decide +kernel
theorem dX8_light_48 : decode cX8_light 48 = .ok (.ifCond .eq 11, 3) := by decide +kernel
theorem dX8_light_51 : decode cX8_light 51 = .ok (.aload_n 0, 1) := by decide +kernel
theorem dX8_light_52 : decode cX8_light 52 = .ok (.iload_n 1, 1) := by decide +kernel
theorem dX8_light_53 : decode cX8_light 53 = .ok (.invokevirtual 201, 3) := by decide +kernel
theorem dX8_light_56 : decode cX8_light 56 = .ok (.goto 8, 3) := by decide +kernel
theorem dX8_light_59 : decode cX8_light 59 = .ok (.aload_n 0, 1) := by decide +kernel
theorem dX8_light_60 : decode cX8_light 60 = .ok (.iload_n 1, 1) := by decide +kernel
theorem dX8_light_61 : decode cX8_light 61 = .ok (.invokevirtual 188, 3) := by decide +kernel
theorem dX8_light_64 : decode cX8_light 64 = .ok (.aload_n 0, 1) := by decide +kernel
theorem dX8_light_65 : decode cX8_light 65 = .ok (.invokevirtual 159, 3) := by decide +kernel
theorem dX8_light_68 : decode cX8_light 68 = .ok (.return_, 1) := by decide +kernel
noncomputable def bX8_light_0 (Q : Option Value → MM → Prop) (nx : Nat → Kt) : Kt := ldA 0 (ldI 1 (cS 1 wX8_isCable 0 0 0 0 (ifz (fun x => x = 0) (cI 1 (nx 36)) (nx 12))))
noncomputable def bX8_light_12 (Q : Option Value → MM → Prop) (nx : Nat → Kt) : Kt := ldA 0 (gR 8 24 (ldI 1 (aI 11 (ifz (fun x => x = 0) (nx 31) (ldA 0 (gR 8 25 (ldI 1 (aI 11 (ldI 2 (ifc (fun x y => x = y) (nx 31) (nx 35)))))))))))
noncomputable def bX8_light_31 (Q : Option Value → MM → Prop) (nx : Nat → Kt) : Kt := cI 2 (nx 36)
noncomputable def bX8_light_35 (Q : Option Value → MM → Prop) (nx : Nat → Kt) : Kt := cI 0 (nx 36)
noncomputable def bX8_light_36 (Q : Option Value → MM → Prop) (nx : Nat → Kt) : Kt := tI 8 0 (ldA 0 (gI 8 0 (ifz (fun x => x ≤ 0) (nx 47) (rV Q))))
noncomputable def bX8_light_47 (Q : Option Value → MM → Prop) (nx : Nat → Kt) : Kt := ldI 2 (ifz (fun x => x = 0) (nx 59) (ldA 0 (ldI 1 (cV 1 8 wX8_isUp 0 0 0 0 (nx 64)))))
noncomputable def bX8_light_59 (Q : Option Value → MM → Prop) (nx : Nat → Kt) : Kt := ldA 0 (ldI 1 (cV 1 8 wX8_isCut 0 0 0 0 (nx 64)))
noncomputable def bX8_light_64 (Q : Option Value → MM → Prop) (nx : Nat → Kt) : Kt := ldA 0 (cV 0 8 wX8_isNotQuiet 0 0 0 0 (rV Q))
noncomputable def kX8_light (Q : Option Value → MM → Prop) (nx : Nat → Kt) : Nat → Kt := bse [(0, bX8_light_0 Q nx), (12, bX8_light_12 Q nx), (31, bX8_light_31 Q nx), (35, bX8_light_35 Q nx), (36, bX8_light_36 Q nx), (47, bX8_light_47 Q nx), (59, bX8_light_59 Q nx), (64, bX8_light_64 Q nx)]
abbrev rX8_light : Room := { frames := 3, cells := 0, slots := 0, locals := 67 }
noncomputable def wX8_light : Mw := mw 3 kX8_light
set_option maxRecDepth 20000 in
theorem oX8_light_0 {T : Ct} {Q : Option Value → MM → Prop} (C : Cx T cX8_light 3 RX8 0 0) (CR : CxR T 3 67) (hr : T.2.2.2.2.2.2.2.2.1.sig.returnType = none) (hnm : T.2.2.2.2.2.2.2.2.1.name = "light") {nx : Nat → Kt} (hn : ∀ pc, Sd T 3 (QT T Q 0 0) 0 0 pc (nx pc)) : Sd T 3 (QT T Q 0 0) 0 0 0 (bX8_light_0 Q nx) := x_al_n C dX8_light_0 rfl (x_il_n C dX8_light_1 rfl (x_cS C CR mX8_isCable ⟨co_X8_isCable, init_X8, md_X8_isCable, by decide, by decide⟩ ml_X8_191 sm_X8_isCable dX8_light_2 (x_if_ne C (hn 12) dX8_light_5 (by decide) (x_ic C dX8_light_8 (by decide) (x_goto C (hn 36) dX8_light_9 (by decide))))))
set_option maxRecDepth 20000 in
theorem oX8_light_12 {T : Ct} {Q : Option Value → MM → Prop} (C : Cx T cX8_light 3 RX8 0 0) (CR : CxR T 3 67) (hr : T.2.2.2.2.2.2.2.2.1.sig.returnType = none) (hnm : T.2.2.2.2.2.2.2.2.1.name = "light") {nx : Nat → Kt} (hn : ∀ pc, Sd T 3 (QT T Q 0 0) 0 0 pc (nx pc)) : Sd T 3 (QT T Q 0 0) 0 0 12 (bX8_light_12 Q nx) := x_al_n C dX8_light_12 rfl (gf_X8_80 C dX8_light_13 (x_il_n C dX8_light_16 rfl (x_zald C dX8_light_17 (x_if_eq C (hn 31) dX8_light_18 (by decide) (x_al_n C dX8_light_21 rfl (gf_X8_83 C dX8_light_22 (x_il_n C dX8_light_25 rfl (x_zald C dX8_light_26 (x_il_n C dX8_light_27 rfl (x_ic_ne C (hn 35) dX8_light_28 (by decide) (hn 31)))))))))))
set_option maxRecDepth 20000 in
theorem oX8_light_31 {T : Ct} {Q : Option Value → MM → Prop} (C : Cx T cX8_light 3 RX8 0 0) (CR : CxR T 3 67) (hr : T.2.2.2.2.2.2.2.2.1.sig.returnType = none) (hnm : T.2.2.2.2.2.2.2.2.1.name = "light") {nx : Nat → Kt} (hn : ∀ pc, Sd T 3 (QT T Q 0 0) 0 0 pc (nx pc)) : Sd T 3 (QT T Q 0 0) 0 0 31 (bX8_light_31 Q nx) := x_ic C dX8_light_31 (by decide) (x_goto C (hn 36) dX8_light_32 (by decide))
set_option maxRecDepth 20000 in
theorem oX8_light_35 {T : Ct} {Q : Option Value → MM → Prop} (C : Cx T cX8_light 3 RX8 0 0) (CR : CxR T 3 67) (hr : T.2.2.2.2.2.2.2.2.1.sig.returnType = none) (hnm : T.2.2.2.2.2.2.2.2.1.name = "light") {nx : Nat → Kt} (hn : ∀ pc, Sd T 3 (QT T Q 0 0) 0 0 pc (nx pc)) : Sd T 3 (QT T Q 0 0) 0 0 35 (bX8_light_35 Q nx) := x_ic C dX8_light_35 (by decide) (hn 36)
set_option maxRecDepth 20000 in
theorem oX8_light_36 {T : Ct} {Q : Option Value → MM → Prop} (C : Cx T cX8_light 3 RX8 0 0) (CR : CxR T 3 67) (hr : T.2.2.2.2.2.2.2.2.1.sig.returnType = none) (hnm : T.2.2.2.2.2.2.2.2.1.name = "light") {nx : Nat → Kt} (hn : ∀ pc, Sd T 3 (QT T Q 0 0) 0 0 pc (nx pc)) : Sd T 3 (QT T Q 0 0) 0 0 36 (bX8_light_36 Q nx) := pf_X8_132 C dX8_light_36 (x_al_n C dX8_light_39 rfl (gf_X8_132 C dX8_light_40 (x_if_le C (hn 47) dX8_light_43 (by decide) (x_rV C hr dX8_light_46))))
set_option maxRecDepth 20000 in
theorem oX8_light_47 {T : Ct} {Q : Option Value → MM → Prop} (C : Cx T cX8_light 3 RX8 0 0) (CR : CxR T 3 67) (hr : T.2.2.2.2.2.2.2.2.1.sig.returnType = none) (hnm : T.2.2.2.2.2.2.2.2.1.name = "light") {nx : Nat → Kt} (hn : ∀ pc, Sd T 3 (QT T Q 0 0) 0 0 pc (nx pc)) : Sd T 3 (QT T Q 0 0) 0 0 47 (bX8_light_47 Q nx) := x_il_n C dX8_light_47 rfl (x_if_eq C (hn 59) dX8_light_48 (by decide) (x_al_n C dX8_light_51 rfl (x_il_n C dX8_light_52 rfl (x_cV C CR mX8_isUp ⟨co_X8_isUp, init_X8, md_X8_isUp, by decide, by decide⟩ (ci := 8) (TX := TX8) (N := 51) rfl (by decide) ml_X8_201 im_X8_isUp se_X8_isUp dX8_light_53 (x_goto C (hn 64) dX8_light_56 (by decide))))))
set_option maxRecDepth 20000 in
theorem oX8_light_59 {T : Ct} {Q : Option Value → MM → Prop} (C : Cx T cX8_light 3 RX8 0 0) (CR : CxR T 3 67) (hr : T.2.2.2.2.2.2.2.2.1.sig.returnType = none) (hnm : T.2.2.2.2.2.2.2.2.1.name = "light") {nx : Nat → Kt} (hn : ∀ pc, Sd T 3 (QT T Q 0 0) 0 0 pc (nx pc)) : Sd T 3 (QT T Q 0 0) 0 0 59 (bX8_light_59 Q nx) := x_al_n C dX8_light_59 rfl (x_il_n C dX8_light_60 rfl (x_cV C CR mX8_isCut ⟨co_X8_isCut, init_X8, md_X8_isCut, by decide, by decide⟩ (ci := 8) (TX := TX8) (N := 51) rfl (by decide) ml_X8_188 im_X8_isCut se_X8_isCut dX8_light_61 (hn 64)))
set_option maxRecDepth 20000 in
theorem oX8_light_64 {T : Ct} {Q : Option Value → MM → Prop} (C : Cx T cX8_light 3 RX8 0 0) (CR : CxR T 3 67) (hr : T.2.2.2.2.2.2.2.2.1.sig.returnType = none) (hnm : T.2.2.2.2.2.2.2.2.1.name = "light") {nx : Nat → Kt} (hn : ∀ pc, Sd T 3 (QT T Q 0 0) 0 0 pc (nx pc)) : Sd T 3 (QT T Q 0 0) 0 0 64 (bX8_light_64 Q nx) := x_al_n C dX8_light_64 rfl (x_cV C CR mX8_isNotQuiet ⟨co_X8_isNotQuiet, init_X8, md_X8_isNotQuiet, by decide, by decide⟩ (ci := 8) (TX := TX8) (N := 51) rfl (by decide) ml_X8_159 im_X8_isNotQuiet se_X8_isNotQuiet dX8_light_65 (x_rV C hr dX8_light_68))
set_option maxRecDepth 20000 in
theorem mX8_light (l : Launch) (D : va_G) (cA : Nat → ClassId) (base : Nat) : Mc l D cA base yX8_light cX8_light 3 none rX8_light wX8_light := mc_of (by decide +kernel) kX8_light (fun T Q C CR hr hnm nx hn => bse_ok _ (List.forall_mem_cons.mpr ⟨oX8_light_0 C CR hr hnm hn, List.forall_mem_cons.mpr ⟨oX8_light_12 C CR hr hnm hn, List.forall_mem_cons.mpr ⟨oX8_light_31 C CR hr hnm hn, List.forall_mem_cons.mpr ⟨oX8_light_35 C CR hr hnm hn, List.forall_mem_cons.mpr ⟨oX8_light_36 C CR hr hnm hn, List.forall_mem_cons.mpr ⟨oX8_light_47 C CR hr hnm hn, List.forall_mem_cons.mpr ⟨oX8_light_59 C CR hr hnm hn, List.forall_mem_cons.mpr ⟨oX8_light_64 C CR hr hnm hn, fun _ h => nomatch h⟩⟩⟩⟩⟩⟩⟩⟩))
theorem dX8_lose_0 : decode cX8_lose 0 = .ok (.aload_n 0, 1) := by decide +kernel
theorem dX8_lose_1 : decode cX8_lose 1 = .ok (.iload_n 1, 1) := by decide +kernel
theorem dX8_lose_2 : decode cX8_lose 2 = .ok (.invokestatic 154, 3) := by decide +kernel
theorem dX8_lose_5 : decode cX8_lose 5 = .ok (.ifCond .eq 20, 3) := by decide +kernel
theorem dX8_lose_8 : decode cX8_lose 8 = .ok (.iload_n 2, 1) := by decide +kernel
theorem dX8_lose_9 : decode cX8_lose 9 = .ok (.invokestatic 191, 3) := by decide +kernel
theorem dX8_lose_12 : decode cX8_lose 12 = .ok (.ifCond .eq 13, 3) := by decide +kernel
theorem dX8_lose_15 : decode cX8_lose 15 = .ok (.iload_n 3, 1) := by decide +kernel
theorem dX8_lose_16 : decode cX8_lose 16 = .ok (.ifCond .lt 9, 3) := by decide +kernel
theorem dX8_lose_19 : decode cX8_lose 19 = .ok (.iload_n 3, 1) := by decide +kernel
theorem dX8_lose_20 : decode cX8_lose 20 = .ok (.bipush 100, 2) := by decide +kernel
theorem dX8_lose_22 : decode cX8_lose 22 = .ok (.if_icmp .le 7, 3) := by decide +kernel
theorem dX8_lose_25 : decode cX8_lose 25 = .ok (.iconst 1, 1) := by decide +kernel
theorem dX8_lose_26 : decode cX8_lose 26 = .ok (.goto 4, 3) := by decide +kernel
theorem dX8_lose_29 : decode cX8_lose 29 = .ok (.iconst 0, 1) := by decide +kernel
theorem dX8_lose_30 : decode cX8_lose 30 = .ok (.putfield 132, 3) := by decide +kernel
theorem dX8_lose_33 : decode cX8_lose 33 = .ok (.aload_n 0, 1) := by decide +kernel
theorem dX8_lose_34 : decode cX8_lose 34 = .ok (.getfield 132, 3) := by decide +kernel
theorem dX8_lose_37 : decode cX8_lose 37 = .ok (.ifCond .le 4, 3) := by decide +kernel
theorem dX8_lose_40 : decode cX8_lose 40 = .ok (.return_, 1) := by decide +kernel
theorem dX8_lose_41 : decode cX8_lose 41 = .ok (.aload_n 0, 1) := by decide +kernel
theorem dX8_lose_42 : decode cX8_lose 42 = .ok (.getfield 86, 3) := by decide +kernel
theorem dX8_lose_45 : decode cX8_lose 45 = .ok (.iconst 2, 1) := by decide +kernel
theorem dX8_lose_46 : decode cX8_lose 46 = .ok (.iload_n 2, 1) := by decide +kernel
theorem dX8_lose_47 : decode cX8_lose 47 = .ok (.imul, 1) := by decide +kernel
theorem dX8_lose_48 : decode cX8_lose 48 = .ok (.iload_n 1, 1) := by decide +kernel
theorem dX8_lose_49 : decode cX8_lose 49 = .ok (.iadd, 1) := by decide +kernel
theorem dX8_lose_50 : decode cX8_lose 50 = .ok (.iload_n 3, 1) := by decide +kernel
theorem dX8_lose_51 : decode cX8_lose 51 = .ok (.iastore, 1) := by decide +kernel
theorem dX8_lose_52 : decode cX8_lose 52 = .ok (.aload_n 0, 1) := by decide +kernel
theorem dX8_lose_53 : decode cX8_lose 53 = .ok (.invokevirtual 159, 3) := by decide +kernel
theorem dX8_lose_56 : decode cX8_lose 56 = .ok (.return_, 1) := by decide +kernel
noncomputable def bX8_lose_0 (Q : Option Value → MM → Prop) (nx : Nat → Kt) : Kt := ldA 0 (ldI 1 (cS 1 wX8_isEnd 0 0 0 0 (ifz (fun x => x = 0) (nx 25) (ldI 2 (cS 1 wX8_isCable 0 0 0 0 (ifz (fun x => x = 0) (nx 25) (ldI 3 (ifz (fun x => x < 0) (nx 25) (ldI 3 (cI 100 (ifc (fun x y => x ≤ y) (nx 29) (nx 25))))))))))))
noncomputable def bX8_lose_25 (Q : Option Value → MM → Prop) (nx : Nat → Kt) : Kt := cI 1 (nx 30)
noncomputable def bX8_lose_29 (Q : Option Value → MM → Prop) (nx : Nat → Kt) : Kt := cI 0 (nx 30)
noncomputable def bX8_lose_30 (Q : Option Value → MM → Prop) (nx : Nat → Kt) : Kt := tI 8 0 (ldA 0 (gI 8 0 (ifz (fun x => x ≤ 0) (nx 41) (rV Q))))
noncomputable def bX8_lose_41 (Q : Option Value → MM → Prop) (nx : Nat → Kt) : Kt := ldA 0 (gR 8 26 (cI 2 (ldI 2 (bop (fun x y => x * y) (ldI 1 (bop (fun x y => x + y) (ldI 3 (sAI (ldA 0 (cV 0 8 wX8_isNotQuiet 0 0 0 0 (rV Q)))))))))))
noncomputable def kX8_lose (Q : Option Value → MM → Prop) (nx : Nat → Kt) : Nat → Kt := bse [(0, bX8_lose_0 Q nx), (25, bX8_lose_25 Q nx), (29, bX8_lose_29 Q nx), (30, bX8_lose_30 Q nx), (41, bX8_lose_41 Q nx)]
abbrev rX8_lose : Room := { frames := 1, cells := 0, slots := 0, locals := 20 }
noncomputable def wX8_lose : Mw := mw 4 kX8_lose
set_option maxRecDepth 20000 in
theorem oX8_lose_0 {T : Ct} {Q : Option Value → MM → Prop} (C : Cx T cX8_lose 4 RX8 0 0) (CR : CxR T 1 20) (hr : T.2.2.2.2.2.2.2.2.1.sig.returnType = none) (hnm : T.2.2.2.2.2.2.2.2.1.name = "lose") {nx : Nat → Kt} (hn : ∀ pc, Sd T 4 (QT T Q 0 0) 0 0 pc (nx pc)) : Sd T 4 (QT T Q 0 0) 0 0 0 (bX8_lose_0 Q nx) := x_al_n C dX8_lose_0 rfl (x_il_n C dX8_lose_1 rfl (x_cS C CR mX8_isEnd ⟨co_X8_isEnd, init_X8, md_X8_isEnd, by decide, by decide⟩ ml_X8_154 sm_X8_isEnd dX8_lose_2 (x_if_eq C (hn 25) dX8_lose_5 (by decide) (x_il_n C dX8_lose_8 rfl (x_cS C CR mX8_isCable ⟨co_X8_isCable, init_X8, md_X8_isCable, by decide, by decide⟩ ml_X8_191 sm_X8_isCable dX8_lose_9 (x_if_eq C (hn 25) dX8_lose_12 (by decide) (x_il_n C dX8_lose_15 rfl (x_if_lt C (hn 25) dX8_lose_16 (by decide) (x_il_n C dX8_lose_19 rfl (x_bp C dX8_lose_20 (by decide) (x_ic_le C (hn 29) dX8_lose_22 (by decide) (hn 25))))))))))))
set_option maxRecDepth 20000 in
theorem oX8_lose_25 {T : Ct} {Q : Option Value → MM → Prop} (C : Cx T cX8_lose 4 RX8 0 0) (CR : CxR T 1 20) (hr : T.2.2.2.2.2.2.2.2.1.sig.returnType = none) (hnm : T.2.2.2.2.2.2.2.2.1.name = "lose") {nx : Nat → Kt} (hn : ∀ pc, Sd T 4 (QT T Q 0 0) 0 0 pc (nx pc)) : Sd T 4 (QT T Q 0 0) 0 0 25 (bX8_lose_25 Q nx) := x_ic C dX8_lose_25 (by decide) (x_goto C (hn 30) dX8_lose_26 (by decide))
set_option maxRecDepth 20000 in
theorem oX8_lose_29 {T : Ct} {Q : Option Value → MM → Prop} (C : Cx T cX8_lose 4 RX8 0 0) (CR : CxR T 1 20) (hr : T.2.2.2.2.2.2.2.2.1.sig.returnType = none) (hnm : T.2.2.2.2.2.2.2.2.1.name = "lose") {nx : Nat → Kt} (hn : ∀ pc, Sd T 4 (QT T Q 0 0) 0 0 pc (nx pc)) : Sd T 4 (QT T Q 0 0) 0 0 29 (bX8_lose_29 Q nx) := x_ic C dX8_lose_29 (by decide) (hn 30)
set_option maxRecDepth 20000 in
theorem oX8_lose_30 {T : Ct} {Q : Option Value → MM → Prop} (C : Cx T cX8_lose 4 RX8 0 0) (CR : CxR T 1 20) (hr : T.2.2.2.2.2.2.2.2.1.sig.returnType = none) (hnm : T.2.2.2.2.2.2.2.2.1.name = "lose") {nx : Nat → Kt} (hn : ∀ pc, Sd T 4 (QT T Q 0 0) 0 0 pc (nx pc)) : Sd T 4 (QT T Q 0 0) 0 0 30 (bX8_lose_30 Q nx) := pf_X8_132 C dX8_lose_30 (x_al_n C dX8_lose_33 rfl (gf_X8_132 C dX8_lose_34 (x_if_le C (hn 41) dX8_lose_37 (by decide) (x_rV C hr dX8_lose_40))))
set_option maxRecDepth 20000 in
theorem oX8_lose_41 {T : Ct} {Q : Option Value → MM → Prop} (C : Cx T cX8_lose 4 RX8 0 0) (CR : CxR T 1 20) (hr : T.2.2.2.2.2.2.2.2.1.sig.returnType = none) (hnm : T.2.2.2.2.2.2.2.2.1.name = "lose") {nx : Nat → Kt} (hn : ∀ pc, Sd T 4 (QT T Q 0 0) 0 0 pc (nx pc)) : Sd T 4 (QT T Q 0 0) 0 0 41 (bX8_lose_41 Q nx) := x_al_n C dX8_lose_41 rfl (gf_X8_86 C dX8_lose_42 (x_ic C dX8_lose_45 (by decide) (x_il_n C dX8_lose_46 rfl (x_imul C dX8_lose_47 (x_il_n C dX8_lose_48 rfl (x_iadd C dX8_lose_49 (x_il_n C dX8_lose_50 rfl (x_iast C dX8_lose_51 (x_al_n C dX8_lose_52 rfl (x_cV C CR mX8_isNotQuiet ⟨co_X8_isNotQuiet, init_X8, md_X8_isNotQuiet, by decide, by decide⟩ (ci := 8) (TX := TX8) (N := 51) rfl (by decide) ml_X8_159 im_X8_isNotQuiet se_X8_isNotQuiet dX8_lose_53 (x_rV C hr dX8_lose_56)))))))))))
set_option maxRecDepth 20000 in
theorem mX8_lose (l : Launch) (D : va_G) (cA : Nat → ClassId) (base : Nat) : Mc l D cA base yX8_lose cX8_lose 4 none rX8_lose wX8_lose := mc_of (by decide +kernel) kX8_lose (fun T Q C CR hr hnm nx hn => bse_ok _ (List.forall_mem_cons.mpr ⟨oX8_lose_0 C CR hr hnm hn, List.forall_mem_cons.mpr ⟨oX8_lose_25 C CR hr hnm hn, List.forall_mem_cons.mpr ⟨oX8_lose_29 C CR hr hnm hn, List.forall_mem_cons.mpr ⟨oX8_lose_30 C CR hr hnm hn, List.forall_mem_cons.mpr ⟨oX8_lose_41 C CR hr hnm hn, fun _ h => nomatch h⟩⟩⟩⟩⟩))
