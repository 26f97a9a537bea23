theorem dL_law_0 : decode cL_law 0 = .ok (.new 8, 3) := by decide +kernel
theorem dL_law_3 : decode cL_law 3 = .ok (.dup, 1) := by decide +kernel
theorem dL_law_4 : decode cL_law 4 = .ok (.invokespecial 63, 3) := by decide +kernel
theorem dL_law_7 : decode cL_law 7 = .ok (.astore_n 1, 1) := by decide +kernel
theorem dL_law_8 : decode cL_law 8 = .ok (.new 64, 3) := by decide +kernel
theorem dL_law_11 : decode cL_law 11 = .ok (.dup, 1) := by decide +kernel
theorem dL_law_12 : decode cL_law 12 = .ok (.invokespecial 66, 3) := by decide +kernel
theorem dL_law_15 : decode cL_law 15 = .ok (.astore_n 2, 1) := by decide +kernel
theorem dL_law_16 : decode cL_law 16 = .ok (.iconst 1, 1) := by decide +kernel
theorem dL_law_17 : decode cL_law 17 = .ok (.newarray .long, 2) := by decide +kernel
theorem dL_law_19 : decode cL_law 19 = .ok (.astore_n 3, 1) := by decide +kernel
theorem dL_law_20 : decode cL_law 20 = .ok (.iconst 0, 1) := by decide +kernel
theorem dL_law_21 : decode cL_law 21 = .ok (.istore 4, 2) := by decide +kernel
theorem dL_law_23 : decode cL_law 23 = .ok (.iload 4, 2) := by decide +kernel
theorem dL_law_25 : decode cL_law 25 = .ok (.aload_n 0, 1) := by decide +kernel
theorem dL_law_26 : decode cL_law 26 = .ok (.arraylength, 1) := by decide +kernel
theorem dL_law_27 : decode cL_law 27 = .ok (.iconst 5, 1) := by decide +kernel
theorem dL_law_28 : decode cL_law 28 = .ok (.isub, 1) := by decide +kernel
theorem dL_law_29 : decode cL_law 29 = .ok (.if_icmp .gt 1083, 3) := by decide +kernel
theorem dL_law_32 : decode cL_law 32 = .ok (.aload_n 0, 1) := by decide +kernel
theorem dL_law_33 : decode cL_law 33 = .ok (.iload 4, 2) := by decide +kernel
theorem dL_law_35 : decode cL_law 35 = .ok (.iaload, 1) := by decide +kernel
theorem dL_law_36 : decode cL_law 36 = .ok (.bipush 15, 2) := by decide +kernel
theorem dL_law_38 : decode cL_law 38 = .ok (.iand, 1) := by decide +kernel
theorem dL_law_39 : decode cL_law 39 = .ok (.tableswitch 1067 0 14 #[73, 141, 209, 281, 385, 457, 493, 557, 617, 673, 765, 845, 925, 993, 1042], 73) := by decide +kernel
theorem dL_law_112 : decode cL_law 112 = .ok (.aload_n 1, 1) := by decide +kernel
theorem dL_law_113 : decode cL_law 113 = .ok (.aload_n 0, 1) := by decide +kernel
theorem dL_law_114 : decode cL_law 114 = .ok (.iload 4, 2) := by decide +kernel
theorem dL_law_116 : decode cL_law 116 = .ok (.iconst 1, 1) := by decide +kernel
theorem dL_law_117 : decode cL_law 117 = .ok (.iadd, 1) := by decide +kernel
theorem dL_law_118 : decode cL_law 118 = .ok (.iaload, 1) := by decide +kernel
theorem dL_law_119 : decode cL_law 119 = .ok (.aload_n 0, 1) := by decide +kernel
theorem dL_law_120 : decode cL_law 120 = .ok (.iload 4, 2) := by decide +kernel
theorem dL_law_122 : decode cL_law 122 = .ok (.iconst 2, 1) := by decide +kernel
theorem dL_law_123 : decode cL_law 123 = .ok (.iadd, 1) := by decide +kernel
theorem dL_law_124 : decode cL_law 124 = .ok (.iaload, 1) := by decide +kernel
theorem dL_law_125 : decode cL_law 125 = .ok (.aload_n 3, 1) := by decide +kernel
theorem dL_law_126 : decode cL_law 126 = .ok (.invokestatic 67, 3) := by decide +kernel
theorem dL_law_129 : decode cL_law 129 = .ok (.istore 5, 2) := by decide +kernel
theorem dL_law_131 : decode cL_law 131 = .ok (.aload_n 2, 1) := by decide +kernel
theorem dL_law_132 : decode cL_law 132 = .ok (.aload_n 0, 1) := by decide +kernel
theorem dL_law_133 : decode cL_law 133 = .ok (.iload 4, 2) := by decide +kernel
theorem dL_law_135 : decode cL_law 135 = .ok (.iconst 1, 1) := by decide +kernel
theorem dL_law_136 : decode cL_law 136 = .ok (.iadd, 1) := by decide +kernel
theorem dL_law_137 : decode cL_law 137 = .ok (.iaload, 1) := by decide +kernel
theorem dL_law_138 : decode cL_law 138 = .ok (.aload_n 0, 1) := by decide +kernel
theorem dL_law_139 : decode cL_law 139 = .ok (.iload 4, 2) := by decide +kernel
theorem dL_law_141 : decode cL_law 141 = .ok (.iconst 2, 1) := by decide +kernel
theorem dL_law_142 : decode cL_law 142 = .ok (.iadd, 1) := by decide +kernel
theorem dL_law_143 : decode cL_law 143 = .ok (.iaload, 1) := by decide +kernel
theorem dL_law_144 : decode cL_law 144 = .ok (.invokevirtual 72, 3) := by decide +kernel
theorem dL_law_147 : decode cL_law 147 = .ok (.istore 6, 2) := by decide +kernel
theorem dL_law_149 : decode cL_law 149 = .ok (.aload_n 2, 1) := by decide +kernel
theorem dL_law_150 : decode cL_law 150 = .ok (.invokevirtual 73, 3) := by decide +kernel
theorem dL_law_153 : decode cL_law 153 = .ok (.iload 5, 2) := by decide +kernel
theorem dL_law_155 : decode cL_law 155 = .ok (.if_icmp .eq 5, 3) := by decide +kernel
theorem dL_law_158 : decode cL_law 158 = .ok (.iconst 0, 1) := by decide +kernel
theorem dL_law_159 : decode cL_law 159 = .ok (.ireturn, 1) := by decide +kernel
theorem dL_law_160 : decode cL_law 160 = .ok (.iload 5, 2) := by decide +kernel
theorem dL_law_162 : decode cL_law 162 = .ok (.ifCond .ne 15, 3) := by decide +kernel
theorem dL_law_165 : decode cL_law 165 = .ok (.aload_n 3, 1) := by decide +kernel
theorem dL_law_166 : decode cL_law 166 = .ok (.iconst 0, 1) := by decide +kernel
theorem dL_law_167 : decode cL_law 167 = .ok (.laload, 1) := by decide +kernel
theorem dL_law_168 : decode cL_law 168 = .ok (.iload 6, 2) := by decide +kernel
theorem dL_law_170 : decode cL_law 170 = .ok (.i2l, 1) := by decide +kernel
theorem dL_law_171 : decode cL_law 171 = .ok (.lcmp, 1) := by decide +kernel
theorem dL_law_172 : decode cL_law 172 = .ok (.ifCond .eq 5, 3) := by decide +kernel
theorem dL_law_175 : decode cL_law 175 = .ok (.iconst 0, 1) := by decide +kernel
theorem dL_law_176 : decode cL_law 176 = .ok (.ireturn, 1) := by decide +kernel
theorem dL_law_177 : decode cL_law 177 = .ok (.goto 929, 3) := by decide +kernel
theorem dL_law_180 : decode cL_law 180 = .ok (.aload_n 1, 1) := by decide +kernel
theorem dL_law_181 : decode cL_law 181 = .ok (.aload_n 0, 1) := by decide +kernel
theorem dL_law_182 : decode cL_law 182 = .ok (.iload 4, 2) := by decide +kernel
theorem dL_law_184 : decode cL_law 184 = .ok (.iconst 1, 1) := by decide +kernel
theorem dL_law_185 : decode cL_law 185 = .ok (.iadd, 1) := by decide +kernel
theorem dL_law_186 : decode cL_law 186 = .ok (.iaload, 1) := by decide +kernel
theorem dL_law_187 : decode cL_law 187 = .ok (.aload_n 0, 1) := by decide +kernel
theorem dL_law_188 : decode cL_law 188 = .ok (.iload 4, 2) := by decide +kernel
theorem dL_law_190 : decode cL_law 190 = .ok (.iconst 2, 1) := by decide +kernel
theorem dL_law_191 : decode cL_law 191 = .ok (.iadd, 1) := by decide +kernel
theorem dL_law_192 : decode cL_law 192 = .ok (.iaload, 1) := by decide +kernel
theorem dL_law_193 : decode cL_law 193 = .ok (.aload_n 3, 1) := by decide +kernel
theorem dL_law_194 : decode cL_law 194 = .ok (.invokestatic 77, 3) := by decide +kernel
theorem dL_law_197 : decode cL_law 197 = .ok (.istore 5, 2) := by decide +kernel
theorem dL_law_199 : decode cL_law 199 = .ok (.aload_n 2, 1) := by decide +kernel
theorem dL_law_200 : decode cL_law 200 = .ok (.aload_n 0, 1) := by decide +kernel
theorem dL_law_201 : decode cL_law 201 = .ok (.iload 4, 2) := by decide +kernel
theorem dL_law_203 : decode cL_law 203 = .ok (.iconst 1, 1) := by decide +kernel
theorem dL_law_204 : decode cL_law 204 = .ok (.iadd, 1) := by decide +kernel
theorem dL_law_205 : decode cL_law 205 = .ok (.iaload, 1) := by decide +kernel
theorem dL_law_206 : decode cL_law 206 = .ok (.aload_n 0, 1) := by decide +kernel
theorem dL_law_207 : decode cL_law 207 = .ok (.iload 4, 2) := by decide +kernel
theorem dL_law_209 : decode cL_law 209 = .ok (.iconst 2, 1) := by decide +kernel
theorem dL_law_210 : decode cL_law 210 = .ok (.iadd, 1) := by decide +kernel
theorem dL_law_211 : decode cL_law 211 = .ok (.iaload, 1) := by decide +kernel
theorem dL_law_212 : decode cL_law 212 = .ok (.invokevirtual 79, 3) := by decide +kernel
theorem dL_law_215 : decode cL_law 215 = .ok (.istore 6, 2) := by decide +kernel
theorem dL_law_217 : decode cL_law 217 = .ok (.aload_n 2, 1) := by decide +kernel
theorem dL_law_218 : decode cL_law 218 = .ok (.invokevirtual 73, 3) := by decide +kernel
theorem dL_law_221 : decode cL_law 221 = .ok (.iload 5, 2) := by decide +kernel
theorem dL_law_223 : decode cL_law 223 = .ok (.if_icmp .eq 5, 3) := by decide +kernel
theorem dL_law_226 : decode cL_law 226 = .ok (.iconst 0, 1) := by decide +kernel
theorem dL_law_227 : decode cL_law 227 = .ok (.ireturn, 1) := by decide +kernel
theorem dL_law_228 : decode cL_law 228 = .ok (.iload 5, 2) := by decide +kernel
theorem dL_law_230 : decode cL_law 230 = .ok (.ifCond .ne 15, 3) := by decide +kernel
theorem dL_law_233 : decode cL_law 233 = .ok (.aload_n 3, 1) := by decide +kernel
theorem dL_law_234 : decode cL_law 234 = .ok (.iconst 0, 1) := by decide +kernel
theorem dL_law_235 : decode cL_law 235 = .ok (.laload, 1) := by decide +kernel
theorem dL_law_236 : decode cL_law 236 = .ok (.iload 6, 2) := by decide +kernel
theorem dL_law_238 : decode cL_law 238 = .ok (.i2l, 1) := by decide +kernel
theorem dL_law_239 : decode cL_law 239 = .ok (.lcmp, 1) := by decide +kernel
theorem dL_law_240 : decode cL_law 240 = .ok (.ifCond .eq 5, 3) := by decide +kernel
theorem dL_law_243 : decode cL_law 243 = .ok (.iconst 0, 1) := by decide +kernel
theorem dL_law_244 : decode cL_law 244 = .ok (.ireturn, 1) := by decide +kernel
theorem dL_law_245 : decode cL_law 245 = .ok (.goto 861, 3) := by decide +kernel
theorem dL_law_248 : decode cL_law 248 = .ok (.aload_n 1, 1) := by decide +kernel
theorem dL_law_249 : decode cL_law 249 = .ok (.aload_n 0, 1) := by decide +kernel
theorem dL_law_250 : decode cL_law 250 = .ok (.iload 4, 2) := by decide +kernel
theorem dL_law_252 : decode cL_law 252 = .ok (.iconst 1, 1) := by decide +kernel
theorem dL_law_253 : decode cL_law 253 = .ok (.iadd, 1) := by decide +kernel
theorem dL_law_254 : decode cL_law 254 = .ok (.iaload, 1) := by decide +kernel
theorem dL_law_255 : decode cL_law 255 = .ok (.aload_n 0, 1) := by decide +kernel
theorem dL_law_256 : decode cL_law 256 = .ok (.iload 4, 2) := by decide +kernel
theorem dL_law_258 : decode cL_law 258 = .ok (.iconst 2, 1) := by decide +kernel
theorem dL_law_259 : decode cL_law 259 = .ok (.iadd, 1) := by decide +kernel
theorem dL_law_260 : decode cL_law 260 = .ok (.iaload, 1) := by decide +kernel
theorem dL_law_261 : decode cL_law 261 = .ok (.aload_n 0, 1) := by decide +kernel
theorem dL_law_262 : decode cL_law 262 = .ok (.iload 4, 2) := by decide +kernel
theorem dL_law_264 : decode cL_law 264 = .ok (.iconst 3, 1) := by decide +kernel
theorem dL_law_265 : decode cL_law 265 = .ok (.iadd, 1) := by decide +kernel
theorem dL_law_266 : decode cL_law 266 = .ok (.iaload, 1) := by decide +kernel
theorem dL_law_267 : decode cL_law 267 = .ok (.aload_n 0, 1) := by decide +kernel
theorem dL_law_268 : decode cL_law 268 = .ok (.iload 4, 2) := by decide +kernel
theorem dL_law_270 : decode cL_law 270 = .ok (.iconst 4, 1) := by decide +kernel
theorem dL_law_271 : decode cL_law 271 = .ok (.iadd, 1) := by decide +kernel
theorem dL_law_272 : decode cL_law 272 = .ok (.iaload, 1) := by decide +kernel
theorem dL_law_273 : decode cL_law 273 = .ok (.invokestatic 80, 3) := by decide +kernel
theorem dL_law_276 : decode cL_law 276 = .ok (.istore 5, 2) := by decide +kernel
theorem dL_law_278 : decode cL_law 278 = .ok (.aload_n 2, 1) := by decide +kernel
theorem dL_law_279 : decode cL_law 279 = .ok (.aload_n 0, 1) := by decide +kernel
theorem dL_law_280 : decode cL_law 280 = .ok (.iload 4, 2) := by decide +kernel
theorem dL_law_282 : decode cL_law 282 = .ok (.iconst 1, 1) := by decide +kernel
theorem dL_law_283 : decode cL_law 283 = .ok (.iadd, 1) := by decide +kernel
theorem dL_law_284 : decode cL_law 284 = .ok (.iaload, 1) := by decide +kernel
theorem dL_law_285 : decode cL_law 285 = .ok (.aload_n 0, 1) := by decide +kernel
theorem dL_law_286 : decode cL_law 286 = .ok (.iload 4, 2) := by decide +kernel
theorem dL_law_288 : decode cL_law 288 = .ok (.iconst 2, 1) := by decide +kernel
theorem dL_law_289 : decode cL_law 289 = .ok (.iadd, 1) := by decide +kernel
theorem dL_law_290 : decode cL_law 290 = .ok (.iaload, 1) := by decide +kernel
theorem dL_law_291 : decode cL_law 291 = .ok (.aload_n 0, 1) := by decide +kernel
theorem dL_law_292 : decode cL_law 292 = .ok (.iload 4, 2) := by decide +kernel
theorem dL_law_294 : decode cL_law 294 = .ok (.iconst 3, 1) := by decide +kernel
theorem dL_law_295 : decode cL_law 295 = .ok (.iadd, 1) := by decide +kernel
theorem dL_law_296 : decode cL_law 296 = .ok (.iaload, 1) := by decide +kernel
theorem dL_law_297 : decode cL_law 297 = .ok (.aload_n 0, 1) := by decide +kernel
theorem dL_law_298 : decode cL_law 298 = .ok (.iload 4, 2) := by decide +kernel
theorem dL_law_300 : decode cL_law 300 = .ok (.iconst 4, 1) := by decide +kernel
theorem dL_law_301 : decode cL_law 301 = .ok (.iadd, 1) := by decide +kernel
theorem dL_law_302 : decode cL_law 302 = .ok (.iaload, 1) := by decide +kernel
theorem dL_law_303 : decode cL_law 303 = .ok (.invokevirtual 83, 3) := by decide +kernel
theorem dL_law_306 : decode cL_law 306 = .ok (.aload_n 2, 1) := by decide +kernel
theorem dL_law_307 : decode cL_law 307 = .ok (.invokevirtual 73, 3) := by decide +kernel
theorem dL_law_310 : decode cL_law 310 = .ok (.iload 5, 2) := by decide +kernel
theorem dL_law_312 : decode cL_law 312 = .ok (.if_icmp .eq 5, 3) := by decide +kernel
theorem dL_law_315 : decode cL_law 315 = .ok (.iconst 0, 1) := by decide +kernel
theorem dL_law_316 : decode cL_law 316 = .ok (.ireturn, 1) := by decide +kernel
theorem dL_law_317 : decode cL_law 317 = .ok (.goto 789, 3) := by decide +kernel
theorem dL_law_320 : decode cL_law 320 = .ok (.aload_n 1, 1) := by decide +kernel
theorem dL_law_321 : decode cL_law 321 = .ok (.aload_n 0, 1) := by decide +kernel
theorem dL_law_322 : decode cL_law 322 = .ok (.iload 4, 2) := by decide +kernel
theorem dL_law_324 : decode cL_law 324 = .ok (.iconst 1, 1) := by decide +kernel
theorem dL_law_325 : decode cL_law 325 = .ok (.iadd, 1) := by decide +kernel
theorem dL_law_326 : decode cL_law 326 = .ok (.iaload, 1) := by decide +kernel
theorem dL_law_327 : decode cL_law 327 = .ok (.aload_n 0, 1) := by decide +kernel
theorem dL_law_328 : decode cL_law 328 = .ok (.iload 4, 2) := by decide +kernel
theorem dL_law_330 : decode cL_law 330 = .ok (.iconst 2, 1) := by decide +kernel
theorem dL_law_331 : decode cL_law 331 = .ok (.iadd, 1) := by decide +kernel
theorem dL_law_332 : decode cL_law 332 = .ok (.iaload, 1) := by decide +kernel
theorem dL_law_333 : decode cL_law 333 = .ok (.aload_n 0, 1) := by decide +kernel
theorem dL_law_334 : decode cL_law 334 = .ok (.iload 4, 2) := by decide +kernel
theorem dL_law_336 : decode cL_law 336 = .ok (.iconst 3, 1) := by decide +kernel
theorem dL_law_337 : decode cL_law 337 = .ok (.iadd, 1) := by decide +kernel
theorem dL_law_338 : decode cL_law 338 = .ok (.iaload, 1) := by decide +kernel
theorem dL_law_339 : decode cL_law 339 = .ok (.ifCond .eq 7, 3) := by decide +kernel
theorem dL_law_342 : decode cL_law 342 = .ok (.iconst 1, 1) := by decide +kernel
theorem dL_law_343 : decode cL_law 343 = .ok (.goto 4, 3) := by decide +kernel
theorem dL_law_346 : decode cL_law 346 = .ok (.iconst 0, 1) := by decide +kernel
theorem dL_law_347 : decode cL_law 347 = .ok (.aload_n 0, 1) := by decide +kernel
theorem dL_law_348 : decode cL_law 348 = .ok (.iload 4, 2) := by decide +kernel
theorem dL_law_350 : decode cL_law 350 = .ok (.iconst 4, 1) := by decide +kernel
theorem dL_law_351 : decode cL_law 351 = .ok (.iadd, 1) := by decide +kernel
theorem dL_law_352 : decode cL_law 352 = .ok (.iaload, 1) := by decide +kernel
theorem dL_law_353 : decode cL_law 353 = .ok (.ifCond .eq 7, 3) := by decide +kernel
theorem dL_law_356 : decode cL_law 356 = .ok (.iconst 1, 1) := by decide +kernel
theorem dL_law_357 : decode cL_law 357 = .ok (.goto 4, 3) := by decide +kernel
theorem dL_law_360 : decode cL_law 360 = .ok (.iconst 0, 1) := by decide +kernel
theorem dL_law_361 : decode cL_law 361 = .ok (.invokestatic 84, 3) := by decide +kernel
theorem dL_law_364 : decode cL_law 364 = .ok (.istore 5, 2) := by decide +kernel
theorem dL_law_366 : decode cL_law 366 = .ok (.aload_n 2, 1) := by decide +kernel
theorem dL_law_367 : decode cL_law 367 = .ok (.aload_n 0, 1) := by decide +kernel
theorem dL_law_368 : decode cL_law 368 = .ok (.iload 4, 2) := by decide +kernel
theorem dL_law_370 : decode cL_law 370 = .ok (.iconst 1, 1) := by decide +kernel
theorem dL_law_371 : decode cL_law 371 = .ok (.iadd, 1) := by decide +kernel
theorem dL_law_372 : decode cL_law 372 = .ok (.iaload, 1) := by decide +kernel
theorem dL_law_373 : decode cL_law 373 = .ok (.aload_n 0, 1) := by decide +kernel
theorem dL_law_374 : decode cL_law 374 = .ok (.iload 4, 2) := by decide +kernel
theorem dL_law_376 : decode cL_law 376 = .ok (.iconst 2, 1) := by decide +kernel
theorem dL_law_377 : decode cL_law 377 = .ok (.iadd, 1) := by decide +kernel
theorem dL_law_378 : decode cL_law 378 = .ok (.iaload, 1) := by decide +kernel
theorem dL_law_379 : decode cL_law 379 = .ok (.aload_n 0, 1) := by decide +kernel
theorem dL_law_380 : decode cL_law 380 = .ok (.iload 4, 2) := by decide +kernel
theorem dL_law_382 : decode cL_law 382 = .ok (.iconst 3, 1) := by decide +kernel
theorem dL_law_383 : decode cL_law 383 = .ok (.iadd, 1) := by decide +kernel
theorem dL_law_384 : decode cL_law 384 = .ok (.iaload, 1) := by decide +kernel
theorem dL_law_385 : decode cL_law 385 = .ok (.ifCond .eq 7, 3) := by decide +kernel
theorem dL_law_388 : decode cL_law 388 = .ok (.iconst 1, 1) := by decide +kernel
theorem dL_law_389 : decode cL_law 389 = .ok (.goto 4, 3) := by decide +kernel
theorem dL_law_392 : decode cL_law 392 = .ok (.iconst 0, 1) := by decide +kernel
theorem dL_law_393 : decode cL_law 393 = .ok (.aload_n 0, 1) := by decide +kernel
theorem dL_law_394 : decode cL_law 394 = .ok (.iload 4, 2) := by decide +kernel
theorem dL_law_396 : decode cL_law 396 = .ok (.iconst 4, 1) := by decide +kernel
theorem dL_law_397 : decode cL_law 397 = .ok (.iadd, 1) := by decide +kernel
theorem dL_law_398 : decode cL_law 398 = .ok (.iaload, 1) := by decide +kernel
theorem dL_law_399 : decode cL_law 399 = .ok (.ifCond .eq 7, 3) := by decide +kernel
theorem dL_law_402 : decode cL_law 402 = .ok (.iconst 1, 1) := by decide +kernel
theorem dL_law_403 : decode cL_law 403 = .ok (.goto 4, 3) := by decide +kernel
theorem dL_law_406 : decode cL_law 406 = .ok (.iconst 0, 1) := by decide +kernel
theorem dL_law_407 : decode cL_law 407 = .ok (.invokevirtual 87, 3) := by decide +kernel
theorem dL_law_410 : decode cL_law 410 = .ok (.aload_n 2, 1) := by decide +kernel
theorem dL_law_411 : decode cL_law 411 = .ok (.invokevirtual 73, 3) := by decide +kernel
theorem dL_law_414 : decode cL_law 414 = .ok (.iload 5, 2) := by decide +kernel
theorem dL_law_416 : decode cL_law 416 = .ok (.if_icmp .eq 5, 3) := by decide +kernel
theorem dL_law_419 : decode cL_law 419 = .ok (.iconst 0, 1) := by decide +kernel
theorem dL_law_420 : decode cL_law 420 = .ok (.ireturn, 1) := by decide +kernel
theorem dL_law_421 : decode cL_law 421 = .ok (.goto 685, 3) := by decide +kernel
theorem dL_law_424 : decode cL_law 424 = .ok (.aload_n 1, 1) := by decide +kernel
theorem dL_law_425 : decode cL_law 425 = .ok (.aload_n 0, 1) := by decide +kernel
theorem dL_law_426 : decode cL_law 426 = .ok (.iload 4, 2) := by decide +kernel
theorem dL_law_428 : decode cL_law 428 = .ok (.iconst 1, 1) := by decide +kernel
theorem dL_law_429 : decode cL_law 429 = .ok (.iadd, 1) := by decide +kernel
theorem dL_law_430 : decode cL_law 430 = .ok (.iaload, 1) := by decide +kernel
theorem dL_law_431 : decode cL_law 431 = .ok (.aload_n 0, 1) := by decide +kernel
theorem dL_law_432 : decode cL_law 432 = .ok (.iload 4, 2) := by decide +kernel
theorem dL_law_434 : decode cL_law 434 = .ok (.iconst 2, 1) := by decide +kernel
theorem dL_law_435 : decode cL_law 435 = .ok (.iadd, 1) := by decide +kernel
theorem dL_law_436 : decode cL_law 436 = .ok (.iaload, 1) := by decide +kernel
theorem dL_law_437 : decode cL_law 437 = .ok (.aload_n 0, 1) := by decide +kernel
theorem dL_law_438 : decode cL_law 438 = .ok (.iload 4, 2) := by decide +kernel
theorem dL_law_440 : decode cL_law 440 = .ok (.iconst 3, 1) := by decide +kernel
theorem dL_law_441 : decode cL_law 441 = .ok (.iadd, 1) := by decide +kernel
theorem dL_law_442 : decode cL_law 442 = .ok (.iaload, 1) := by decide +kernel
theorem dL_law_443 : decode cL_law 443 = .ok (.aload_n 0, 1) := by decide +kernel
theorem dL_law_444 : decode cL_law 444 = .ok (.iload 4, 2) := by decide +kernel
theorem dL_law_446 : decode cL_law 446 = .ok (.iconst 4, 1) := by decide +kernel
theorem dL_law_447 : decode cL_law 447 = .ok (.iadd, 1) := by decide +kernel
theorem dL_law_448 : decode cL_law 448 = .ok (.iaload, 1) := by decide +kernel
theorem dL_law_449 : decode cL_law 449 = .ok (.invokestatic 88, 3) := by decide +kernel
theorem dL_law_452 : decode cL_law 452 = .ok (.istore 5, 2) := by decide +kernel
theorem dL_law_454 : decode cL_law 454 = .ok (.aload_n 2, 1) := by decide +kernel
theorem dL_law_455 : decode cL_law 455 = .ok (.aload_n 0, 1) := by decide +kernel
theorem dL_law_456 : decode cL_law 456 = .ok (.iload 4, 2) := by decide +kernel
theorem dL_law_458 : decode cL_law 458 = .ok (.iconst 1, 1) := by decide +kernel
theorem dL_law_459 : decode cL_law 459 = .ok (.iadd, 1) := by decide +kernel
theorem dL_law_460 : decode cL_law 460 = .ok (.iaload, 1) := by decide +kernel
theorem dL_law_461 : decode cL_law 461 = .ok (.aload_n 0, 1) := by decide +kernel
theorem dL_law_462 : decode cL_law 462 = .ok (.iload 4, 2) := by decide +kernel
theorem dL_law_464 : decode cL_law 464 = .ok (.iconst 2, 1) := by decide +kernel
theorem dL_law_465 : decode cL_law 465 = .ok (.iadd, 1) := by decide +kernel
theorem dL_law_466 : decode cL_law 466 = .ok (.iaload, 1) := by decide +kernel
theorem dL_law_467 : decode cL_law 467 = .ok (.aload_n 0, 1) := by decide +kernel
theorem dL_law_468 : decode cL_law 468 = .ok (.iload 4, 2) := by decide +kernel
theorem dL_law_470 : decode cL_law 470 = .ok (.iconst 3, 1) := by decide +kernel
theorem dL_law_471 : decode cL_law 471 = .ok (.iadd, 1) := by decide +kernel
theorem dL_law_472 : decode cL_law 472 = .ok (.iaload, 1) := by decide +kernel
theorem dL_law_473 : decode cL_law 473 = .ok (.aload_n 0, 1) := by decide +kernel
theorem dL_law_474 : decode cL_law 474 = .ok (.iload 4, 2) := by decide +kernel
theorem dL_law_476 : decode cL_law 476 = .ok (.iconst 4, 1) := by decide +kernel
theorem dL_law_477 : decode cL_law 477 = .ok (.iadd, 1) := by decide +kernel
theorem dL_law_478 : decode cL_law 478 = .ok (.iaload, 1) := by decide +kernel
theorem dL_law_479 : decode cL_law 479 = .ok (.invokevirtual 90, 3) := by decide +kernel
theorem dL_law_482 : decode cL_law 482 = .ok (.aload_n 2, 1) := by decide +kernel
theorem dL_law_483 : decode cL_law 483 = .ok (.invokevirtual 73, 3) := by decide +kernel
theorem dL_law_486 : decode cL_law 486 = .ok (.iload 5, 2) := by decide +kernel
theorem dL_law_488 : decode cL_law 488 = .ok (.if_icmp .eq 5, 3) := by decide +kernel
theorem dL_law_491 : decode cL_law 491 = .ok (.iconst 0, 1) := by decide +kernel
theorem dL_law_492 : decode cL_law 492 = .ok (.ireturn, 1) := by decide +kernel
theorem dL_law_493 : decode cL_law 493 = .ok (.goto 613, 3) := by decide +kernel
theorem dL_law_496 : decode cL_law 496 = .ok (.aload_n 1, 1) := by decide +kernel
theorem dL_law_497 : decode cL_law 497 = .ok (.aload_n 0, 1) := by decide +kernel
theorem dL_law_498 : decode cL_law 498 = .ok (.iload 4, 2) := by decide +kernel
theorem dL_law_500 : decode cL_law 500 = .ok (.iconst 1, 1) := by decide +kernel
theorem dL_law_501 : decode cL_law 501 = .ok (.iadd, 1) := by decide +kernel
theorem dL_law_502 : decode cL_law 502 = .ok (.iaload, 1) := by decide +kernel
theorem dL_law_503 : decode cL_law 503 = .ok (.invokestatic 91, 3) := by decide +kernel
theorem dL_law_506 : decode cL_law 506 = .ok (.istore 5, 2) := by decide +kernel
theorem dL_law_508 : decode cL_law 508 = .ok (.aload_n 2, 1) := by decide +kernel
theorem dL_law_509 : decode cL_law 509 = .ok (.aload_n 0, 1) := by decide +kernel
theorem dL_law_510 : decode cL_law 510 = .ok (.iload 4, 2) := by decide +kernel
theorem dL_law_512 : decode cL_law 512 = .ok (.iconst 1, 1) := by decide +kernel
theorem dL_law_513 : decode cL_law 513 = .ok (.iadd, 1) := by decide +kernel
theorem dL_law_514 : decode cL_law 514 = .ok (.iaload, 1) := by decide +kernel
theorem dL_law_515 : decode cL_law 515 = .ok (.invokevirtual 94, 3) := by decide +kernel
theorem dL_law_518 : decode cL_law 518 = .ok (.aload_n 2, 1) := by decide +kernel
theorem dL_law_519 : decode cL_law 519 = .ok (.invokevirtual 73, 3) := by decide +kernel
theorem dL_law_522 : decode cL_law 522 = .ok (.iload 5, 2) := by decide +kernel
theorem dL_law_524 : decode cL_law 524 = .ok (.if_icmp .eq 5, 3) := by decide +kernel
theorem dL_law_527 : decode cL_law 527 = .ok (.iconst 0, 1) := by decide +kernel
theorem dL_law_528 : decode cL_law 528 = .ok (.ireturn, 1) := by decide +kernel
theorem dL_law_529 : decode cL_law 529 = .ok (.goto 577, 3) := by decide +kernel
theorem dL_law_532 : decode cL_law 532 = .ok (.aload_n 1, 1) := by decide +kernel
theorem dL_law_533 : decode cL_law 533 = .ok (.aload_n 0, 1) := by decide +kernel
theorem dL_law_534 : decode cL_law 534 = .ok (.iload 4, 2) := by decide +kernel
theorem dL_law_536 : decode cL_law 536 = .ok (.iconst 1, 1) := by decide +kernel
theorem dL_law_537 : decode cL_law 537 = .ok (.iadd, 1) := by decide +kernel
theorem dL_law_538 : decode cL_law 538 = .ok (.iaload, 1) := by decide +kernel
theorem dL_law_539 : decode cL_law 539 = .ok (.aload_n 0, 1) := by decide +kernel
theorem dL_law_540 : decode cL_law 540 = .ok (.iload 4, 2) := by decide +kernel
theorem dL_law_542 : decode cL_law 542 = .ok (.iconst 2, 1) := by decide +kernel
theorem dL_law_543 : decode cL_law 543 = .ok (.iadd, 1) := by decide +kernel
theorem dL_law_544 : decode cL_law 544 = .ok (.iaload, 1) := by decide +kernel
theorem dL_law_545 : decode cL_law 545 = .ok (.ifCond .eq 7, 3) := by decide +kernel
theorem dL_law_548 : decode cL_law 548 = .ok (.iconst 1, 1) := by decide +kernel
theorem dL_law_549 : decode cL_law 549 = .ok (.goto 4, 3) := by decide +kernel
theorem dL_law_552 : decode cL_law 552 = .ok (.iconst 0, 1) := by decide +kernel
theorem dL_law_553 : decode cL_law 553 = .ok (.invokestatic 95, 3) := by decide +kernel
theorem dL_law_556 : decode cL_law 556 = .ok (.istore 5, 2) := by decide +kernel
theorem dL_law_558 : decode cL_law 558 = .ok (.aload_n 2, 1) := by decide +kernel
theorem dL_law_559 : decode cL_law 559 = .ok (.aload_n 0, 1) := by decide +kernel
theorem dL_law_560 : decode cL_law 560 = .ok (.iload 4, 2) := by decide +kernel
theorem dL_law_562 : decode cL_law 562 = .ok (.iconst 1, 1) := by decide +kernel
theorem dL_law_563 : decode cL_law 563 = .ok (.iadd, 1) := by decide +kernel
theorem dL_law_564 : decode cL_law 564 = .ok (.iaload, 1) := by decide +kernel
theorem dL_law_565 : decode cL_law 565 = .ok (.aload_n 0, 1) := by decide +kernel
theorem dL_law_566 : decode cL_law 566 = .ok (.iload 4, 2) := by decide +kernel
theorem dL_law_568 : decode cL_law 568 = .ok (.iconst 2, 1) := by decide +kernel
theorem dL_law_569 : decode cL_law 569 = .ok (.iadd, 1) := by decide +kernel
theorem dL_law_570 : decode cL_law 570 = .ok (.iaload, 1) := by decide +kernel
theorem dL_law_571 : decode cL_law 571 = .ok (.ifCond .eq 7, 3) := by decide +kernel
theorem dL_law_574 : decode cL_law 574 = .ok (.iconst 1, 1) := by decide +kernel
theorem dL_law_575 : decode cL_law 575 = .ok (.goto 4, 3) := by decide +kernel
theorem dL_law_578 : decode cL_law 578 = .ok (.iconst 0, 1) := by decide +kernel
theorem dL_law_579 : decode cL_law 579 = .ok (.invokevirtual 98, 3) := by decide +kernel
theorem dL_law_582 : decode cL_law 582 = .ok (.aload_n 2, 1) := by decide +kernel
theorem dL_law_583 : decode cL_law 583 = .ok (.invokevirtual 73, 3) := by decide +kernel
theorem dL_law_586 : decode cL_law 586 = .ok (.iload 5, 2) := by decide +kernel
theorem dL_law_588 : decode cL_law 588 = .ok (.if_icmp .eq 5, 3) := by decide +kernel
theorem dL_law_591 : decode cL_law 591 = .ok (.iconst 0, 1) := by decide +kernel
theorem dL_law_592 : decode cL_law 592 = .ok (.ireturn, 1) := by decide +kernel
theorem dL_law_593 : decode cL_law 593 = .ok (.goto 513, 3) := by decide +kernel
theorem dL_law_596 : decode cL_law 596 = .ok (.aload_n 1, 1) := by decide +kernel
theorem dL_law_597 : decode cL_law 597 = .ok (.aload_n 0, 1) := by decide +kernel
theorem dL_law_598 : decode cL_law 598 = .ok (.iload 4, 2) := by decide +kernel
theorem dL_law_600 : decode cL_law 600 = .ok (.iconst 1, 1) := by decide +kernel
theorem dL_law_601 : decode cL_law 601 = .ok (.iadd, 1) := by decide +kernel
theorem dL_law_602 : decode cL_law 602 = .ok (.iaload, 1) := by decide +kernel
theorem dL_law_603 : decode cL_law 603 = .ok (.aload_n 0, 1) := by decide +kernel
theorem dL_law_604 : decode cL_law 604 = .ok (.iload 4, 2) := by decide +kernel
theorem dL_law_606 : decode cL_law 606 = .ok (.iconst 2, 1) := by decide +kernel
theorem dL_law_607 : decode cL_law 607 = .ok (.iadd, 1) := by decide +kernel
theorem dL_law_608 : decode cL_law 608 = .ok (.iaload, 1) := by decide +kernel
theorem dL_law_609 : decode cL_law 609 = .ok (.aload_n 0, 1) := by decide +kernel
theorem dL_law_610 : decode cL_law 610 = .ok (.iload 4, 2) := by decide +kernel
theorem dL_law_612 : decode cL_law 612 = .ok (.iconst 3, 1) := by decide +kernel
theorem dL_law_613 : decode cL_law 613 = .ok (.iadd, 1) := by decide +kernel
theorem dL_law_614 : decode cL_law 614 = .ok (.iaload, 1) := by decide +kernel
theorem dL_law_615 : decode cL_law 615 = .ok (.invokestatic 99, 3) := by decide +kernel
theorem dL_law_618 : decode cL_law 618 = .ok (.istore 5, 2) := by decide +kernel
theorem dL_law_620 : decode cL_law 620 = .ok (.aload_n 2, 1) := by decide +kernel
theorem dL_law_621 : decode cL_law 621 = .ok (.aload_n 0, 1) := by decide +kernel
theorem dL_law_622 : decode cL_law 622 = .ok (.iload 4, 2) := by decide +kernel
theorem dL_law_624 : decode cL_law 624 = .ok (.iconst 1, 1) := by decide +kernel
theorem dL_law_625 : decode cL_law 625 = .ok (.iadd, 1) := by decide +kernel
theorem dL_law_626 : decode cL_law 626 = .ok (.iaload, 1) := by decide +kernel
theorem dL_law_627 : decode cL_law 627 = .ok (.aload_n 0, 1) := by decide +kernel
theorem dL_law_628 : decode cL_law 628 = .ok (.iload 4, 2) := by decide +kernel
theorem dL_law_630 : decode cL_law 630 = .ok (.iconst 2, 1) := by decide +kernel
theorem dL_law_631 : decode cL_law 631 = .ok (.iadd, 1) := by decide +kernel
theorem dL_law_632 : decode cL_law 632 = .ok (.iaload, 1) := by decide +kernel
theorem dL_law_633 : decode cL_law 633 = .ok (.aload_n 0, 1) := by decide +kernel
theorem dL_law_634 : decode cL_law 634 = .ok (.iload 4, 2) := by decide +kernel
theorem dL_law_636 : decode cL_law 636 = .ok (.iconst 3, 1) := by decide +kernel
theorem dL_law_637 : decode cL_law 637 = .ok (.iadd, 1) := by decide +kernel
theorem dL_law_638 : decode cL_law 638 = .ok (.iaload, 1) := by decide +kernel
theorem dL_law_639 : decode cL_law 639 = .ok (.invokevirtual 102, 3) := by decide +kernel
theorem dL_law_642 : decode cL_law 642 = .ok (.aload_n 2, 1) := by decide +kernel
theorem dL_law_643 : decode cL_law 643 = .ok (.invokevirtual 73, 3) := by decide +kernel
theorem dL_law_646 : decode cL_law 646 = .ok (.iload 5, 2) := by decide +kernel
theorem dL_law_648 : decode cL_law 648 = .ok (.if_icmp .eq 5, 3) := by decide +kernel
theorem dL_law_651 : decode cL_law 651 = .ok (.iconst 0, 1) := by decide +kernel
theorem dL_law_652 : decode cL_law 652 = .ok (.ireturn, 1) := by decide +kernel
theorem dL_law_653 : decode cL_law 653 = .ok (.goto 453, 3) := by decide +kernel
theorem dL_law_656 : decode cL_law 656 = .ok (.aload_n 1, 1) := by decide +kernel
theorem dL_law_657 : decode cL_law 657 = .ok (.aload_n 0, 1) := by decide +kernel
theorem dL_law_658 : decode cL_law 658 = .ok (.iload 4, 2) := by decide +kernel
theorem dL_law_660 : decode cL_law 660 = .ok (.iconst 1, 1) := by decide +kernel
theorem dL_law_661 : decode cL_law 661 = .ok (.iadd, 1) := by decide +kernel
theorem dL_law_662 : decode cL_law 662 = .ok (.iaload, 1) := by decide +kernel
theorem dL_law_663 : decode cL_law 663 = .ok (.aload_n 3, 1) := by decide +kernel
theorem dL_law_664 : decode cL_law 664 = .ok (.invokestatic 103, 3) := by decide +kernel
theorem dL_law_667 : decode cL_law 667 = .ok (.istore 5, 2) := by decide +kernel
theorem dL_law_669 : decode cL_law 669 = .ok (.aload_n 2, 1) := by decide +kernel
theorem dL_law_670 : decode cL_law 670 = .ok (.aload_n 0, 1) := by decide +kernel
theorem dL_law_671 : decode cL_law 671 = .ok (.iload 4, 2) := by decide +kernel
theorem dL_law_673 : decode cL_law 673 = .ok (.iconst 1, 1) := by decide +kernel
theorem dL_law_674 : decode cL_law 674 = .ok (.iadd, 1) := by decide +kernel
theorem dL_law_675 : decode cL_law 675 = .ok (.iaload, 1) := by decide +kernel
theorem dL_law_676 : decode cL_law 676 = .ok (.invokevirtual 106, 3) := by decide +kernel
theorem dL_law_679 : decode cL_law 679 = .ok (.istore 6, 2) := by decide +kernel
theorem dL_law_681 : decode cL_law 681 = .ok (.aload_n 2, 1) := by decide +kernel
theorem dL_law_682 : decode cL_law 682 = .ok (.invokevirtual 73, 3) := by decide +kernel
theorem dL_law_685 : decode cL_law 685 = .ok (.iload 5, 2) := by decide +kernel
theorem dL_law_687 : decode cL_law 687 = .ok (.if_icmp .eq 5, 3) := by decide +kernel
theorem dL_law_690 : decode cL_law 690 = .ok (.iconst 0, 1) := by decide +kernel
theorem dL_law_691 : decode cL_law 691 = .ok (.ireturn, 1) := by decide +kernel
theorem dL_law_692 : decode cL_law 692 = .ok (.iload 5, 2) := by decide +kernel
theorem dL_law_694 : decode cL_law 694 = .ok (.ifCond .ne 15, 3) := by decide +kernel
theorem dL_law_697 : decode cL_law 697 = .ok (.aload_n 3, 1) := by decide +kernel
theorem dL_law_698 : decode cL_law 698 = .ok (.iconst 0, 1) := by decide +kernel
theorem dL_law_699 : decode cL_law 699 = .ok (.laload, 1) := by decide +kernel
theorem dL_law_700 : decode cL_law 700 = .ok (.iload 6, 2) := by decide +kernel
theorem dL_law_702 : decode cL_law 702 = .ok (.i2l, 1) := by decide +kernel
theorem dL_law_703 : decode cL_law 703 = .ok (.lcmp, 1) := by decide +kernel
theorem dL_law_704 : decode cL_law 704 = .ok (.ifCond .eq 5, 3) := by decide +kernel
theorem dL_law_707 : decode cL_law 707 = .ok (.iconst 0, 1) := by decide +kernel
theorem dL_law_708 : decode cL_law 708 = .ok (.ireturn, 1) := by decide +kernel
theorem dL_law_709 : decode cL_law 709 = .ok (.goto 397, 3) := by decide +kernel
theorem dL_law_712 : decode cL_law 712 = .ok (.aload_n 1, 1) := by decide +kernel
theorem dL_law_713 : decode cL_law 713 = .ok (.aload_n 0, 1) := by decide +kernel
theorem dL_law_714 : decode cL_law 714 = .ok (.iload 4, 2) := by decide +kernel
theorem dL_law_716 : decode cL_law 716 = .ok (.iconst 1, 1) := by decide +kernel
theorem dL_law_717 : decode cL_law 717 = .ok (.iadd, 1) := by decide +kernel
theorem dL_law_718 : decode cL_law 718 = .ok (.iaload, 1) := by decide +kernel
theorem dL_law_719 : decode cL_law 719 = .ok (.aload_n 0, 1) := by decide +kernel
theorem dL_law_720 : decode cL_law 720 = .ok (.iload 4, 2) := by decide +kernel
theorem dL_law_722 : decode cL_law 722 = .ok (.iconst 2, 1) := by decide +kernel
theorem dL_law_723 : decode cL_law 723 = .ok (.iadd, 1) := by decide +kernel
theorem dL_law_724 : decode cL_law 724 = .ok (.iaload, 1) := by decide +kernel
theorem dL_law_725 : decode cL_law 725 = .ok (.aload_n 0, 1) := by decide +kernel
theorem dL_law_726 : decode cL_law 726 = .ok (.iload 4, 2) := by decide +kernel
theorem dL_law_728 : decode cL_law 728 = .ok (.iconst 3, 1) := by decide +kernel
theorem dL_law_729 : decode cL_law 729 = .ok (.iadd, 1) := by decide +kernel
theorem dL_law_730 : decode cL_law 730 = .ok (.iaload, 1) := by decide +kernel
theorem dL_law_731 : decode cL_law 731 = .ok (.aload_n 0, 1) := by decide +kernel
theorem dL_law_732 : decode cL_law 732 = .ok (.iload 4, 2) := by decide +kernel
theorem dL_law_734 : decode cL_law 734 = .ok (.iconst 4, 1) := by decide +kernel
theorem dL_law_735 : decode cL_law 735 = .ok (.iadd, 1) := by decide +kernel
theorem dL_law_736 : decode cL_law 736 = .ok (.iaload, 1) := by decide +kernel
theorem dL_law_737 : decode cL_law 737 = .ok (.aload_n 3, 1) := by decide +kernel
theorem dL_law_738 : decode cL_law 738 = .ok (.invokestatic 107, 3) := by decide +kernel
theorem dL_law_741 : decode cL_law 741 = .ok (.istore 5, 2) := by decide +kernel
theorem dL_law_743 : decode cL_law 743 = .ok (.aload_n 2, 1) := by decide +kernel
theorem dL_law_744 : decode cL_law 744 = .ok (.aload_n 0, 1) := by decide +kernel
theorem dL_law_745 : decode cL_law 745 = .ok (.iload 4, 2) := by decide +kernel
theorem dL_law_747 : decode cL_law 747 = .ok (.iconst 1, 1) := by decide +kernel
theorem dL_law_748 : decode cL_law 748 = .ok (.iadd, 1) := by decide +kernel
theorem dL_law_749 : decode cL_law 749 = .ok (.iaload, 1) := by decide +kernel
theorem dL_law_750 : decode cL_law 750 = .ok (.aload_n 0, 1) := by decide +kernel
theorem dL_law_751 : decode cL_law 751 = .ok (.iload 4, 2) := by decide +kernel
theorem dL_law_753 : decode cL_law 753 = .ok (.iconst 2, 1) := by decide +kernel
theorem dL_law_754 : decode cL_law 754 = .ok (.iadd, 1) := by decide +kernel
theorem dL_law_755 : decode cL_law 755 = .ok (.iaload, 1) := by decide +kernel
theorem dL_law_756 : decode cL_law 756 = .ok (.aload_n 0, 1) := by decide +kernel
theorem dL_law_757 : decode cL_law 757 = .ok (.iload 4, 2) := by decide +kernel
theorem dL_law_759 : decode cL_law 759 = .ok (.iconst 3, 1) := by decide +kernel
theorem dL_law_760 : decode cL_law 760 = .ok (.iadd, 1) := by decide +kernel
theorem dL_law_761 : decode cL_law 761 = .ok (.iaload, 1) := by decide +kernel
theorem dL_law_762 : decode cL_law 762 = .ok (.aload_n 0, 1) := by decide +kernel
theorem dL_law_763 : decode cL_law 763 = .ok (.iload 4, 2) := by decide +kernel
theorem dL_law_765 : decode cL_law 765 = .ok (.iconst 4, 1) := by decide +kernel
theorem dL_law_766 : decode cL_law 766 = .ok (.iadd, 1) := by decide +kernel
theorem dL_law_767 : decode cL_law 767 = .ok (.iaload, 1) := by decide +kernel
theorem dL_law_768 : decode cL_law 768 = .ok (.invokevirtual 110, 3) := by decide +kernel
theorem dL_law_771 : decode cL_law 771 = .ok (.istore 6, 2) := by decide +kernel
theorem dL_law_773 : decode cL_law 773 = .ok (.aload_n 2, 1) := by decide +kernel
theorem dL_law_774 : decode cL_law 774 = .ok (.invokevirtual 73, 3) := by decide +kernel
theorem dL_law_777 : decode cL_law 777 = .ok (.iload 5, 2) := by decide +kernel
theorem dL_law_779 : decode cL_law 779 = .ok (.if_icmp .eq 5, 3) := by decide +kernel
theorem dL_law_782 : decode cL_law 782 = .ok (.iconst 0, 1) := by decide +kernel
theorem dL_law_783 : decode cL_law 783 = .ok (.ireturn, 1) := by decide +kernel
theorem dL_law_784 : decode cL_law 784 = .ok (.iload 5, 2) := by decide +kernel
theorem dL_law_786 : decode cL_law 786 = .ok (.ifCond .ne 15, 3) := by decide +kernel
theorem dL_law_789 : decode cL_law 789 = .ok (.aload_n 3, 1) := by decide +kernel
theorem dL_law_790 : decode cL_law 790 = .ok (.iconst 0, 1) := by decide +kernel
theorem dL_law_791 : decode cL_law 791 = .ok (.laload, 1) := by decide +kernel
theorem dL_law_792 : decode cL_law 792 = .ok (.iload 6, 2) := by decide +kernel
theorem dL_law_794 : decode cL_law 794 = .ok (.i2l, 1) := by decide +kernel
theorem dL_law_795 : decode cL_law 795 = .ok (.lcmp, 1) := by decide +kernel
theorem dL_law_796 : decode cL_law 796 = .ok (.ifCond .eq 5, 3) := by decide +kernel
theorem dL_law_799 : decode cL_law 799 = .ok (.iconst 0, 1) := by decide +kernel
theorem dL_law_800 : decode cL_law 800 = .ok (.ireturn, 1) := by decide +kernel
theorem dL_law_801 : decode cL_law 801 = .ok (.goto 305, 3) := by decide +kernel
theorem dL_law_804 : decode cL_law 804 = .ok (.aload_n 1, 1) := by decide +kernel
theorem dL_law_805 : decode cL_law 805 = .ok (.aload_n 0, 1) := by decide +kernel
theorem dL_law_806 : decode cL_law 806 = .ok (.iload 4, 2) := by decide +kernel
theorem dL_law_808 : decode cL_law 808 = .ok (.iconst 1, 1) := by decide +kernel
theorem dL_law_809 : decode cL_law 809 = .ok (.iadd, 1) := by decide +kernel
theorem dL_law_810 : decode cL_law 810 = .ok (.iaload, 1) := by decide +kernel
theorem dL_law_811 : decode cL_law 811 = .ok (.aload_n 0, 1) := by decide +kernel
theorem dL_law_812 : decode cL_law 812 = .ok (.iload 4, 2) := by decide +kernel
theorem dL_law_814 : decode cL_law 814 = .ok (.iconst 2, 1) := by decide +kernel
theorem dL_law_815 : decode cL_law 815 = .ok (.iadd, 1) := by decide +kernel
theorem dL_law_816 : decode cL_law 816 = .ok (.iaload, 1) := by decide +kernel
theorem dL_law_817 : decode cL_law 817 = .ok (.aload_n 0, 1) := by decide +kernel
theorem dL_law_818 : decode cL_law 818 = .ok (.iload 4, 2) := by decide +kernel
theorem dL_law_820 : decode cL_law 820 = .ok (.iconst 3, 1) := by decide +kernel
theorem dL_law_821 : decode cL_law 821 = .ok (.iadd, 1) := by decide +kernel
theorem dL_law_822 : decode cL_law 822 = .ok (.iaload, 1) := by decide +kernel
theorem dL_law_823 : decode cL_law 823 = .ok (.aload_n 3, 1) := by decide +kernel
theorem dL_law_824 : decode cL_law 824 = .ok (.invokestatic 111, 3) := by decide +kernel
theorem dL_law_827 : decode cL_law 827 = .ok (.istore 5, 2) := by decide +kernel
theorem dL_law_829 : decode cL_law 829 = .ok (.aload_n 2, 1) := by decide +kernel
theorem dL_law_830 : decode cL_law 830 = .ok (.aload_n 0, 1) := by decide +kernel
theorem dL_law_831 : decode cL_law 831 = .ok (.iload 4, 2) := by decide +kernel
theorem dL_law_833 : decode cL_law 833 = .ok (.iconst 1, 1) := by decide +kernel
theorem dL_law_834 : decode cL_law 834 = .ok (.iadd, 1) := by decide +kernel
theorem dL_law_835 : decode cL_law 835 = .ok (.iaload, 1) := by decide +kernel
theorem dL_law_836 : decode cL_law 836 = .ok (.aload_n 0, 1) := by decide +kernel
theorem dL_law_837 : decode cL_law 837 = .ok (.iload 4, 2) := by decide +kernel
theorem dL_law_839 : decode cL_law 839 = .ok (.iconst 2, 1) := by decide +kernel
theorem dL_law_840 : decode cL_law 840 = .ok (.iadd, 1) := by decide +kernel
theorem dL_law_841 : decode cL_law 841 = .ok (.iaload, 1) := by decide +kernel
theorem dL_law_842 : decode cL_law 842 = .ok (.aload_n 0, 1) := by decide +kernel
theorem dL_law_843 : decode cL_law 843 = .ok (.iload 4, 2) := by decide +kernel
theorem dL_law_845 : decode cL_law 845 = .ok (.iconst 3, 1) := by decide +kernel
theorem dL_law_846 : decode cL_law 846 = .ok (.iadd, 1) := by decide +kernel
theorem dL_law_847 : decode cL_law 847 = .ok (.iaload, 1) := by decide +kernel
theorem dL_law_848 : decode cL_law 848 = .ok (.invokevirtual 114, 3) := by decide +kernel
theorem dL_law_851 : decode cL_law 851 = .ok (.istore 6, 2) := by decide +kernel
theorem dL_law_853 : decode cL_law 853 = .ok (.aload_n 2, 1) := by decide +kernel
theorem dL_law_854 : decode cL_law 854 = .ok (.invokevirtual 73, 3) := by decide +kernel
theorem dL_law_857 : decode cL_law 857 = .ok (.iload 5, 2) := by decide +kernel
theorem dL_law_859 : decode cL_law 859 = .ok (.if_icmp .eq 5, 3) := by decide +kernel
theorem dL_law_862 : decode cL_law 862 = .ok (.iconst 0, 1) := by decide +kernel
theorem dL_law_863 : decode cL_law 863 = .ok (.ireturn, 1) := by decide +kernel
theorem dL_law_864 : decode cL_law 864 = .ok (.iload 5, 2) := by decide +kernel
theorem dL_law_866 : decode cL_law 866 = .ok (.ifCond .ne 15, 3) := by decide +kernel
theorem dL_law_869 : decode cL_law 869 = .ok (.aload_n 3, 1) := by decide +kernel
theorem dL_law_870 : decode cL_law 870 = .ok (.iconst 0, 1) := by decide +kernel
theorem dL_law_871 : decode cL_law 871 = .ok (.laload, 1) := by decide +kernel
theorem dL_law_872 : decode cL_law 872 = .ok (.iload 6, 2) := by decide +kernel
theorem dL_law_874 : decode cL_law 874 = .ok (.i2l, 1) := by decide +kernel
theorem dL_law_875 : decode cL_law 875 = .ok (.lcmp, 1) := by decide +kernel
theorem dL_law_876 : decode cL_law 876 = .ok (.ifCond .eq 5, 3) := by decide +kernel
theorem dL_law_879 : decode cL_law 879 = .ok (.iconst 0, 1) := by decide +kernel
theorem dL_law_880 : decode cL_law 880 = .ok (.ireturn, 1) := by decide +kernel
theorem dL_law_881 : decode cL_law 881 = .ok (.goto 225, 3) := by decide +kernel
theorem dL_law_884 : decode cL_law 884 = .ok (.aload_n 1, 1) := by decide +kernel
theorem dL_law_885 : decode cL_law 885 = .ok (.aload_n 0, 1) := by decide +kernel
theorem dL_law_886 : decode cL_law 886 = .ok (.iload 4, 2) := by decide +kernel
theorem dL_law_888 : decode cL_law 888 = .ok (.iconst 1, 1) := by decide +kernel
theorem dL_law_889 : decode cL_law 889 = .ok (.iadd, 1) := by decide +kernel
theorem dL_law_890 : decode cL_law 890 = .ok (.iaload, 1) := by decide +kernel
theorem dL_law_891 : decode cL_law 891 = .ok (.aload_n 0, 1) := by decide +kernel
theorem dL_law_892 : decode cL_law 892 = .ok (.iload 4, 2) := by decide +kernel
theorem dL_law_894 : decode cL_law 894 = .ok (.iconst 2, 1) := by decide +kernel
theorem dL_law_895 : decode cL_law 895 = .ok (.iadd, 1) := by decide +kernel
theorem dL_law_896 : decode cL_law 896 = .ok (.iaload, 1) := by decide +kernel
theorem dL_law_897 : decode cL_law 897 = .ok (.aload_n 0, 1) := by decide +kernel
theorem dL_law_898 : decode cL_law 898 = .ok (.iload 4, 2) := by decide +kernel
theorem dL_law_900 : decode cL_law 900 = .ok (.iconst 3, 1) := by decide +kernel
theorem dL_law_901 : decode cL_law 901 = .ok (.iadd, 1) := by decide +kernel
theorem dL_law_902 : decode cL_law 902 = .ok (.iaload, 1) := by decide +kernel
theorem dL_law_903 : decode cL_law 903 = .ok (.aload_n 3, 1) := by decide +kernel
theorem dL_law_904 : decode cL_law 904 = .ok (.invokestatic 115, 3) := by decide +kernel
theorem dL_law_907 : decode cL_law 907 = .ok (.istore 5, 2) := by decide +kernel
theorem dL_law_909 : decode cL_law 909 = .ok (.aload_n 2, 1) := by decide +kernel
theorem dL_law_910 : decode cL_law 910 = .ok (.aload_n 0, 1) := by decide +kernel
theorem dL_law_911 : decode cL_law 911 = .ok (.iload 4, 2) := by decide +kernel
theorem dL_law_913 : decode cL_law 913 = .ok (.iconst 1, 1) := by decide +kernel
theorem dL_law_914 : decode cL_law 914 = .ok (.iadd, 1) := by decide +kernel
theorem dL_law_915 : decode cL_law 915 = .ok (.iaload, 1) := by decide +kernel
theorem dL_law_916 : decode cL_law 916 = .ok (.aload_n 0, 1) := by decide +kernel
theorem dL_law_917 : decode cL_law 917 = .ok (.iload 4, 2) := by decide +kernel
theorem dL_law_919 : decode cL_law 919 = .ok (.iconst 2, 1) := by decide +kernel
theorem dL_law_920 : decode cL_law 920 = .ok (.iadd, 1) := by decide +kernel
theorem dL_law_921 : decode cL_law 921 = .ok (.iaload, 1) := by decide +kernel
theorem dL_law_922 : decode cL_law 922 = .ok (.aload_n 0, 1) := by decide +kernel
theorem dL_law_923 : decode cL_law 923 = .ok (.iload 4, 2) := by decide +kernel
theorem dL_law_925 : decode cL_law 925 = .ok (.iconst 3, 1) := by decide +kernel
theorem dL_law_926 : decode cL_law 926 = .ok (.iadd, 1) := by decide +kernel
theorem dL_law_927 : decode cL_law 927 = .ok (.iaload, 1) := by decide +kernel
theorem dL_law_928 : decode cL_law 928 = .ok (.invokevirtual 117, 3) := by decide +kernel
theorem dL_law_931 : decode cL_law 931 = .ok (.istore 6, 2) := by decide +kernel
theorem dL_law_933 : decode cL_law 933 = .ok (.aload_n 2, 1) := by decide +kernel
theorem dL_law_934 : decode cL_law 934 = .ok (.invokevirtual 73, 3) := by decide +kernel
theorem dL_law_937 : decode cL_law 937 = .ok (.iload 5, 2) := by decide +kernel
theorem dL_law_939 : decode cL_law 939 = .ok (.if_icmp .eq 5, 3) := by decide +kernel
theorem dL_law_942 : decode cL_law 942 = .ok (.iconst 0, 1) := by decide +kernel
theorem dL_law_943 : decode cL_law 943 = .ok (.ireturn, 1) := by decide +kernel
theorem dL_law_944 : decode cL_law 944 = .ok (.iload 5, 2) := by decide +kernel
theorem dL_law_946 : decode cL_law 946 = .ok (.ifCond .ne 15, 3) := by decide +kernel
theorem dL_law_949 : decode cL_law 949 = .ok (.aload_n 3, 1) := by decide +kernel
theorem dL_law_950 : decode cL_law 950 = .ok (.iconst 0, 1) := by decide +kernel
theorem dL_law_951 : decode cL_law 951 = .ok (.laload, 1) := by decide +kernel
theorem dL_law_952 : decode cL_law 952 = .ok (.iload 6, 2) := by decide +kernel
theorem dL_law_954 : decode cL_law 954 = .ok (.i2l, 1) := by decide +kernel
theorem dL_law_955 : decode cL_law 955 = .ok (.lcmp, 1) := by decide +kernel
theorem dL_law_956 : decode cL_law 956 = .ok (.ifCond .eq 5, 3) := by decide +kernel
theorem dL_law_959 : decode cL_law 959 = .ok (.iconst 0, 1) := by decide +kernel
theorem dL_law_960 : decode cL_law 960 = .ok (.ireturn, 1) := by decide +kernel
theorem dL_law_961 : decode cL_law 961 = .ok (.goto 145, 3) := by decide +kernel
theorem dL_law_964 : decode cL_law 964 = .ok (.aload_n 1, 1) := by decide +kernel
theorem dL_law_965 : decode cL_law 965 = .ok (.aload_n 0, 1) := by decide +kernel
theorem dL_law_966 : decode cL_law 966 = .ok (.iload 4, 2) := by decide +kernel
theorem dL_law_968 : decode cL_law 968 = .ok (.iconst 1, 1) := by decide +kernel
theorem dL_law_969 : decode cL_law 969 = .ok (.iadd, 1) := by decide +kernel
theorem dL_law_970 : decode cL_law 970 = .ok (.iaload, 1) := by decide +kernel
theorem dL_law_971 : decode cL_law 971 = .ok (.aload_n 0, 1) := by decide +kernel
theorem dL_law_972 : decode cL_law 972 = .ok (.iload 4, 2) := by decide +kernel
theorem dL_law_974 : decode cL_law 974 = .ok (.iconst 2, 1) := by decide +kernel
theorem dL_law_975 : decode cL_law 975 = .ok (.iadd, 1) := by decide +kernel
theorem dL_law_976 : decode cL_law 976 = .ok (.iaload, 1) := by decide +kernel
theorem dL_law_977 : decode cL_law 977 = .ok (.aload_n 3, 1) := by decide +kernel
theorem dL_law_978 : decode cL_law 978 = .ok (.invokestatic 118, 3) := by decide +kernel
theorem dL_law_981 : decode cL_law 981 = .ok (.istore 5, 2) := by decide +kernel
theorem dL_law_983 : decode cL_law 983 = .ok (.aload_n 2, 1) := by decide +kernel
theorem dL_law_984 : decode cL_law 984 = .ok (.aload_n 0, 1) := by decide +kernel
theorem dL_law_985 : decode cL_law 985 = .ok (.iload 4, 2) := by decide +kernel
theorem dL_law_987 : decode cL_law 987 = .ok (.iconst 1, 1) := by decide +kernel
theorem dL_law_988 : decode cL_law 988 = .ok (.iadd, 1) := by decide +kernel
theorem dL_law_989 : decode cL_law 989 = .ok (.iaload, 1) := by decide +kernel
theorem dL_law_990 : decode cL_law 990 = .ok (.aload_n 0, 1) := by decide +kernel
theorem dL_law_991 : decode cL_law 991 = .ok (.iload 4, 2) := by decide +kernel
theorem dL_law_993 : decode cL_law 993 = .ok (.iconst 2, 1) := by decide +kernel
theorem dL_law_994 : decode cL_law 994 = .ok (.iadd, 1) := by decide +kernel
theorem dL_law_995 : decode cL_law 995 = .ok (.iaload, 1) := by decide +kernel
theorem dL_law_996 : decode cL_law 996 = .ok (.invokevirtual 120, 3) := by decide +kernel
theorem dL_law_999 : decode cL_law 999 = .ok (.istore 6, 2) := by decide +kernel
theorem dL_law_1001 : decode cL_law 1001 = .ok (.aload_n 2, 1) := by decide +kernel
theorem dL_law_1002 : decode cL_law 1002 = .ok (.invokevirtual 73, 3) := by decide +kernel
theorem dL_law_1005 : decode cL_law 1005 = .ok (.iload 5, 2) := by decide +kernel
theorem dL_law_1007 : decode cL_law 1007 = .ok (.if_icmp .eq 5, 3) := by decide +kernel
theorem dL_law_1010 : decode cL_law 1010 = .ok (.iconst 0, 1) := by decide +kernel
theorem dL_law_1011 : decode cL_law 1011 = .ok (.ireturn, 1) := by decide +kernel
theorem dL_law_1012 : decode cL_law 1012 = .ok (.iload 5, 2) := by decide +kernel
theorem dL_law_1014 : decode cL_law 1014 = .ok (.ifCond .ne 15, 3) := by decide +kernel
theorem dL_law_1017 : decode cL_law 1017 = .ok (.aload_n 3, 1) := by decide +kernel
theorem dL_law_1018 : decode cL_law 1018 = .ok (.iconst 0, 1) := by decide +kernel
theorem dL_law_1019 : decode cL_law 1019 = .ok (.laload, 1) := by decide +kernel
theorem dL_law_1020 : decode cL_law 1020 = .ok (.iload 6, 2) := by decide +kernel
theorem dL_law_1022 : decode cL_law 1022 = .ok (.i2l, 1) := by decide +kernel
theorem dL_law_1023 : decode cL_law 1023 = .ok (.lcmp, 1) := by decide +kernel
theorem dL_law_1024 : decode cL_law 1024 = .ok (.ifCond .eq 5, 3) := by decide +kernel
theorem dL_law_1027 : decode cL_law 1027 = .ok (.iconst 0, 1) := by decide +kernel
theorem dL_law_1028 : decode cL_law 1028 = .ok (.ireturn, 1) := by decide +kernel
theorem dL_law_1029 : decode cL_law 1029 = .ok (.goto 77, 3) := by decide +kernel
theorem dL_law_1032 : decode cL_law 1032 = .ok (.aload_n 1, 1) := by decide +kernel
theorem dL_law_1033 : decode cL_law 1033 = .ok (.aload_n 0, 1) := by decide +kernel
theorem dL_law_1034 : decode cL_law 1034 = .ok (.iload 4, 2) := by decide +kernel
theorem dL_law_1036 : decode cL_law 1036 = .ok (.iconst 1, 1) := by decide +kernel
theorem dL_law_1037 : decode cL_law 1037 = .ok (.iadd, 1) := by decide +kernel
theorem dL_law_1038 : decode cL_law 1038 = .ok (.iaload, 1) := by decide +kernel
theorem dL_law_1039 : decode cL_law 1039 = .ok (.aload_n 0, 1) := by decide +kernel
theorem dL_law_1040 : decode cL_law 1040 = .ok (.iload 4, 2) := by decide +kernel
theorem dL_law_1042 : decode cL_law 1042 = .ok (.iconst 2, 1) := by decide +kernel
theorem dL_law_1043 : decode cL_law 1043 = .ok (.iadd, 1) := by decide +kernel
theorem dL_law_1044 : decode cL_law 1044 = .ok (.iaload, 1) := by decide +kernel
theorem dL_law_1045 : decode cL_law 1045 = .ok (.aload_n 0, 1) := by decide +kernel
theorem dL_law_1046 : decode cL_law 1046 = .ok (.iload 4, 2) := by decide +kernel
theorem dL_law_1048 : decode cL_law 1048 = .ok (.iconst 3, 1) := by decide +kernel
theorem dL_law_1049 : decode cL_law 1049 = .ok (.iadd, 1) := by decide +kernel
theorem dL_law_1050 : decode cL_law 1050 = .ok (.iaload, 1) := by decide +kernel
theorem dL_law_1051 : decode cL_law 1051 = .ok (.invokevirtual 121, 3) := by decide +kernel
theorem dL_law_1054 : decode cL_law 1054 = .ok (.aload_n 2, 1) := by decide +kernel
theorem dL_law_1055 : decode cL_law 1055 = .ok (.aload_n 0, 1) := by decide +kernel
theorem dL_law_1056 : decode cL_law 1056 = .ok (.iload 4, 2) := by decide +kernel
theorem dL_law_1058 : decode cL_law 1058 = .ok (.iconst 1, 1) := by decide +kernel
theorem dL_law_1059 : decode cL_law 1059 = .ok (.iadd, 1) := by decide +kernel
theorem dL_law_1060 : decode cL_law 1060 = .ok (.iaload, 1) := by decide +kernel
theorem dL_law_1061 : decode cL_law 1061 = .ok (.aload_n 0, 1) := by decide +kernel
theorem dL_law_1062 : decode cL_law 1062 = .ok (.iload 4, 2) := by decide +kernel
theorem dL_law_1064 : decode cL_law 1064 = .ok (.iconst 2, 1) := by decide +kernel
theorem dL_law_1065 : decode cL_law 1065 = .ok (.iadd, 1) := by decide +kernel
theorem dL_law_1066 : decode cL_law 1066 = .ok (.iaload, 1) := by decide +kernel
theorem dL_law_1067 : decode cL_law 1067 = .ok (.aload_n 0, 1) := by decide +kernel
theorem dL_law_1068 : decode cL_law 1068 = .ok (.iload 4, 2) := by decide +kernel
theorem dL_law_1070 : decode cL_law 1070 = .ok (.iconst 3, 1) := by decide +kernel
theorem dL_law_1071 : decode cL_law 1071 = .ok (.iadd, 1) := by decide +kernel
theorem dL_law_1072 : decode cL_law 1072 = .ok (.iaload, 1) := by decide +kernel
theorem dL_law_1073 : decode cL_law 1073 = .ok (.invokevirtual 124, 3) := by decide +kernel
theorem dL_law_1076 : decode cL_law 1076 = .ok (.if_icmp .eq 30, 3) := by decide +kernel
theorem dL_law_1079 : decode cL_law 1079 = .ok (.iconst 0, 1) := by decide +kernel
theorem dL_law_1080 : decode cL_law 1080 = .ok (.ireturn, 1) := by decide +kernel
theorem dL_law_1081 : decode cL_law 1081 = .ok (.aload_n 1, 1) := by decide +kernel
theorem dL_law_1082 : decode cL_law 1082 = .ok (.aload_n 0, 1) := by decide +kernel
theorem dL_law_1083 : decode cL_law 1083 = .ok (.iload 4, 2) := by decide +kernel
theorem dL_law_1085 : decode cL_law 1085 = .ok (.iconst 1, 1) := by decide +kernel
theorem dL_law_1086 : decode cL_law 1086 = .ok (.iadd, 1) := by decide +kernel
theorem dL_law_1087 : decode cL_law 1087 = .ok (.iaload, 1) := by decide +kernel
theorem dL_law_1088 : decode cL_law 1088 = .ok (.invokevirtual 125, 3) := by decide +kernel
theorem dL_law_1091 : decode cL_law 1091 = .ok (.aload_n 2, 1) := by decide +kernel
theorem dL_law_1092 : decode cL_law 1092 = .ok (.aload_n 0, 1) := by decide +kernel
theorem dL_law_1093 : decode cL_law 1093 = .ok (.iload 4, 2) := by decide +kernel
theorem dL_law_1095 : decode cL_law 1095 = .ok (.iconst 1, 1) := by decide +kernel
theorem dL_law_1096 : decode cL_law 1096 = .ok (.iadd, 1) := by decide +kernel
theorem dL_law_1097 : decode cL_law 1097 = .ok (.iaload, 1) := by decide +kernel
theorem dL_law_1098 : decode cL_law 1098 = .ok (.invokevirtual 128, 3) := by decide +kernel
theorem dL_law_1101 : decode cL_law 1101 = .ok (.if_icmp .eq 5, 3) := by decide +kernel
theorem dL_law_1104 : decode cL_law 1104 = .ok (.iconst 0, 1) := by decide +kernel
theorem dL_law_1105 : decode cL_law 1105 = .ok (.ireturn, 1) := by decide +kernel
theorem dL_law_1106 : decode cL_law 1106 = .ok (.iinc 4 5, 3) := by decide +kernel
theorem dL_law_1109 : decode cL_law 1109 = .ok (.goto (-1086), 3) := by decide +kernel
theorem dL_law_1112 : decode cL_law 1112 = .ok (.iconst 1, 1) := by decide +kernel
theorem dL_law_1113 : decode cL_law 1113 = .ok (.ireturn, 1) := by decide +kernel
noncomputable def bL_law_0 (sb sL : Nat) (xs : Nat → Int32) (nx : Nat → Kt) : Kt := nO 7 600002 7302232 (du (cC 0 wX7_init 528 6148 600002 7302232 (stA 1 (nO 8 600002 7302232 (du (cC 0 wX8_init 40 82128 600002 7302232 (stA 2 (cI 1 (nA 18 600002 7302232 (stA 3 (cI 0 (stI 4 (nx 23)))))))))))))
noncomputable def bL_law_23 (sb sL : Nat) (xs : Nat → Int32) (nx : Nat → Kt) : Kt := ldI 4 (ldA 0 (sln sb sL (cI 5 (bop (fun x y => x - y) (ifc (fun x y => y < x) (nx 1112) (ldA 0 (ldI 4 (sld sb sL xs (cI 15 (bop (fun x y => x &&& y) (swt 0 14 (fun j => nx (([112, 180, 248, 320, 424, 496, 532, 596, 656, 712, 804, 884, 964, 1032, 1081] : List Nat).getD j 0)) (nx 1106))))))))))))
noncomputable def bL_law_112 (sb sL : Nat) (xs : Nat → Int32) (nx : Nat → Kt) : Kt := ldA 1 (ldA 0 (ldI 4 (cI 1 (bop (fun x y => x + y) (sld sb sL xs (ldA 0 (ldI 4 (cI 2 (bop (fun x y => x + y) (sld sb sL xs (ldA 3 (cS 4 wL_system 1 6 600002 7302232 (stI 5 (ldA 2 (ldA 0 (ldI 4 (cI 1 (bop (fun x y => x + y) (sld sb sL xs (ldA 0 (ldI 4 (cI 2 (bop (fun x y => x + y) (sld sb sL xs (cV 2 8 wX8_system 0 0 600002 7302232 (stI 6 (ldA 2 (cV 0 8 wX8_thrown 0 0 600002 7302232 (ldI 5 (ifc (fun x y => x = y) (nx 160) (cI 0 (rL))))))))))))))))))))))))))))))))
noncomputable def bL_law_160 (sb sL : Nat) (xs : Nat → Int32) (nx : Nat → Kt) : Kt := ldI 5 (ifz (fun x => x = 0) (ldA 3 (cI 0 (aJ (ldI 6 (i2 (lcm (ifz (fun x => x = 0) (nx 177) (cI 0 (rL))))))))) (nx 177))
noncomputable def bL_law_177 (sb sL : Nat) (xs : Nat → Int32) (nx : Nat → Kt) : Kt := nx 1106
noncomputable def bL_law_180 (sb sL : Nat) (xs : Nat → Int32) (nx : Nat → Kt) : Kt := ldA 1 (ldA 0 (ldI 4 (cI 1 (bop (fun x y => x + y) (sld sb sL xs (ldA 0 (ldI 4 (cI 2 (bop (fun x y => x + y) (sld sb sL xs (ldA 3 (cS 4 wL_limit 1 6 600002 7302232 (stI 5 (ldA 2 (ldA 0 (ldI 4 (cI 1 (bop (fun x y => x + y) (sld sb sL xs (ldA 0 (ldI 4 (cI 2 (bop (fun x y => x + y) (sld sb sL xs (cV 2 8 wX8_limit 0 0 600002 7302232 (stI 6 (ldA 2 (cV 0 8 wX8_thrown 0 0 600002 7302232 (ldI 5 (ifc (fun x y => x = y) (nx 228) (cI 0 (rL))))))))))))))))))))))))))))))))
noncomputable def bL_law_228 (sb sL : Nat) (xs : Nat → Int32) (nx : Nat → Kt) : Kt := ldI 5 (ifz (fun x => x = 0) (ldA 3 (cI 0 (aJ (ldI 6 (i2 (lcm (ifz (fun x => x = 0) (nx 245) (cI 0 (rL))))))))) (nx 245))
noncomputable def bL_law_245 (sb sL : Nat) (xs : Nat → Int32) (nx : Nat → Kt) : Kt := nx 1106
noncomputable def bL_law_248 (sb sL : Nat) (xs : Nat → Int32) (nx : Nat → Kt) : Kt := ldA 1 (ldA 0 (ldI 4 (cI 1 (bop (fun x y => x + y) (sld sb sL xs (ldA 0 (ldI 4 (cI 2 (bop (fun x y => x + y) (sld sb sL xs (ldA 0 (ldI 4 (cI 3 (bop (fun x y => x + y) (sld sb sL xs (ldA 0 (ldI 4 (cI 4 (bop (fun x y => x + y) (sld sb sL xs (cS 5 wL_port 1 6 600002 7302232 (stI 5 (ldA 2 (ldA 0 (ldI 4 (cI 1 (bop (fun x y => x + y) (sld sb sL xs (ldA 0 (ldI 4 (cI 2 (bop (fun x y => x + y) (sld sb sL xs (ldA 0 (ldI 4 (cI 3 (bop (fun x y => x + y) (sld sb sL xs (ldA 0 (ldI 4 (cI 4 (bop (fun x y => x + y) (sld sb sL xs (cV 4 8 wX8_port 0 0 600002 7302232 (nx 306)))))))))))))))))))))))))))))))))))))))))))))
noncomputable def bL_law_306 (sb sL : Nat) (xs : Nat → Int32) (nx : Nat → Kt) : Kt := ldA 2 (cV 0 8 wX8_thrown 0 0 600002 7302232 (ldI 5 (ifc (fun x y => x = y) (nx 317) (cI 0 (rL)))))
noncomputable def bL_law_317 (sb sL : Nat) (xs : Nat → Int32) (nx : Nat → Kt) : Kt := nx 1106
noncomputable def bL_law_320 (sb sL : Nat) (xs : Nat → Int32) (nx : Nat → Kt) : Kt := ldA 1 (ldA 0 (ldI 4 (cI 1 (bop (fun x y => x + y) (sld sb sL xs (ldA 0 (ldI 4 (cI 2 (bop (fun x y => x + y) (sld sb sL xs (ldA 0 (ldI 4 (cI 3 (bop (fun x y => x + y) (sld sb sL xs (ifz (fun x => x = 0) (nx 346) (cI 1 (nx 347))))))))))))))))))
noncomputable def bL_law_346 (sb sL : Nat) (xs : Nat → Int32) (nx : Nat → Kt) : Kt := cI 0 (nx 347)
noncomputable def bL_law_347 (sb sL : Nat) (xs : Nat → Int32) (nx : Nat → Kt) : Kt := ldA 0 (ldI 4 (cI 4 (bop (fun x y => x + y) (sld sb sL xs (ifz (fun x => x = 0) (nx 360) (cI 1 (nx 361)))))))
noncomputable def bL_law_360 (sb sL : Nat) (xs : Nat → Int32) (nx : Nat → Kt) : Kt := cI 0 (nx 361)
noncomputable def bL_law_361 (sb sL : Nat) (xs : Nat → Int32) (nx : Nat → Kt) : Kt := cS 5 wL_manner 1 6 600002 7302232 (stI 5 (ldA 2 (ldA 0 (ldI 4 (cI 1 (bop (fun x y => x + y) (sld sb sL xs (ldA 0 (ldI 4 (cI 2 (bop (fun x y => x + y) (sld sb sL xs (ldA 0 (ldI 4 (cI 3 (bop (fun x y => x + y) (sld sb sL xs (ifz (fun x => x = 0) (nx 392) (cI 1 (nx 393))))))))))))))))))))
noncomputable def bL_law_392 (sb sL : Nat) (xs : Nat → Int32) (nx : Nat → Kt) : Kt := cI 0 (nx 393)
noncomputable def bL_law_393 (sb sL : Nat) (xs : Nat → Int32) (nx : Nat → Kt) : Kt := ldA 0 (ldI 4 (cI 4 (bop (fun x y => x + y) (sld sb sL xs (ifz (fun x => x = 0) (nx 406) (cI 1 (nx 407)))))))
noncomputable def bL_law_406 (sb sL : Nat) (xs : Nat → Int32) (nx : Nat → Kt) : Kt := cI 0 (nx 407)
noncomputable def bL_law_407 (sb sL : Nat) (xs : Nat → Int32) (nx : Nat → Kt) : Kt := cV 4 8 wX8_manner 0 0 600002 7302232 (ldA 2 (cV 0 8 wX8_thrown 0 0 600002 7302232 (ldI 5 (ifc (fun x y => x = y) (nx 421) (cI 0 (rL))))))
noncomputable def bL_law_421 (sb sL : Nat) (xs : Nat → Int32) (nx : Nat → Kt) : Kt := nx 1106
noncomputable def bL_law_424 (sb sL : Nat) (xs : Nat → Int32) (nx : Nat → Kt) : Kt := ldA 1 (ldA 0 (ldI 4 (cI 1 (bop (fun x y => x + y) (sld sb sL xs (ldA 0 (ldI 4 (cI 2 (bop (fun x y => x + y) (sld sb sL xs (ldA 0 (ldI 4 (cI 3 (bop (fun x y => x + y) (sld sb sL xs (ldA 0 (ldI 4 (cI 4 (bop (fun x y => x + y) (sld sb sL xs (cS 5 wL_plug 1 6 600002 7302232 (stI 5 (ldA 2 (ldA 0 (ldI 4 (cI 1 (bop (fun x y => x + y) (sld sb sL xs (ldA 0 (ldI 4 (cI 2 (bop (fun x y => x + y) (sld sb sL xs (ldA 0 (ldI 4 (cI 3 (bop (fun x y => x + y) (sld sb sL xs (ldA 0 (ldI 4 (cI 4 (bop (fun x y => x + y) (sld sb sL xs (cV 4 8 wX8_plug 0 0 600002 7302232 (nx 482)))))))))))))))))))))))))))))))))))))))))))))
noncomputable def bL_law_482 (sb sL : Nat) (xs : Nat → Int32) (nx : Nat → Kt) : Kt := ldA 2 (cV 0 8 wX8_thrown 0 0 600002 7302232 (ldI 5 (ifc (fun x y => x = y) (nx 493) (cI 0 (rL)))))
noncomputable def bL_law_493 (sb sL : Nat) (xs : Nat → Int32) (nx : Nat → Kt) : Kt := nx 1106
noncomputable def bL_law_496 (sb sL : Nat) (xs : Nat → Int32) (nx : Nat → Kt) : Kt := ldA 1 (ldA 0 (ldI 4 (cI 1 (bop (fun x y => x + y) (sld sb sL xs (cS 2 wL_pull 1 6 600002 7302232 (stI 5 (ldA 2 (ldA 0 (ldI 4 (cI 1 (bop (fun x y => x + y) (sld sb sL xs (cV 1 8 wX8_pull 0 0 600002 7302232 (ldA 2 (cV 0 8 wX8_thrown 0 0 600002 7302232 (ldI 5 (ifc (fun x y => x = y) (nx 529) (cI 0 (rL))))))))))))))))))))
noncomputable def bL_law_529 (sb sL : Nat) (xs : Nat → Int32) (nx : Nat → Kt) : Kt := nx 1106
noncomputable def bL_law_532 (sb sL : Nat) (xs : Nat → Int32) (nx : Nat → Kt) : Kt := ldA 1 (ldA 0 (ldI 4 (cI 1 (bop (fun x y => x + y) (sld sb sL xs (ldA 0 (ldI 4 (cI 2 (bop (fun x y => x + y) (sld sb sL xs (ifz (fun x => x = 0) (nx 552) (cI 1 (nx 553)))))))))))))
noncomputable def bL_law_552 (sb sL : Nat) (xs : Nat → Int32) (nx : Nat → Kt) : Kt := cI 0 (nx 553)
noncomputable def bL_law_553 (sb sL : Nat) (xs : Nat → Int32) (nx : Nat → Kt) : Kt := cS 3 wL_light 1 6 600002 7302232 (stI 5 (ldA 2 (ldA 0 (ldI 4 (cI 1 (bop (fun x y => x + y) (sld sb sL xs (ldA 0 (ldI 4 (cI 2 (bop (fun x y => x + y) (sld sb sL xs (ifz (fun x => x = 0) (nx 578) (cI 1 (nx 579)))))))))))))))
noncomputable def bL_law_578 (sb sL : Nat) (xs : Nat → Int32) (nx : Nat → Kt) : Kt := cI 0 (nx 579)
noncomputable def bL_law_579 (sb sL : Nat) (xs : Nat → Int32) (nx : Nat → Kt) : Kt := cV 2 8 wX8_light 0 0 600002 7302232 (ldA 2 (cV 0 8 wX8_thrown 0 0 600002 7302232 (ldI 5 (ifc (fun x y => x = y) (nx 593) (cI 0 (rL))))))
noncomputable def bL_law_593 (sb sL : Nat) (xs : Nat → Int32) (nx : Nat → Kt) : Kt := nx 1106
noncomputable def bL_law_596 (sb sL : Nat) (xs : Nat → Int32) (nx : Nat → Kt) : Kt := ldA 1 (ldA 0 (ldI 4 (cI 1 (bop (fun x y => x + y) (sld sb sL xs (ldA 0 (ldI 4 (cI 2 (bop (fun x y => x + y) (sld sb sL xs (ldA 0 (ldI 4 (cI 3 (bop (fun x y => x + y) (sld sb sL xs (cS 4 wL_lose 1 6 600002 7302232 (stI 5 (ldA 2 (ldA 0 (ldI 4 (cI 1 (bop (fun x y => x + y) (sld sb sL xs (ldA 0 (ldI 4 (cI 2 (bop (fun x y => x + y) (sld sb sL xs (ldA 0 (ldI 4 (cI 3 (bop (fun x y => x + y) (sld sb sL xs (cV 3 8 wX8_lose 0 0 600002 7302232 (ldA 2 (cV 0 8 wX8_thrown 0 0 600002 7302232 (ldI 5 (ifc (fun x y => x = y) (nx 653) (cI 0 (rL))))))))))))))))))))))))))))))))))))))))
noncomputable def bL_law_653 (sb sL : Nat) (xs : Nat → Int32) (nx : Nat → Kt) : Kt := nx 1106
noncomputable def bL_law_656 (sb sL : Nat) (xs : Nat → Int32) (nx : Nat → Kt) : Kt := ldA 1 (ldA 0 (ldI 4 (cI 1 (bop (fun x y => x + y) (sld sb sL xs (ldA 3 (cS 3 wL_tick 1 6 600002 7302232 (stI 5 (ldA 2 (ldA 0 (ldI 4 (cI 1 (bop (fun x y => x + y) (sld sb sL xs (cV 1 8 wX8_tick_ 0 0 600002 7302232 (stI 6 (ldA 2 (cV 0 8 wX8_thrown 0 0 600002 7302232 (ldI 5 (ifc (fun x y => x = y) (nx 692) (cI 0 (rL))))))))))))))))))))))
noncomputable def bL_law_692 (sb sL : Nat) (xs : Nat → Int32) (nx : Nat → Kt) : Kt := ldI 5 (ifz (fun x => x = 0) (ldA 3 (cI 0 (aJ (ldI 6 (i2 (lcm (ifz (fun x => x = 0) (nx 709) (cI 0 (rL))))))))) (nx 709))
noncomputable def bL_law_709 (sb sL : Nat) (xs : Nat → Int32) (nx : Nat → Kt) : Kt := nx 1106
noncomputable def bL_law_712 (sb sL : Nat) (xs : Nat → Int32) (nx : Nat → Kt) : Kt := ldA 1 (ldA 0 (ldI 4 (cI 1 (bop (fun x y => x + y) (sld sb sL xs (ldA 0 (ldI 4 (cI 2 (bop (fun x y => x + y) (sld sb sL xs (ldA 0 (ldI 4 (cI 3 (bop (fun x y => x + y) (sld sb sL xs (ldA 0 (ldI 4 (cI 4 (bop (fun x y => x + y) (sld sb sL xs (ldA 3 (cS 6 wL_give 2 13 600002 7302232 (stI 5 (ldA 2 (ldA 0 (ldI 4 (cI 1 (bop (fun x y => x + y) (sld sb sL xs (ldA 0 (ldI 4 (cI 2 (bop (fun x y => x + y) (sld sb sL xs (ldA 0 (ldI 4 (cI 3 (bop (fun x y => x + y) (sld sb sL xs (ldA 0 (ldI 4 (cI 4 (bop (fun x y => x + y) (sld sb sL xs (nx 768)))))))))))))))))))))))))))))))))))))))))))))
noncomputable def bL_law_768 (sb sL : Nat) (xs : Nat → Int32) (nx : Nat → Kt) : Kt := cV 4 8 wX8_give 0 0 600002 7302232 (stI 6 (ldA 2 (cV 0 8 wX8_thrown 0 0 600002 7302232 (ldI 5 (ifc (fun x y => x = y) (nx 784) (cI 0 (rL)))))))
noncomputable def bL_law_784 (sb sL : Nat) (xs : Nat → Int32) (nx : Nat → Kt) : Kt := ldI 5 (ifz (fun x => x = 0) (ldA 3 (cI 0 (aJ (ldI 6 (i2 (lcm (ifz (fun x => x = 0) (nx 801) (cI 0 (rL))))))))) (nx 801))
noncomputable def bL_law_801 (sb sL : Nat) (xs : Nat → Int32) (nx : Nat → Kt) : Kt := nx 1106
noncomputable def bL_law_804 (sb sL : Nat) (xs : Nat → Int32) (nx : Nat → Kt) : Kt := ldA 1 (ldA 0 (ldI 4 (cI 1 (bop (fun x y => x + y) (sld sb sL xs (ldA 0 (ldI 4 (cI 2 (bop (fun x y => x + y) (sld sb sL xs (ldA 0 (ldI 4 (cI 3 (bop (fun x y => x + y) (sld sb sL xs (ldA 3 (cS 5 wL_came 1 6 600002 7302232 (stI 5 (ldA 2 (ldA 0 (ldI 4 (cI 1 (bop (fun x y => x + y) (sld sb sL xs (ldA 0 (ldI 4 (cI 2 (bop (fun x y => x + y) (sld sb sL xs (ldA 0 (ldI 4 (cI 3 (bop (fun x y => x + y) (sld sb sL xs (cV 3 8 wX8_came 0 0 600002 7302232 (stI 6 (ldA 2 (cV 0 8 wX8_thrown 0 0 600002 7302232 (ldI 5 (ifc (fun x y => x = y) (nx 864) (cI 0 (rL))))))))))))))))))))))))))))))))))))))))))
noncomputable def bL_law_864 (sb sL : Nat) (xs : Nat → Int32) (nx : Nat → Kt) : Kt := ldI 5 (ifz (fun x => x = 0) (ldA 3 (cI 0 (aJ (ldI 6 (i2 (lcm (ifz (fun x => x = 0) (nx 881) (cI 0 (rL))))))))) (nx 881))
noncomputable def bL_law_881 (sb sL : Nat) (xs : Nat → Int32) (nx : Nat → Kt) : Kt := nx 1106
noncomputable def bL_law_884 (sb sL : Nat) (xs : Nat → Int32) (nx : Nat → Kt) : Kt := ldA 1 (ldA 0 (ldI 4 (cI 1 (bop (fun x y => x + y) (sld sb sL xs (ldA 0 (ldI 4 (cI 2 (bop (fun x y => x + y) (sld sb sL xs (ldA 0 (ldI 4 (cI 3 (bop (fun x y => x + y) (sld sb sL xs (ldA 3 (cS 5 wL_look 1 6 600002 7302232 (stI 5 (ldA 2 (ldA 0 (ldI 4 (cI 1 (bop (fun x y => x + y) (sld sb sL xs (ldA 0 (ldI 4 (cI 2 (bop (fun x y => x + y) (sld sb sL xs (ldA 0 (ldI 4 (cI 3 (bop (fun x y => x + y) (sld sb sL xs (cV 3 8 wX8_look 0 0 600002 7302232 (stI 6 (ldA 2 (cV 0 8 wX8_thrown 0 0 600002 7302232 (ldI 5 (ifc (fun x y => x = y) (nx 944) (cI 0 (rL))))))))))))))))))))))))))))))))))))))))))
noncomputable def bL_law_944 (sb sL : Nat) (xs : Nat → Int32) (nx : Nat → Kt) : Kt := ldI 5 (ifz (fun x => x = 0) (ldA 3 (cI 0 (aJ (ldI 6 (i2 (lcm (ifz (fun x => x = 0) (nx 961) (cI 0 (rL))))))))) (nx 961))
noncomputable def bL_law_961 (sb sL : Nat) (xs : Nat → Int32) (nx : Nat → Kt) : Kt := nx 1106
noncomputable def bL_law_964 (sb sL : Nat) (xs : Nat → Int32) (nx : Nat → Kt) : Kt := ldA 1 (ldA 0 (ldI 4 (cI 1 (bop (fun x y => x + y) (sld sb sL xs (ldA 0 (ldI 4 (cI 2 (bop (fun x y => x + y) (sld sb sL xs (ldA 3 (cS 4 wL_cable 1 6 600002 7302232 (stI 5 (ldA 2 (ldA 0 (ldI 4 (cI 1 (bop (fun x y => x + y) (sld sb sL xs (ldA 0 (ldI 4 (cI 2 (bop (fun x y => x + y) (sld sb sL xs (cV 2 8 wX8_cable 0 0 600002 7302232 (stI 6 (ldA 2 (cV 0 8 wX8_thrown 0 0 600002 7302232 (ldI 5 (ifc (fun x y => x = y) (nx 1012) (cI 0 (rL))))))))))))))))))))))))))))))))
noncomputable def bL_law_1012 (sb sL : Nat) (xs : Nat → Int32) (nx : Nat → Kt) : Kt := ldI 5 (ifz (fun x => x = 0) (ldA 3 (cI 0 (aJ (ldI 6 (i2 (lcm (ifz (fun x => x = 0) (nx 1029) (cI 0 (rL))))))))) (nx 1029))
noncomputable def bL_law_1029 (sb sL : Nat) (xs : Nat → Int32) (nx : Nat → Kt) : Kt := nx 1106
noncomputable def bL_law_1032 (sb sL : Nat) (xs : Nat → Int32) (nx : Nat → Kt) : Kt := ldA 1 (ldA 0 (ldI 4 (cI 1 (bop (fun x y => x + y) (sld sb sL xs (ldA 0 (ldI 4 (cI 2 (bop (fun x y => x + y) (sld sb sL xs (ldA 0 (ldI 4 (cI 3 (bop (fun x y => x + y) (sld sb sL xs (cV 3 7 wX7_note 0 0 600002 7302232 (ldA 2 (ldA 0 (ldI 4 (cI 1 (bop (fun x y => x + y) (sld sb sL xs (ldA 0 (ldI 4 (cI 2 (bop (fun x y => x + y) (sld sb sL xs (ldA 0 (ldI 4 (cI 3 (bop (fun x y => x + y) (sld sb sL xs (cV 3 8 wX8_note 0 0 600002 7302232 (ifc (fun x y => x = y) (nx 1106) (cI 0 (rL))))))))))))))))))))))))))))))))))))
noncomputable def bL_law_1081 (sb sL : Nat) (xs : Nat → Int32) (nx : Nat → Kt) : Kt := ldA 1 (ldA 0 (ldI 4 (cI 1 (bop (fun x y => x + y) (sld sb sL xs (cV 1 7 wX7_count 0 0 600002 7302232 (ldA 2 (ldA 0 (ldI 4 (cI 1 (bop (fun x y => x + y) (sld sb sL xs (cV 1 8 wX8_count 0 0 600002 7302232 (ifc (fun x y => x = y) (nx 1106) (cI 0 (rL))))))))))))))))
noncomputable def bL_law_1106 (sb sL : Nat) (xs : Nat → Int32) (nx : Nat → Kt) : Kt := inc 4 5 (nx 23)
noncomputable def bL_law_1112 (sb sL : Nat) (xs : Nat → Int32) (nx : Nat → Kt) : Kt := cI 1 (rL)
noncomputable def kL_law (sb sL : Nat) (xs : Nat → Int32) (nx : Nat → Kt) : Nat → Kt := bse [(0, bL_law_0 sb sL xs nx), (23, bL_law_23 sb sL xs nx), (112, bL_law_112 sb sL xs nx), (160, bL_law_160 sb sL xs nx), (177, bL_law_177 sb sL xs nx), (180, bL_law_180 sb sL xs nx), (228, bL_law_228 sb sL xs nx), (245, bL_law_245 sb sL xs nx), (248, bL_law_248 sb sL xs nx), (306, bL_law_306 sb sL xs nx), (317, bL_law_317 sb sL xs nx), (320, bL_law_320 sb sL xs nx), (346, bL_law_346 sb sL xs nx), (347, bL_law_347 sb sL xs nx), (360, bL_law_360 sb sL xs nx), (361, bL_law_361 sb sL xs nx), (392, bL_law_392 sb sL xs nx), (393, bL_law_393 sb sL xs nx), (406, bL_law_406 sb sL xs nx), (407, bL_law_407 sb sL xs nx), (421, bL_law_421 sb sL xs nx), (424, bL_law_424 sb sL xs nx), (482, bL_law_482 sb sL xs nx), (493, bL_law_493 sb sL xs nx), (496, bL_law_496 sb sL xs nx), (529, bL_law_529 sb sL xs nx), (532, bL_law_532 sb sL xs nx), (552, bL_law_552 sb sL xs nx), (553, bL_law_553 sb sL xs nx), (578, bL_law_578 sb sL xs nx), (579, bL_law_579 sb sL xs nx), (593, bL_law_593 sb sL xs nx), (596, bL_law_596 sb sL xs nx), (653, bL_law_653 sb sL xs nx), (656, bL_law_656 sb sL xs nx), (692, bL_law_692 sb sL xs nx), (709, bL_law_709 sb sL xs nx), (712, bL_law_712 sb sL xs nx), (768, bL_law_768 sb sL xs nx), (784, bL_law_784 sb sL xs nx), (801, bL_law_801 sb sL xs nx), (804, bL_law_804 sb sL xs nx), (864, bL_law_864 sb sL xs nx), (881, bL_law_881 sb sL xs nx), (884, bL_law_884 sb sL xs nx), (944, bL_law_944 sb sL xs nx), (961, bL_law_961 sb sL xs nx), (964, bL_law_964 sb sL xs nx), (1012, bL_law_1012 sb sL xs nx), (1029, bL_law_1029 sb sL xs nx), (1032, bL_law_1032 sb sL xs nx), (1081, bL_law_1081 sb sL xs nx), (1106, bL_law_1106 sb sL xs nx), (1112, bL_law_1112 sb sL xs nx)]
set_option maxRecDepth 20000 in
theorem oL_law_0 {T : Ct} {sb sL : Nat} {xs : Nat → Int32} (C : Cx T cL_law 7 RL 600002 7302232) (CR : CxR T 10 370) (hst : T.2.1.stackTraces = false) (hgy : gY T.2.2.2.2.2.2.2.2.2.2.2.2 T.2.2.2.2.1) (hX : va_X sb sL xs T.2.2.2.2.1 T.2.2.2.2.1.heap) (hbl : sb < T.2.2.2.2.1.heap.size) (hba : sb < T.2.2.2.2.2.2.2.2.2.2.2.2) (hbb : LwR T sb) {nx : Nat → Kt} (hn : ∀ pc, Sd T 7 (QL T) 600002 7302232 pc (nx pc)) : Sd T 7 (QL T) 600002 7302232 0 (bL_law_0 sb sL xs nx) := nf_L_8 C dL_law_0 (x_dup C dL_law_3 (x_cC C CR mX7_init ⟨co_X7_init, init_X7, md_X7_init, by decide, by decide⟩ ml_L_63 im_X7_init rfl dL_law_4 (x_as_n C dL_law_7 rfl (by decide) (nf_L_64 C dL_law_8 (x_dup C dL_law_11 (x_cC C CR mX8_init ⟨co_X8_init, init_X8, md_X8_init, by decide, by decide⟩ ml_L_66 im_X8_init rfl dL_law_12 (x_as_n C dL_law_15 rfl (by decide) (x_ic C dL_law_16 (by decide) (x_newJ C ac_long dL_law_17 (x_as_n C dL_law_19 rfl (by decide) (x_ic C dL_law_20 (by decide) (x_is C dL_law_21 (by decide) (hn 23)))))))))))))
set_option maxRecDepth 20000 in
theorem oL_law_23 {T : Ct} {sb sL : Nat} {xs : Nat → Int32} (C : Cx T cL_law 7 RL 600002 7302232) (CR : CxR T 10 370) (hst : T.2.1.stackTraces = false) (hgy : gY T.2.2.2.2.2.2.2.2.2.2.2.2 T.2.2.2.2.1) (hX : va_X sb sL xs T.2.2.2.2.1 T.2.2.2.2.1.heap) (hbl : sb < T.2.2.2.2.1.heap.size) (hba : sb < T.2.2.2.2.2.2.2.2.2.2.2.2) (hbb : LwR T sb) {nx : Nat → Kt} (hn : ∀ pc, Sd T 7 (QL T) 600002 7302232 pc (nx pc)) : Sd T 7 (QL T) 600002 7302232 23 (bL_law_23 sb sL xs nx) := x_il C dL_law_23 (x_al_n C dL_law_25 rfl (x_sln C hX hbl hba dL_law_26 (x_ic C dL_law_27 (by decide) (x_isub C dL_law_28 (x_ic_gt C (hn 1112) dL_law_29 (by decide) (x_al_n C dL_law_32 rfl (x_il C dL_law_33 (x_sld C hX hbl hba dL_law_35 (x_bp C dL_law_36 (by decide) (x_iand C dL_law_38 (x_sw C (tl := [112, 180, 248, 320, 424, 496, 532, 596, 656, 712, 804, 884, 964, 1032, 1081]) hn dL_law_39 (by decide) (by decide) (by decide))))))))))))
set_option maxRecDepth 20000 in
theorem oL_law_112 {T : Ct} {sb sL : Nat} {xs : Nat → Int32} (C : Cx T cL_law 7 RL 600002 7302232) (CR : CxR T 10 370) (hst : T.2.1.stackTraces = false) (hgy : gY T.2.2.2.2.2.2.2.2.2.2.2.2 T.2.2.2.2.1) (hX : va_X sb sL xs T.2.2.2.2.1 T.2.2.2.2.1.heap) (hbl : sb < T.2.2.2.2.1.heap.size) (hba : sb < T.2.2.2.2.2.2.2.2.2.2.2.2) (hbb : LwR T sb) {nx : Nat → Kt} (hn : ∀ pc, Sd T 7 (QL T) 600002 7302232 pc (nx pc)) : Sd T 7 (QL T) 600002 7302232 112 (bL_law_112 sb sL xs nx) := x_al_n C dL_law_112 rfl (x_al_n C dL_law_113 rfl (x_il C dL_law_114 (x_ic C dL_law_116 (by decide) (x_iadd C dL_law_117 (x_sld C hX hbl hba dL_law_118 (x_al_n C dL_law_119 rfl (x_il C dL_law_120 (x_ic C dL_law_122 (by decide) (x_iadd C dL_law_123 (x_sld C hX hbl hba dL_law_124 (x_al_n C dL_law_125 rfl (x_cW C CR hst hgy mL_system co_L_system init_L md_L_system (by decide) (by decide) ml_L_67 sm_L_system dL_law_126 (x_is C dL_law_129 (by decide) (x_al_n C dL_law_131 rfl (x_al_n C dL_law_132 rfl (x_il C dL_law_133 (x_ic C dL_law_135 (by decide) (x_iadd C dL_law_136 (x_sld C hX hbl hba dL_law_137 (x_al_n C dL_law_138 rfl (x_il C dL_law_139 (x_ic C dL_law_141 (by decide) (x_iadd C dL_law_142 (x_sld C hX hbl hba dL_law_143 (x_cV C CR mX8_system ⟨co_X8_system, init_X8, md_X8_system, by decide, by decide⟩ (ci := 8) (TX := TX8) (N := 51) rfl (by decide) ml_L_72 im_X8_system se_X8_system dL_law_144 (x_is C dL_law_147 (by decide) (x_al_n C dL_law_149 rfl (x_cV C CR mX8_thrown ⟨co_X8_thrown, init_X8, md_X8_thrown, by decide, by decide⟩ (ci := 8) (TX := TX8) (N := 51) rfl (by decide) ml_L_73 im_X8_thrown se_X8_thrown dL_law_150 (x_il C dL_law_153 (x_ic_eq C (hn 160) dL_law_155 (by decide) (x_ic C dL_law_158 (by decide) (x_rL C hbb dL_law_159))))))))))))))))))))))))))))))))
set_option maxRecDepth 20000 in
theorem oL_law_160 {T : Ct} {sb sL : Nat} {xs : Nat → Int32} (C : Cx T cL_law 7 RL 600002 7302232) (CR : CxR T 10 370) (hst : T.2.1.stackTraces = false) (hgy : gY T.2.2.2.2.2.2.2.2.2.2.2.2 T.2.2.2.2.1) (hX : va_X sb sL xs T.2.2.2.2.1 T.2.2.2.2.1.heap) (hbl : sb < T.2.2.2.2.1.heap.size) (hba : sb < T.2.2.2.2.2.2.2.2.2.2.2.2) (hbb : LwR T sb) {nx : Nat → Kt} (hn : ∀ pc, Sd T 7 (QL T) 600002 7302232 pc (nx pc)) : Sd T 7 (QL T) 600002 7302232 160 (bL_law_160 sb sL xs nx) := x_il C dL_law_160 (x_if_ne C (hn 177) dL_law_162 (by decide) (x_al_n C dL_law_165 rfl (x_ic C dL_law_166 (by decide) (x_lald C dL_law_167 (x_il C dL_law_168 (x_i2l C dL_law_170 (x_lcmp C dL_law_171 (x_if_eq C (hn 177) dL_law_172 (by decide) (x_ic C dL_law_175 (by decide) (x_rL C hbb dL_law_176))))))))))
set_option maxRecDepth 20000 in
theorem oL_law_177 {T : Ct} {sb sL : Nat} {xs : Nat → Int32} (C : Cx T cL_law 7 RL 600002 7302232) (CR : CxR T 10 370) (hst : T.2.1.stackTraces = false) (hgy : gY T.2.2.2.2.2.2.2.2.2.2.2.2 T.2.2.2.2.1) (hX : va_X sb sL xs T.2.2.2.2.1 T.2.2.2.2.1.heap) (hbl : sb < T.2.2.2.2.1.heap.size) (hba : sb < T.2.2.2.2.2.2.2.2.2.2.2.2) (hbb : LwR T sb) {nx : Nat → Kt} (hn : ∀ pc, Sd T 7 (QL T) 600002 7302232 pc (nx pc)) : Sd T 7 (QL T) 600002 7302232 177 (bL_law_177 sb sL xs nx) := x_goto C (hn 1106) dL_law_177 (by decide)
set_option maxRecDepth 20000 in
theorem oL_law_180 {T : Ct} {sb sL : Nat} {xs : Nat → Int32} (C : Cx T cL_law 7 RL 600002 7302232) (CR : CxR T 10 370) (hst : T.2.1.stackTraces = false) (hgy : gY T.2.2.2.2.2.2.2.2.2.2.2.2 T.2.2.2.2.1) (hX : va_X sb sL xs T.2.2.2.2.1 T.2.2.2.2.1.heap) (hbl : sb < T.2.2.2.2.1.heap.size) (hba : sb < T.2.2.2.2.2.2.2.2.2.2.2.2) (hbb : LwR T sb) {nx : Nat → Kt} (hn : ∀ pc, Sd T 7 (QL T) 600002 7302232 pc (nx pc)) : Sd T 7 (QL T) 600002 7302232 180 (bL_law_180 sb sL xs nx) := x_al_n C dL_law_180 rfl (x_al_n C dL_law_181 rfl (x_il C dL_law_182 (x_ic C dL_law_184 (by decide) (x_iadd C dL_law_185 (x_sld C hX hbl hba dL_law_186 (x_al_n C dL_law_187 rfl (x_il C dL_law_188 (x_ic C dL_law_190 (by decide) (x_iadd C dL_law_191 (x_sld C hX hbl hba dL_law_192 (x_al_n C dL_law_193 rfl (x_cW C CR hst hgy mL_limit co_L_limit init_L md_L_limit (by decide) (by decide) ml_L_77 sm_L_limit dL_law_194 (x_is C dL_law_197 (by decide) (x_al_n C dL_law_199 rfl (x_al_n C dL_law_200 rfl (x_il C dL_law_201 (x_ic C dL_law_203 (by decide) (x_iadd C dL_law_204 (x_sld C hX hbl hba dL_law_205 (x_al_n C dL_law_206 rfl (x_il C dL_law_207 (x_ic C dL_law_209 (by decide) (x_iadd C dL_law_210 (x_sld C hX hbl hba dL_law_211 (x_cV C CR mX8_limit ⟨co_X8_limit, init_X8, md_X8_limit, by decide, by decide⟩ (ci := 8) (TX := TX8) (N := 51) rfl (by decide) ml_L_79 im_X8_limit se_X8_limit dL_law_212 (x_is C dL_law_215 (by decide) (x_al_n C dL_law_217 rfl (x_cV C CR mX8_thrown ⟨co_X8_thrown, init_X8, md_X8_thrown, by decide, by decide⟩ (ci := 8) (TX := TX8) (N := 51) rfl (by decide) ml_L_73 im_X8_thrown se_X8_thrown dL_law_218 (x_il C dL_law_221 (x_ic_eq C (hn 228) dL_law_223 (by decide) (x_ic C dL_law_226 (by decide) (x_rL C hbb dL_law_227))))))))))))))))))))))))))))))))
set_option maxRecDepth 20000 in
theorem oL_law_228 {T : Ct} {sb sL : Nat} {xs : Nat → Int32} (C : Cx T cL_law 7 RL 600002 7302232) (CR : CxR T 10 370) (hst : T.2.1.stackTraces = false) (hgy : gY T.2.2.2.2.2.2.2.2.2.2.2.2 T.2.2.2.2.1) (hX : va_X sb sL xs T.2.2.2.2.1 T.2.2.2.2.1.heap) (hbl : sb < T.2.2.2.2.1.heap.size) (hba : sb < T.2.2.2.2.2.2.2.2.2.2.2.2) (hbb : LwR T sb) {nx : Nat → Kt} (hn : ∀ pc, Sd T 7 (QL T) 600002 7302232 pc (nx pc)) : Sd T 7 (QL T) 600002 7302232 228 (bL_law_228 sb sL xs nx) := x_il C dL_law_228 (x_if_ne C (hn 245) dL_law_230 (by decide) (x_al_n C dL_law_233 rfl (x_ic C dL_law_234 (by decide) (x_lald C dL_law_235 (x_il C dL_law_236 (x_i2l C dL_law_238 (x_lcmp C dL_law_239 (x_if_eq C (hn 245) dL_law_240 (by decide) (x_ic C dL_law_243 (by decide) (x_rL C hbb dL_law_244))))))))))
set_option maxRecDepth 20000 in
theorem oL_law_245 {T : Ct} {sb sL : Nat} {xs : Nat → Int32} (C : Cx T cL_law 7 RL 600002 7302232) (CR : CxR T 10 370) (hst : T.2.1.stackTraces = false) (hgy : gY T.2.2.2.2.2.2.2.2.2.2.2.2 T.2.2.2.2.1) (hX : va_X sb sL xs T.2.2.2.2.1 T.2.2.2.2.1.heap) (hbl : sb < T.2.2.2.2.1.heap.size) (hba : sb < T.2.2.2.2.2.2.2.2.2.2.2.2) (hbb : LwR T sb) {nx : Nat → Kt} (hn : ∀ pc, Sd T 7 (QL T) 600002 7302232 pc (nx pc)) : Sd T 7 (QL T) 600002 7302232 245 (bL_law_245 sb sL xs nx) := x_goto C (hn 1106) dL_law_245 (by decide)
set_option maxRecDepth 20000 in
theorem oL_law_248 {T : Ct} {sb sL : Nat} {xs : Nat → Int32} (C : Cx T cL_law 7 RL 600002 7302232) (CR : CxR T 10 370) (hst : T.2.1.stackTraces = false) (hgy : gY T.2.2.2.2.2.2.2.2.2.2.2.2 T.2.2.2.2.1) (hX : va_X sb sL xs T.2.2.2.2.1 T.2.2.2.2.1.heap) (hbl : sb < T.2.2.2.2.1.heap.size) (hba : sb < T.2.2.2.2.2.2.2.2.2.2.2.2) (hbb : LwR T sb) {nx : Nat → Kt} (hn : ∀ pc, Sd T 7 (QL T) 600002 7302232 pc (nx pc)) : Sd T 7 (QL T) 600002 7302232 248 (bL_law_248 sb sL xs nx) := x_al_n C dL_law_248 rfl (x_al_n C dL_law_249 rfl (x_il C dL_law_250 (x_ic C dL_law_252 (by decide) (x_iadd C dL_law_253 (x_sld C hX hbl hba dL_law_254 (x_al_n C dL_law_255 rfl (x_il C dL_law_256 (x_ic C dL_law_258 (by decide) (x_iadd C dL_law_259 (x_sld C hX hbl hba dL_law_260 (x_al_n C dL_law_261 rfl (x_il C dL_law_262 (x_ic C dL_law_264 (by decide) (x_iadd C dL_law_265 (x_sld C hX hbl hba dL_law_266 (x_al_n C dL_law_267 rfl (x_il C dL_law_268 (x_ic C dL_law_270 (by decide) (x_iadd C dL_law_271 (x_sld C hX hbl hba dL_law_272 (x_cW C CR hst hgy mL_port co_L_port init_L md_L_port (by decide) (by decide) ml_L_80 sm_L_port dL_law_273 (x_is C dL_law_276 (by decide) (x_al_n C dL_law_278 rfl (x_al_n C dL_law_279 rfl (x_il C dL_law_280 (x_ic C dL_law_282 (by decide) (x_iadd C dL_law_283 (x_sld C hX hbl hba dL_law_284 (x_al_n C dL_law_285 rfl (x_il C dL_law_286 (x_ic C dL_law_288 (by decide) (x_iadd C dL_law_289 (x_sld C hX hbl hba dL_law_290 (x_al_n C dL_law_291 rfl (x_il C dL_law_292 (x_ic C dL_law_294 (by decide) (x_iadd C dL_law_295 (x_sld C hX hbl hba dL_law_296 (x_al_n C dL_law_297 rfl (x_il C dL_law_298 (x_ic C dL_law_300 (by decide) (x_iadd C dL_law_301 (x_sld C hX hbl hba dL_law_302 (x_cV C CR mX8_port ⟨co_X8_port, init_X8, md_X8_port, by decide, by decide⟩ (ci := 8) (TX := TX8) (N := 51) rfl (by decide) ml_L_83 im_X8_port se_X8_port dL_law_303 (hn 306)))))))))))))))))))))))))))))))))))))))))))))
set_option maxRecDepth 20000 in
theorem oL_law_306 {T : Ct} {sb sL : Nat} {xs : Nat → Int32} (C : Cx T cL_law 7 RL 600002 7302232) (CR : CxR T 10 370) (hst : T.2.1.stackTraces = false) (hgy : gY T.2.2.2.2.2.2.2.2.2.2.2.2 T.2.2.2.2.1) (hX : va_X sb sL xs T.2.2.2.2.1 T.2.2.2.2.1.heap) (hbl : sb < T.2.2.2.2.1.heap.size) (hba : sb < T.2.2.2.2.2.2.2.2.2.2.2.2) (hbb : LwR T sb) {nx : Nat → Kt} (hn : ∀ pc, Sd T 7 (QL T) 600002 7302232 pc (nx pc)) : Sd T 7 (QL T) 600002 7302232 306 (bL_law_306 sb sL xs nx) := x_al_n C dL_law_306 rfl (x_cV C CR mX8_thrown ⟨co_X8_thrown, init_X8, md_X8_thrown, by decide, by decide⟩ (ci := 8) (TX := TX8) (N := 51) rfl (by decide) ml_L_73 im_X8_thrown se_X8_thrown dL_law_307 (x_il C dL_law_310 (x_ic_eq C (hn 317) dL_law_312 (by decide) (x_ic C dL_law_315 (by decide) (x_rL C hbb dL_law_316)))))
set_option maxRecDepth 20000 in
theorem oL_law_317 {T : Ct} {sb sL : Nat} {xs : Nat → Int32} (C : Cx T cL_law 7 RL 600002 7302232) (CR : CxR T 10 370) (hst : T.2.1.stackTraces = false) (hgy : gY T.2.2.2.2.2.2.2.2.2.2.2.2 T.2.2.2.2.1) (hX : va_X sb sL xs T.2.2.2.2.1 T.2.2.2.2.1.heap) (hbl : sb < T.2.2.2.2.1.heap.size) (hba : sb < T.2.2.2.2.2.2.2.2.2.2.2.2) (hbb : LwR T sb) {nx : Nat → Kt} (hn : ∀ pc, Sd T 7 (QL T) 600002 7302232 pc (nx pc)) : Sd T 7 (QL T) 600002 7302232 317 (bL_law_317 sb sL xs nx) := x_goto C (hn 1106) dL_law_317 (by decide)
set_option maxRecDepth 20000 in
theorem oL_law_320 {T : Ct} {sb sL : Nat} {xs : Nat → Int32} (C : Cx T cL_law 7 RL 600002 7302232) (CR : CxR T 10 370) (hst : T.2.1.stackTraces = false) (hgy : gY T.2.2.2.2.2.2.2.2.2.2.2.2 T.2.2.2.2.1) (hX : va_X sb sL xs T.2.2.2.2.1 T.2.2.2.2.1.heap) (hbl : sb < T.2.2.2.2.1.heap.size) (hba : sb < T.2.2.2.2.2.2.2.2.2.2.2.2) (hbb : LwR T sb) {nx : Nat → Kt} (hn : ∀ pc, Sd T 7 (QL T) 600002 7302232 pc (nx pc)) : Sd T 7 (QL T) 600002 7302232 320 (bL_law_320 sb sL xs nx) := x_al_n C dL_law_320 rfl (x_al_n C dL_law_321 rfl (x_il C dL_law_322 (x_ic C dL_law_324 (by decide) (x_iadd C dL_law_325 (x_sld C hX hbl hba dL_law_326 (x_al_n C dL_law_327 rfl (x_il C dL_law_328 (x_ic C dL_law_330 (by decide) (x_iadd C dL_law_331 (x_sld C hX hbl hba dL_law_332 (x_al_n C dL_law_333 rfl (x_il C dL_law_334 (x_ic C dL_law_336 (by decide) (x_iadd C dL_law_337 (x_sld C hX hbl hba dL_law_338 (x_if_eq C (hn 346) dL_law_339 (by decide) (x_ic C dL_law_342 (by decide) (x_goto C (hn 347) dL_law_343 (by decide)))))))))))))))))))
set_option maxRecDepth 20000 in
theorem oL_law_346 {T : Ct} {sb sL : Nat} {xs : Nat → Int32} (C : Cx T cL_law 7 RL 600002 7302232) (CR : CxR T 10 370) (hst : T.2.1.stackTraces = false) (hgy : gY T.2.2.2.2.2.2.2.2.2.2.2.2 T.2.2.2.2.1) (hX : va_X sb sL xs T.2.2.2.2.1 T.2.2.2.2.1.heap) (hbl : sb < T.2.2.2.2.1.heap.size) (hba : sb < T.2.2.2.2.2.2.2.2.2.2.2.2) (hbb : LwR T sb) {nx : Nat → Kt} (hn : ∀ pc, Sd T 7 (QL T) 600002 7302232 pc (nx pc)) : Sd T 7 (QL T) 600002 7302232 346 (bL_law_346 sb sL xs nx) := x_ic C dL_law_346 (by decide) (hn 347)
set_option maxRecDepth 20000 in
theorem oL_law_347 {T : Ct} {sb sL : Nat} {xs : Nat → Int32} (C : Cx T cL_law 7 RL 600002 7302232) (CR : CxR T 10 370) (hst : T.2.1.stackTraces = false) (hgy : gY T.2.2.2.2.2.2.2.2.2.2.2.2 T.2.2.2.2.1) (hX : va_X sb sL xs T.2.2.2.2.1 T.2.2.2.2.1.heap) (hbl : sb < T.2.2.2.2.1.heap.size) (hba : sb < T.2.2.2.2.2.2.2.2.2.2.2.2) (hbb : LwR T sb) {nx : Nat → Kt} (hn : ∀ pc, Sd T 7 (QL T) 600002 7302232 pc (nx pc)) : Sd T 7 (QL T) 600002 7302232 347 (bL_law_347 sb sL xs nx) := x_al_n C dL_law_347 rfl (x_il C dL_law_348 (x_ic C dL_law_350 (by decide) (x_iadd C dL_law_351 (x_sld C hX hbl hba dL_law_352 (x_if_eq C (hn 360) dL_law_353 (by decide) (x_ic C dL_law_356 (by decide) (x_goto C (hn 361) dL_law_357 (by decide))))))))
set_option maxRecDepth 20000 in
theorem oL_law_360 {T : Ct} {sb sL : Nat} {xs : Nat → Int32} (C : Cx T cL_law 7 RL 600002 7302232) (CR : CxR T 10 370) (hst : T.2.1.stackTraces = false) (hgy : gY T.2.2.2.2.2.2.2.2.2.2.2.2 T.2.2.2.2.1) (hX : va_X sb sL xs T.2.2.2.2.1 T.2.2.2.2.1.heap) (hbl : sb < T.2.2.2.2.1.heap.size) (hba : sb < T.2.2.2.2.2.2.2.2.2.2.2.2) (hbb : LwR T sb) {nx : Nat → Kt} (hn : ∀ pc, Sd T 7 (QL T) 600002 7302232 pc (nx pc)) : Sd T 7 (QL T) 600002 7302232 360 (bL_law_360 sb sL xs nx) := x_ic C dL_law_360 (by decide) (hn 361)
set_option maxRecDepth 20000 in
theorem oL_law_361 {T : Ct} {sb sL : Nat} {xs : Nat → Int32} (C : Cx T cL_law 7 RL 600002 7302232) (CR : CxR T 10 370) (hst : T.2.1.stackTraces = false) (hgy : gY T.2.2.2.2.2.2.2.2.2.2.2.2 T.2.2.2.2.1) (hX : va_X sb sL xs T.2.2.2.2.1 T.2.2.2.2.1.heap) (hbl : sb < T.2.2.2.2.1.heap.size) (hba : sb < T.2.2.2.2.2.2.2.2.2.2.2.2) (hbb : LwR T sb) {nx : Nat → Kt} (hn : ∀ pc, Sd T 7 (QL T) 600002 7302232 pc (nx pc)) : Sd T 7 (QL T) 600002 7302232 361 (bL_law_361 sb sL xs nx) := x_cW C CR hst hgy mL_manner co_L_manner init_L md_L_manner (by decide) (by decide) ml_L_84 sm_L_manner dL_law_361 (x_is C dL_law_364 (by decide) (x_al_n C dL_law_366 rfl (x_al_n C dL_law_367 rfl (x_il C dL_law_368 (x_ic C dL_law_370 (by decide) (x_iadd C dL_law_371 (x_sld C hX hbl hba dL_law_372 (x_al_n C dL_law_373 rfl (x_il C dL_law_374 (x_ic C dL_law_376 (by decide) (x_iadd C dL_law_377 (x_sld C hX hbl hba dL_law_378 (x_al_n C dL_law_379 rfl (x_il C dL_law_380 (x_ic C dL_law_382 (by decide) (x_iadd C dL_law_383 (x_sld C hX hbl hba dL_law_384 (x_if_eq C (hn 392) dL_law_385 (by decide) (x_ic C dL_law_388 (by decide) (x_goto C (hn 393) dL_law_389 (by decide)))))))))))))))))))))
set_option maxRecDepth 20000 in
theorem oL_law_392 {T : Ct} {sb sL : Nat} {xs : Nat → Int32} (C : Cx T cL_law 7 RL 600002 7302232) (CR : CxR T 10 370) (hst : T.2.1.stackTraces = false) (hgy : gY T.2.2.2.2.2.2.2.2.2.2.2.2 T.2.2.2.2.1) (hX : va_X sb sL xs T.2.2.2.2.1 T.2.2.2.2.1.heap) (hbl : sb < T.2.2.2.2.1.heap.size) (hba : sb < T.2.2.2.2.2.2.2.2.2.2.2.2) (hbb : LwR T sb) {nx : Nat → Kt} (hn : ∀ pc, Sd T 7 (QL T) 600002 7302232 pc (nx pc)) : Sd T 7 (QL T) 600002 7302232 392 (bL_law_392 sb sL xs nx) := x_ic C dL_law_392 (by decide) (hn 393)
set_option maxRecDepth 20000 in
theorem oL_law_393 {T : Ct} {sb sL : Nat} {xs : Nat → Int32} (C : Cx T cL_law 7 RL 600002 7302232) (CR : CxR T 10 370) (hst : T.2.1.stackTraces = false) (hgy : gY T.2.2.2.2.2.2.2.2.2.2.2.2 T.2.2.2.2.1) (hX : va_X sb sL xs T.2.2.2.2.1 T.2.2.2.2.1.heap) (hbl : sb < T.2.2.2.2.1.heap.size) (hba : sb < T.2.2.2.2.2.2.2.2.2.2.2.2) (hbb : LwR T sb) {nx : Nat → Kt} (hn : ∀ pc, Sd T 7 (QL T) 600002 7302232 pc (nx pc)) : Sd T 7 (QL T) 600002 7302232 393 (bL_law_393 sb sL xs nx) := x_al_n C dL_law_393 rfl (x_il C dL_law_394 (x_ic C dL_law_396 (by decide) (x_iadd C dL_law_397 (x_sld C hX hbl hba dL_law_398 (x_if_eq C (hn 406) dL_law_399 (by decide) (x_ic C dL_law_402 (by decide) (x_goto C (hn 407) dL_law_403 (by decide))))))))
set_option maxRecDepth 20000 in
theorem oL_law_406 {T : Ct} {sb sL : Nat} {xs : Nat → Int32} (C : Cx T cL_law 7 RL 600002 7302232) (CR : CxR T 10 370) (hst : T.2.1.stackTraces = false) (hgy : gY T.2.2.2.2.2.2.2.2.2.2.2.2 T.2.2.2.2.1) (hX : va_X sb sL xs T.2.2.2.2.1 T.2.2.2.2.1.heap) (hbl : sb < T.2.2.2.2.1.heap.size) (hba : sb < T.2.2.2.2.2.2.2.2.2.2.2.2) (hbb : LwR T sb) {nx : Nat → Kt} (hn : ∀ pc, Sd T 7 (QL T) 600002 7302232 pc (nx pc)) : Sd T 7 (QL T) 600002 7302232 406 (bL_law_406 sb sL xs nx) := x_ic C dL_law_406 (by decide) (hn 407)
set_option maxRecDepth 20000 in
theorem oL_law_407 {T : Ct} {sb sL : Nat} {xs : Nat → Int32} (C : Cx T cL_law 7 RL 600002 7302232) (CR : CxR T 10 370) (hst : T.2.1.stackTraces = false) (hgy : gY T.2.2.2.2.2.2.2.2.2.2.2.2 T.2.2.2.2.1) (hX : va_X sb sL xs T.2.2.2.2.1 T.2.2.2.2.1.heap) (hbl : sb < T.2.2.2.2.1.heap.size) (hba : sb < T.2.2.2.2.2.2.2.2.2.2.2.2) (hbb : LwR T sb) {nx : Nat → Kt} (hn : ∀ pc, Sd T 7 (QL T) 600002 7302232 pc (nx pc)) : Sd T 7 (QL T) 600002 7302232 407 (bL_law_407 sb sL xs nx) := x_cV C CR mX8_manner ⟨co_X8_manner, init_X8, md_X8_manner, by decide, by decide⟩ (ci := 8) (TX := TX8) (N := 51) rfl (by decide) ml_L_87 im_X8_manner se_X8_manner dL_law_407 (x_al_n C dL_law_410 rfl (x_cV C CR mX8_thrown ⟨co_X8_thrown, init_X8, md_X8_thrown, by decide, by decide⟩ (ci := 8) (TX := TX8) (N := 51) rfl (by decide) ml_L_73 im_X8_thrown se_X8_thrown dL_law_411 (x_il C dL_law_414 (x_ic_eq C (hn 421) dL_law_416 (by decide) (x_ic C dL_law_419 (by decide) (x_rL C hbb dL_law_420))))))
set_option maxRecDepth 20000 in
theorem oL_law_421 {T : Ct} {sb sL : Nat} {xs : Nat → Int32} (C : Cx T cL_law 7 RL 600002 7302232) (CR : CxR T 10 370) (hst : T.2.1.stackTraces = false) (hgy : gY T.2.2.2.2.2.2.2.2.2.2.2.2 T.2.2.2.2.1) (hX : va_X sb sL xs T.2.2.2.2.1 T.2.2.2.2.1.heap) (hbl : sb < T.2.2.2.2.1.heap.size) (hba : sb < T.2.2.2.2.2.2.2.2.2.2.2.2) (hbb : LwR T sb) {nx : Nat → Kt} (hn : ∀ pc, Sd T 7 (QL T) 600002 7302232 pc (nx pc)) : Sd T 7 (QL T) 600002 7302232 421 (bL_law_421 sb sL xs nx) := x_goto C (hn 1106) dL_law_421 (by decide)
set_option maxRecDepth 20000 in
theorem oL_law_424 {T : Ct} {sb sL : Nat} {xs : Nat → Int32} (C : Cx T cL_law 7 RL 600002 7302232) (CR : CxR T 10 370) (hst : T.2.1.stackTraces = false) (hgy : gY T.2.2.2.2.2.2.2.2.2.2.2.2 T.2.2.2.2.1) (hX : va_X sb sL xs T.2.2.2.2.1 T.2.2.2.2.1.heap) (hbl : sb < T.2.2.2.2.1.heap.size) (hba : sb < T.2.2.2.2.2.2.2.2.2.2.2.2) (hbb : LwR T sb) {nx : Nat → Kt} (hn : ∀ pc, Sd T 7 (QL T) 600002 7302232 pc (nx pc)) : Sd T 7 (QL T) 600002 7302232 424 (bL_law_424 sb sL xs nx) := x_al_n C dL_law_424 rfl (x_al_n C dL_law_425 rfl (x_il C dL_law_426 (x_ic C dL_law_428 (by decide) (x_iadd C dL_law_429 (x_sld C hX hbl hba dL_law_430 (x_al_n C dL_law_431 rfl (x_il C dL_law_432 (x_ic C dL_law_434 (by decide) (x_iadd C dL_law_435 (x_sld C hX hbl hba dL_law_436 (x_al_n C dL_law_437 rfl (x_il C dL_law_438 (x_ic C dL_law_440 (by decide) (x_iadd C dL_law_441 (x_sld C hX hbl hba dL_law_442 (x_al_n C dL_law_443 rfl (x_il C dL_law_444 (x_ic C dL_law_446 (by decide) (x_iadd C dL_law_447 (x_sld C hX hbl hba dL_law_448 (x_cW C CR hst hgy mL_plug co_L_plug init_L md_L_plug (by decide) (by decide) ml_L_88 sm_L_plug dL_law_449 (x_is C dL_law_452 (by decide) (x_al_n C dL_law_454 rfl (x_al_n C dL_law_455 rfl (x_il C dL_law_456 (x_ic C dL_law_458 (by decide) (x_iadd C dL_law_459 (x_sld C hX hbl hba dL_law_460 (x_al_n C dL_law_461 rfl (x_il C dL_law_462 (x_ic C dL_law_464 (by decide) (x_iadd C dL_law_465 (x_sld C hX hbl hba dL_law_466 (x_al_n C dL_law_467 rfl (x_il C dL_law_468 (x_ic C dL_law_470 (by decide) (x_iadd C dL_law_471 (x_sld C hX hbl hba dL_law_472 (x_al_n C dL_law_473 rfl (x_il C dL_law_474 (x_ic C dL_law_476 (by decide) (x_iadd C dL_law_477 (x_sld C hX hbl hba dL_law_478 (x_cV C CR mX8_plug ⟨co_X8_plug, init_X8, md_X8_plug, by decide, by decide⟩ (ci := 8) (TX := TX8) (N := 51) rfl (by decide) ml_L_90 im_X8_plug se_X8_plug dL_law_479 (hn 482)))))))))))))))))))))))))))))))))))))))))))))
set_option maxRecDepth 20000 in
theorem oL_law_482 {T : Ct} {sb sL : Nat} {xs : Nat → Int32} (C : Cx T cL_law 7 RL 600002 7302232) (CR : CxR T 10 370) (hst : T.2.1.stackTraces = false) (hgy : gY T.2.2.2.2.2.2.2.2.2.2.2.2 T.2.2.2.2.1) (hX : va_X sb sL xs T.2.2.2.2.1 T.2.2.2.2.1.heap) (hbl : sb < T.2.2.2.2.1.heap.size) (hba : sb < T.2.2.2.2.2.2.2.2.2.2.2.2) (hbb : LwR T sb) {nx : Nat → Kt} (hn : ∀ pc, Sd T 7 (QL T) 600002 7302232 pc (nx pc)) : Sd T 7 (QL T) 600002 7302232 482 (bL_law_482 sb sL xs nx) := x_al_n C dL_law_482 rfl (x_cV C CR mX8_thrown ⟨co_X8_thrown, init_X8, md_X8_thrown, by decide, by decide⟩ (ci := 8) (TX := TX8) (N := 51) rfl (by decide) ml_L_73 im_X8_thrown se_X8_thrown dL_law_483 (x_il C dL_law_486 (x_ic_eq C (hn 493) dL_law_488 (by decide) (x_ic C dL_law_491 (by decide) (x_rL C hbb dL_law_492)))))
set_option maxRecDepth 20000 in
theorem oL_law_493 {T : Ct} {sb sL : Nat} {xs : Nat → Int32} (C : Cx T cL_law 7 RL 600002 7302232) (CR : CxR T 10 370) (hst : T.2.1.stackTraces = false) (hgy : gY T.2.2.2.2.2.2.2.2.2.2.2.2 T.2.2.2.2.1) (hX : va_X sb sL xs T.2.2.2.2.1 T.2.2.2.2.1.heap) (hbl : sb < T.2.2.2.2.1.heap.size) (hba : sb < T.2.2.2.2.2.2.2.2.2.2.2.2) (hbb : LwR T sb) {nx : Nat → Kt} (hn : ∀ pc, Sd T 7 (QL T) 600002 7302232 pc (nx pc)) : Sd T 7 (QL T) 600002 7302232 493 (bL_law_493 sb sL xs nx) := x_goto C (hn 1106) dL_law_493 (by decide)
set_option maxRecDepth 20000 in
theorem oL_law_496 {T : Ct} {sb sL : Nat} {xs : Nat → Int32} (C : Cx T cL_law 7 RL 600002 7302232) (CR : CxR T 10 370) (hst : T.2.1.stackTraces = false) (hgy : gY T.2.2.2.2.2.2.2.2.2.2.2.2 T.2.2.2.2.1) (hX : va_X sb sL xs T.2.2.2.2.1 T.2.2.2.2.1.heap) (hbl : sb < T.2.2.2.2.1.heap.size) (hba : sb < T.2.2.2.2.2.2.2.2.2.2.2.2) (hbb : LwR T sb) {nx : Nat → Kt} (hn : ∀ pc, Sd T 7 (QL T) 600002 7302232 pc (nx pc)) : Sd T 7 (QL T) 600002 7302232 496 (bL_law_496 sb sL xs nx) := x_al_n C dL_law_496 rfl (x_al_n C dL_law_497 rfl (x_il C dL_law_498 (x_ic C dL_law_500 (by decide) (x_iadd C dL_law_501 (x_sld C hX hbl hba dL_law_502 (x_cW C CR hst hgy mL_pull co_L_pull init_L md_L_pull (by decide) (by decide) ml_L_91 sm_L_pull dL_law_503 (x_is C dL_law_506 (by decide) (x_al_n C dL_law_508 rfl (x_al_n C dL_law_509 rfl (x_il C dL_law_510 (x_ic C dL_law_512 (by decide) (x_iadd C dL_law_513 (x_sld C hX hbl hba dL_law_514 (x_cV C CR mX8_pull ⟨co_X8_pull, init_X8, md_X8_pull, by decide, by decide⟩ (ci := 8) (TX := TX8) (N := 51) rfl (by decide) ml_L_94 im_X8_pull se_X8_pull dL_law_515 (x_al_n C dL_law_518 rfl (x_cV C CR mX8_thrown ⟨co_X8_thrown, init_X8, md_X8_thrown, by decide, by decide⟩ (ci := 8) (TX := TX8) (N := 51) rfl (by decide) ml_L_73 im_X8_thrown se_X8_thrown dL_law_519 (x_il C dL_law_522 (x_ic_eq C (hn 529) dL_law_524 (by decide) (x_ic C dL_law_527 (by decide) (x_rL C hbb dL_law_528))))))))))))))))))))
set_option maxRecDepth 20000 in
theorem oL_law_529 {T : Ct} {sb sL : Nat} {xs : Nat → Int32} (C : Cx T cL_law 7 RL 600002 7302232) (CR : CxR T 10 370) (hst : T.2.1.stackTraces = false) (hgy : gY T.2.2.2.2.2.2.2.2.2.2.2.2 T.2.2.2.2.1) (hX : va_X sb sL xs T.2.2.2.2.1 T.2.2.2.2.1.heap) (hbl : sb < T.2.2.2.2.1.heap.size) (hba : sb < T.2.2.2.2.2.2.2.2.2.2.2.2) (hbb : LwR T sb) {nx : Nat → Kt} (hn : ∀ pc, Sd T 7 (QL T) 600002 7302232 pc (nx pc)) : Sd T 7 (QL T) 600002 7302232 529 (bL_law_529 sb sL xs nx) := x_goto C (hn 1106) dL_law_529 (by decide)
set_option maxRecDepth 20000 in
theorem oL_law_532 {T : Ct} {sb sL : Nat} {xs : Nat → Int32} (C : Cx T cL_law 7 RL 600002 7302232) (CR : CxR T 10 370) (hst : T.2.1.stackTraces = false) (hgy : gY T.2.2.2.2.2.2.2.2.2.2.2.2 T.2.2.2.2.1) (hX : va_X sb sL xs T.2.2.2.2.1 T.2.2.2.2.1.heap) (hbl : sb < T.2.2.2.2.1.heap.size) (hba : sb < T.2.2.2.2.2.2.2.2.2.2.2.2) (hbb : LwR T sb) {nx : Nat → Kt} (hn : ∀ pc, Sd T 7 (QL T) 600002 7302232 pc (nx pc)) : Sd T 7 (QL T) 600002 7302232 532 (bL_law_532 sb sL xs nx) := x_al_n C dL_law_532 rfl (x_al_n C dL_law_533 rfl (x_il C dL_law_534 (x_ic C dL_law_536 (by decide) (x_iadd C dL_law_537 (x_sld C hX hbl hba dL_law_538 (x_al_n C dL_law_539 rfl (x_il C dL_law_540 (x_ic C dL_law_542 (by decide) (x_iadd C dL_law_543 (x_sld C hX hbl hba dL_law_544 (x_if_eq C (hn 552) dL_law_545 (by decide) (x_ic C dL_law_548 (by decide) (x_goto C (hn 553) dL_law_549 (by decide))))))))))))))
set_option maxRecDepth 20000 in
theorem oL_law_552 {T : Ct} {sb sL : Nat} {xs : Nat → Int32} (C : Cx T cL_law 7 RL 600002 7302232) (CR : CxR T 10 370) (hst : T.2.1.stackTraces = false) (hgy : gY T.2.2.2.2.2.2.2.2.2.2.2.2 T.2.2.2.2.1) (hX : va_X sb sL xs T.2.2.2.2.1 T.2.2.2.2.1.heap) (hbl : sb < T.2.2.2.2.1.heap.size) (hba : sb < T.2.2.2.2.2.2.2.2.2.2.2.2) (hbb : LwR T sb) {nx : Nat → Kt} (hn : ∀ pc, Sd T 7 (QL T) 600002 7302232 pc (nx pc)) : Sd T 7 (QL T) 600002 7302232 552 (bL_law_552 sb sL xs nx) := x_ic C dL_law_552 (by decide) (hn 553)
set_option maxRecDepth 20000 in
theorem oL_law_553 {T : Ct} {sb sL : Nat} {xs : Nat → Int32} (C : Cx T cL_law 7 RL 600002 7302232) (CR : CxR T 10 370) (hst : T.2.1.stackTraces = false) (hgy : gY T.2.2.2.2.2.2.2.2.2.2.2.2 T.2.2.2.2.1) (hX : va_X sb sL xs T.2.2.2.2.1 T.2.2.2.2.1.heap) (hbl : sb < T.2.2.2.2.1.heap.size) (hba : sb < T.2.2.2.2.2.2.2.2.2.2.2.2) (hbb : LwR T sb) {nx : Nat → Kt} (hn : ∀ pc, Sd T 7 (QL T) 600002 7302232 pc (nx pc)) : Sd T 7 (QL T) 600002 7302232 553 (bL_law_553 sb sL xs nx) := x_cW C CR hst hgy mL_light co_L_light init_L md_L_light (by decide) (by decide) ml_L_95 sm_L_light dL_law_553 (x_is C dL_law_556 (by decide) (x_al_n C dL_law_558 rfl (x_al_n C dL_law_559 rfl (x_il C dL_law_560 (x_ic C dL_law_562 (by decide) (x_iadd C dL_law_563 (x_sld C hX hbl hba dL_law_564 (x_al_n C dL_law_565 rfl (x_il C dL_law_566 (x_ic C dL_law_568 (by decide) (x_iadd C dL_law_569 (x_sld C hX hbl hba dL_law_570 (x_if_eq C (hn 578) dL_law_571 (by decide) (x_ic C dL_law_574 (by decide) (x_goto C (hn 579) dL_law_575 (by decide))))))))))))))))
set_option maxRecDepth 20000 in
theorem oL_law_578 {T : Ct} {sb sL : Nat} {xs : Nat → Int32} (C : Cx T cL_law 7 RL 600002 7302232) (CR : CxR T 10 370) (hst : T.2.1.stackTraces = false) (hgy : gY T.2.2.2.2.2.2.2.2.2.2.2.2 T.2.2.2.2.1) (hX : va_X sb sL xs T.2.2.2.2.1 T.2.2.2.2.1.heap) (hbl : sb < T.2.2.2.2.1.heap.size) (hba : sb < T.2.2.2.2.2.2.2.2.2.2.2.2) (hbb : LwR T sb) {nx : Nat → Kt} (hn : ∀ pc, Sd T 7 (QL T) 600002 7302232 pc (nx pc)) : Sd T 7 (QL T) 600002 7302232 578 (bL_law_578 sb sL xs nx) := x_ic C dL_law_578 (by decide) (hn 579)
set_option maxRecDepth 20000 in
theorem oL_law_579 {T : Ct} {sb sL : Nat} {xs : Nat → Int32} (C : Cx T cL_law 7 RL 600002 7302232) (CR : CxR T 10 370) (hst : T.2.1.stackTraces = false) (hgy : gY T.2.2.2.2.2.2.2.2.2.2.2.2 T.2.2.2.2.1) (hX : va_X sb sL xs T.2.2.2.2.1 T.2.2.2.2.1.heap) (hbl : sb < T.2.2.2.2.1.heap.size) (hba : sb < T.2.2.2.2.2.2.2.2.2.2.2.2) (hbb : LwR T sb) {nx : Nat → Kt} (hn : ∀ pc, Sd T 7 (QL T) 600002 7302232 pc (nx pc)) : Sd T 7 (QL T) 600002 7302232 579 (bL_law_579 sb sL xs nx) := x_cV C CR mX8_light ⟨co_X8_light, init_X8, md_X8_light, by decide, by decide⟩ (ci := 8) (TX := TX8) (N := 51) rfl (by decide) ml_L_98 im_X8_light se_X8_light dL_law_579 (x_al_n C dL_law_582 rfl (x_cV C CR mX8_thrown ⟨co_X8_thrown, init_X8, md_X8_thrown, by decide, by decide⟩ (ci := 8) (TX := TX8) (N := 51) rfl (by decide) ml_L_73 im_X8_thrown se_X8_thrown dL_law_583 (x_il C dL_law_586 (x_ic_eq C (hn 593) dL_law_588 (by decide) (x_ic C dL_law_591 (by decide) (x_rL C hbb dL_law_592))))))
set_option maxRecDepth 20000 in
theorem oL_law_593 {T : Ct} {sb sL : Nat} {xs : Nat → Int32} (C : Cx T cL_law 7 RL 600002 7302232) (CR : CxR T 10 370) (hst : T.2.1.stackTraces = false) (hgy : gY T.2.2.2.2.2.2.2.2.2.2.2.2 T.2.2.2.2.1) (hX : va_X sb sL xs T.2.2.2.2.1 T.2.2.2.2.1.heap) (hbl : sb < T.2.2.2.2.1.heap.size) (hba : sb < T.2.2.2.2.2.2.2.2.2.2.2.2) (hbb : LwR T sb) {nx : Nat → Kt} (hn : ∀ pc, Sd T 7 (QL T) 600002 7302232 pc (nx pc)) : Sd T 7 (QL T) 600002 7302232 593 (bL_law_593 sb sL xs nx) := x_goto C (hn 1106) dL_law_593 (by decide)
set_option maxRecDepth 20000 in
theorem oL_law_596 {T : Ct} {sb sL : Nat} {xs : Nat → Int32} (C : Cx T cL_law 7 RL 600002 7302232) (CR : CxR T 10 370) (hst : T.2.1.stackTraces = false) (hgy : gY T.2.2.2.2.2.2.2.2.2.2.2.2 T.2.2.2.2.1) (hX : va_X sb sL xs T.2.2.2.2.1 T.2.2.2.2.1.heap) (hbl : sb < T.2.2.2.2.1.heap.size) (hba : sb < T.2.2.2.2.2.2.2.2.2.2.2.2) (hbb : LwR T sb) {nx : Nat → Kt} (hn : ∀ pc, Sd T 7 (QL T) 600002 7302232 pc (nx pc)) : Sd T 7 (QL T) 600002 7302232 596 (bL_law_596 sb sL xs nx) := x_al_n C dL_law_596 rfl (x_al_n C dL_law_597 rfl (x_il C dL_law_598 (x_ic C dL_law_600 (by decide) (x_iadd C dL_law_601 (x_sld C hX hbl hba dL_law_602 (x_al_n C dL_law_603 rfl (x_il C dL_law_604 (x_ic C dL_law_606 (by decide) (x_iadd C dL_law_607 (x_sld C hX hbl hba dL_law_608 (x_al_n C dL_law_609 rfl (x_il C dL_law_610 (x_ic C dL_law_612 (by decide) (x_iadd C dL_law_613 (x_sld C hX hbl hba dL_law_614 (x_cW C CR hst hgy mL_lose co_L_lose init_L md_L_lose (by decide) (by decide) ml_L_99 sm_L_lose dL_law_615 (x_is C dL_law_618 (by decide) (x_al_n C dL_law_620 rfl (x_al_n C dL_law_621 rfl (x_il C dL_law_622 (x_ic C dL_law_624 (by decide) (x_iadd C dL_law_625 (x_sld C hX hbl hba dL_law_626 (x_al_n C dL_law_627 rfl (x_il C dL_law_628 (x_ic C dL_law_630 (by decide) (x_iadd C dL_law_631 (x_sld C hX hbl hba dL_law_632 (x_al_n C dL_law_633 rfl (x_il C dL_law_634 (x_ic C dL_law_636 (by decide) (x_iadd C dL_law_637 (x_sld C hX hbl hba dL_law_638 (x_cV C CR mX8_lose ⟨co_X8_lose, init_X8, md_X8_lose, by decide, by decide⟩ (ci := 8) (TX := TX8) (N := 51) rfl (by decide) ml_L_102 im_X8_lose se_X8_lose dL_law_639 (x_al_n C dL_law_642 rfl (x_cV C CR mX8_thrown ⟨co_X8_thrown, init_X8, md_X8_thrown, by decide, by decide⟩ (ci := 8) (TX := TX8) (N := 51) rfl (by decide) ml_L_73 im_X8_thrown se_X8_thrown dL_law_643 (x_il C dL_law_646 (x_ic_eq C (hn 653) dL_law_648 (by decide) (x_ic C dL_law_651 (by decide) (x_rL C hbb dL_law_652))))))))))))))))))))))))))))))))))))))))
set_option maxRecDepth 20000 in
theorem oL_law_653 {T : Ct} {sb sL : Nat} {xs : Nat → Int32} (C : Cx T cL_law 7 RL 600002 7302232) (CR : CxR T 10 370) (hst : T.2.1.stackTraces = false) (hgy : gY T.2.2.2.2.2.2.2.2.2.2.2.2 T.2.2.2.2.1) (hX : va_X sb sL xs T.2.2.2.2.1 T.2.2.2.2.1.heap) (hbl : sb < T.2.2.2.2.1.heap.size) (hba : sb < T.2.2.2.2.2.2.2.2.2.2.2.2) (hbb : LwR T sb) {nx : Nat → Kt} (hn : ∀ pc, Sd T 7 (QL T) 600002 7302232 pc (nx pc)) : Sd T 7 (QL T) 600002 7302232 653 (bL_law_653 sb sL xs nx) := x_goto C (hn 1106) dL_law_653 (by decide)
set_option maxRecDepth 20000 in
theorem oL_law_656 {T : Ct} {sb sL : Nat} {xs : Nat → Int32} (C : Cx T cL_law 7 RL 600002 7302232) (CR : CxR T 10 370) (hst : T.2.1.stackTraces = false) (hgy : gY T.2.2.2.2.2.2.2.2.2.2.2.2 T.2.2.2.2.1) (hX : va_X sb sL xs T.2.2.2.2.1 T.2.2.2.2.1.heap) (hbl : sb < T.2.2.2.2.1.heap.size) (hba : sb < T.2.2.2.2.2.2.2.2.2.2.2.2) (hbb : LwR T sb) {nx : Nat → Kt} (hn : ∀ pc, Sd T 7 (QL T) 600002 7302232 pc (nx pc)) : Sd T 7 (QL T) 600002 7302232 656 (bL_law_656 sb sL xs nx) := x_al_n C dL_law_656 rfl (x_al_n C dL_law_657 rfl (x_il C dL_law_658 (x_ic C dL_law_660 (by decide) (x_iadd C dL_law_661 (x_sld C hX hbl hba dL_law_662 (x_al_n C dL_law_663 rfl (x_cW C CR hst hgy mL_tick co_L_tick init_L md_L_tick (by decide) (by decide) ml_L_103 sm_L_tick dL_law_664 (x_is C dL_law_667 (by decide) (x_al_n C dL_law_669 rfl (x_al_n C dL_law_670 rfl (x_il C dL_law_671 (x_ic C dL_law_673 (by decide) (x_iadd C dL_law_674 (x_sld C hX hbl hba dL_law_675 (x_cV C CR mX8_tick_ ⟨co_X8_tick_, init_X8, md_X8_tick_, by decide, by decide⟩ (ci := 8) (TX := TX8) (N := 51) rfl (by decide) ml_L_106 im_X8_tick_ se_X8_tick_ dL_law_676 (x_is C dL_law_679 (by decide) (x_al_n C dL_law_681 rfl (x_cV C CR mX8_thrown ⟨co_X8_thrown, init_X8, md_X8_thrown, by decide, by decide⟩ (ci := 8) (TX := TX8) (N := 51) rfl (by decide) ml_L_73 im_X8_thrown se_X8_thrown dL_law_682 (x_il C dL_law_685 (x_ic_eq C (hn 692) dL_law_687 (by decide) (x_ic C dL_law_690 (by decide) (x_rL C hbb dL_law_691))))))))))))))))))))))
set_option maxRecDepth 20000 in
theorem oL_law_692 {T : Ct} {sb sL : Nat} {xs : Nat → Int32} (C : Cx T cL_law 7 RL 600002 7302232) (CR : CxR T 10 370) (hst : T.2.1.stackTraces = false) (hgy : gY T.2.2.2.2.2.2.2.2.2.2.2.2 T.2.2.2.2.1) (hX : va_X sb sL xs T.2.2.2.2.1 T.2.2.2.2.1.heap) (hbl : sb < T.2.2.2.2.1.heap.size) (hba : sb < T.2.2.2.2.2.2.2.2.2.2.2.2) (hbb : LwR T sb) {nx : Nat → Kt} (hn : ∀ pc, Sd T 7 (QL T) 600002 7302232 pc (nx pc)) : Sd T 7 (QL T) 600002 7302232 692 (bL_law_692 sb sL xs nx) := x_il C dL_law_692 (x_if_ne C (hn 709) dL_law_694 (by decide) (x_al_n C dL_law_697 rfl (x_ic C dL_law_698 (by decide) (x_lald C dL_law_699 (x_il C dL_law_700 (x_i2l C dL_law_702 (x_lcmp C dL_law_703 (x_if_eq C (hn 709) dL_law_704 (by decide) (x_ic C dL_law_707 (by decide) (x_rL C hbb dL_law_708))))))))))
set_option maxRecDepth 20000 in
theorem oL_law_709 {T : Ct} {sb sL : Nat} {xs : Nat → Int32} (C : Cx T cL_law 7 RL 600002 7302232) (CR : CxR T 10 370) (hst : T.2.1.stackTraces = false) (hgy : gY T.2.2.2.2.2.2.2.2.2.2.2.2 T.2.2.2.2.1) (hX : va_X sb sL xs T.2.2.2.2.1 T.2.2.2.2.1.heap) (hbl : sb < T.2.2.2.2.1.heap.size) (hba : sb < T.2.2.2.2.2.2.2.2.2.2.2.2) (hbb : LwR T sb) {nx : Nat → Kt} (hn : ∀ pc, Sd T 7 (QL T) 600002 7302232 pc (nx pc)) : Sd T 7 (QL T) 600002 7302232 709 (bL_law_709 sb sL xs nx) := x_goto C (hn 1106) dL_law_709 (by decide)
set_option maxRecDepth 20000 in
theorem oL_law_712 {T : Ct} {sb sL : Nat} {xs : Nat → Int32} (C : Cx T cL_law 7 RL 600002 7302232) (CR : CxR T 10 370) (hst : T.2.1.stackTraces = false) (hgy : gY T.2.2.2.2.2.2.2.2.2.2.2.2 T.2.2.2.2.1) (hX : va_X sb sL xs T.2.2.2.2.1 T.2.2.2.2.1.heap) (hbl : sb < T.2.2.2.2.1.heap.size) (hba : sb < T.2.2.2.2.2.2.2.2.2.2.2.2) (hbb : LwR T sb) {nx : Nat → Kt} (hn : ∀ pc, Sd T 7 (QL T) 600002 7302232 pc (nx pc)) : Sd T 7 (QL T) 600002 7302232 712 (bL_law_712 sb sL xs nx) := x_al_n C dL_law_712 rfl (x_al_n C dL_law_713 rfl (x_il C dL_law_714 (x_ic C dL_law_716 (by decide) (x_iadd C dL_law_717 (x_sld C hX hbl hba dL_law_718 (x_al_n C dL_law_719 rfl (x_il C dL_law_720 (x_ic C dL_law_722 (by decide) (x_iadd C dL_law_723 (x_sld C hX hbl hba dL_law_724 (x_al_n C dL_law_725 rfl (x_il C dL_law_726 (x_ic C dL_law_728 (by decide) (x_iadd C dL_law_729 (x_sld C hX hbl hba dL_law_730 (x_al_n C dL_law_731 rfl (x_il C dL_law_732 (x_ic C dL_law_734 (by decide) (x_iadd C dL_law_735 (x_sld C hX hbl hba dL_law_736 (x_al_n C dL_law_737 rfl (x_cW C CR hst hgy mL_give co_L_give init_L md_L_give (by decide) (by decide) ml_L_107 sm_L_give dL_law_738 (x_is C dL_law_741 (by decide) (x_al_n C dL_law_743 rfl (x_al_n C dL_law_744 rfl (x_il C dL_law_745 (x_ic C dL_law_747 (by decide) (x_iadd C dL_law_748 (x_sld C hX hbl hba dL_law_749 (x_al_n C dL_law_750 rfl (x_il C dL_law_751 (x_ic C dL_law_753 (by decide) (x_iadd C dL_law_754 (x_sld C hX hbl hba dL_law_755 (x_al_n C dL_law_756 rfl (x_il C dL_law_757 (x_ic C dL_law_759 (by decide) (x_iadd C dL_law_760 (x_sld C hX hbl hba dL_law_761 (x_al_n C dL_law_762 rfl (x_il C dL_law_763 (x_ic C dL_law_765 (by decide) (x_iadd C dL_law_766 (x_sld C hX hbl hba dL_law_767 (hn 768)))))))))))))))))))))))))))))))))))))))))))))
set_option maxRecDepth 20000 in
theorem oL_law_768 {T : Ct} {sb sL : Nat} {xs : Nat → Int32} (C : Cx T cL_law 7 RL 600002 7302232) (CR : CxR T 10 370) (hst : T.2.1.stackTraces = false) (hgy : gY T.2.2.2.2.2.2.2.2.2.2.2.2 T.2.2.2.2.1) (hX : va_X sb sL xs T.2.2.2.2.1 T.2.2.2.2.1.heap) (hbl : sb < T.2.2.2.2.1.heap.size) (hba : sb < T.2.2.2.2.2.2.2.2.2.2.2.2) (hbb : LwR T sb) {nx : Nat → Kt} (hn : ∀ pc, Sd T 7 (QL T) 600002 7302232 pc (nx pc)) : Sd T 7 (QL T) 600002 7302232 768 (bL_law_768 sb sL xs nx) := x_cV C CR mX8_give ⟨co_X8_give, init_X8, md_X8_give, by decide, by decide⟩ (ci := 8) (TX := TX8) (N := 51) rfl (by decide) ml_L_110 im_X8_give se_X8_give dL_law_768 (x_is C dL_law_771 (by decide) (x_al_n C dL_law_773 rfl (x_cV C CR mX8_thrown ⟨co_X8_thrown, init_X8, md_X8_thrown, by decide, by decide⟩ (ci := 8) (TX := TX8) (N := 51) rfl (by decide) ml_L_73 im_X8_thrown se_X8_thrown dL_law_774 (x_il C dL_law_777 (x_ic_eq C (hn 784) dL_law_779 (by decide) (x_ic C dL_law_782 (by decide) (x_rL C hbb dL_law_783)))))))
set_option maxRecDepth 20000 in
theorem oL_law_784 {T : Ct} {sb sL : Nat} {xs : Nat → Int32} (C : Cx T cL_law 7 RL 600002 7302232) (CR : CxR T 10 370) (hst : T.2.1.stackTraces = false) (hgy : gY T.2.2.2.2.2.2.2.2.2.2.2.2 T.2.2.2.2.1) (hX : va_X sb sL xs T.2.2.2.2.1 T.2.2.2.2.1.heap) (hbl : sb < T.2.2.2.2.1.heap.size) (hba : sb < T.2.2.2.2.2.2.2.2.2.2.2.2) (hbb : LwR T sb) {nx : Nat → Kt} (hn : ∀ pc, Sd T 7 (QL T) 600002 7302232 pc (nx pc)) : Sd T 7 (QL T) 600002 7302232 784 (bL_law_784 sb sL xs nx) := x_il C dL_law_784 (x_if_ne C (hn 801) dL_law_786 (by decide) (x_al_n C dL_law_789 rfl (x_ic C dL_law_790 (by decide) (x_lald C dL_law_791 (x_il C dL_law_792 (x_i2l C dL_law_794 (x_lcmp C dL_law_795 (x_if_eq C (hn 801) dL_law_796 (by decide) (x_ic C dL_law_799 (by decide) (x_rL C hbb dL_law_800))))))))))
set_option maxRecDepth 20000 in
theorem oL_law_801 {T : Ct} {sb sL : Nat} {xs : Nat → Int32} (C : Cx T cL_law 7 RL 600002 7302232) (CR : CxR T 10 370) (hst : T.2.1.stackTraces = false) (hgy : gY T.2.2.2.2.2.2.2.2.2.2.2.2 T.2.2.2.2.1) (hX : va_X sb sL xs T.2.2.2.2.1 T.2.2.2.2.1.heap) (hbl : sb < T.2.2.2.2.1.heap.size) (hba : sb < T.2.2.2.2.2.2.2.2.2.2.2.2) (hbb : LwR T sb) {nx : Nat → Kt} (hn : ∀ pc, Sd T 7 (QL T) 600002 7302232 pc (nx pc)) : Sd T 7 (QL T) 600002 7302232 801 (bL_law_801 sb sL xs nx) := x_goto C (hn 1106) dL_law_801 (by decide)
set_option maxRecDepth 20000 in
theorem oL_law_804 {T : Ct} {sb sL : Nat} {xs : Nat → Int32} (C : Cx T cL_law 7 RL 600002 7302232) (CR : CxR T 10 370) (hst : T.2.1.stackTraces = false) (hgy : gY T.2.2.2.2.2.2.2.2.2.2.2.2 T.2.2.2.2.1) (hX : va_X sb sL xs T.2.2.2.2.1 T.2.2.2.2.1.heap) (hbl : sb < T.2.2.2.2.1.heap.size) (hba : sb < T.2.2.2.2.2.2.2.2.2.2.2.2) (hbb : LwR T sb) {nx : Nat → Kt} (hn : ∀ pc, Sd T 7 (QL T) 600002 7302232 pc (nx pc)) : Sd T 7 (QL T) 600002 7302232 804 (bL_law_804 sb sL xs nx) := x_al_n C dL_law_804 rfl (x_al_n C dL_law_805 rfl (x_il C dL_law_806 (x_ic C dL_law_808 (by decide) (x_iadd C dL_law_809 (x_sld C hX hbl hba dL_law_810 (x_al_n C dL_law_811 rfl (x_il C dL_law_812 (x_ic C dL_law_814 (by decide) (x_iadd C dL_law_815 (x_sld C hX hbl hba dL_law_816 (x_al_n C dL_law_817 rfl (x_il C dL_law_818 (x_ic C dL_law_820 (by decide) (x_iadd C dL_law_821 (x_sld C hX hbl hba dL_law_822 (x_al_n C dL_law_823 rfl (x_cW C CR hst hgy mL_came co_L_came init_L md_L_came (by decide) (by decide) ml_L_111 sm_L_came dL_law_824 (x_is C dL_law_827 (by decide) (x_al_n C dL_law_829 rfl (x_al_n C dL_law_830 rfl (x_il C dL_law_831 (x_ic C dL_law_833 (by decide) (x_iadd C dL_law_834 (x_sld C hX hbl hba dL_law_835 (x_al_n C dL_law_836 rfl (x_il C dL_law_837 (x_ic C dL_law_839 (by decide) (x_iadd C dL_law_840 (x_sld C hX hbl hba dL_law_841 (x_al_n C dL_law_842 rfl (x_il C dL_law_843 (x_ic C dL_law_845 (by decide) (x_iadd C dL_law_846 (x_sld C hX hbl hba dL_law_847 (x_cV C CR mX8_came ⟨co_X8_came, init_X8, md_X8_came, by decide, by decide⟩ (ci := 8) (TX := TX8) (N := 51) rfl (by decide) ml_L_114 im_X8_came se_X8_came dL_law_848 (x_is C dL_law_851 (by decide) (x_al_n C dL_law_853 rfl (x_cV C CR mX8_thrown ⟨co_X8_thrown, init_X8, md_X8_thrown, by decide, by decide⟩ (ci := 8) (TX := TX8) (N := 51) rfl (by decide) ml_L_73 im_X8_thrown se_X8_thrown dL_law_854 (x_il C dL_law_857 (x_ic_eq C (hn 864) dL_law_859 (by decide) (x_ic C dL_law_862 (by decide) (x_rL C hbb dL_law_863))))))))))))))))))))))))))))))))))))))))))
set_option maxRecDepth 20000 in
theorem oL_law_864 {T : Ct} {sb sL : Nat} {xs : Nat → Int32} (C : Cx T cL_law 7 RL 600002 7302232) (CR : CxR T 10 370) (hst : T.2.1.stackTraces = false) (hgy : gY T.2.2.2.2.2.2.2.2.2.2.2.2 T.2.2.2.2.1) (hX : va_X sb sL xs T.2.2.2.2.1 T.2.2.2.2.1.heap) (hbl : sb < T.2.2.2.2.1.heap.size) (hba : sb < T.2.2.2.2.2.2.2.2.2.2.2.2) (hbb : LwR T sb) {nx : Nat → Kt} (hn : ∀ pc, Sd T 7 (QL T) 600002 7302232 pc (nx pc)) : Sd T 7 (QL T) 600002 7302232 864 (bL_law_864 sb sL xs nx) := x_il C dL_law_864 (x_if_ne C (hn 881) dL_law_866 (by decide) (x_al_n C dL_law_869 rfl (x_ic C dL_law_870 (by decide) (x_lald C dL_law_871 (x_il C dL_law_872 (x_i2l C dL_law_874 (x_lcmp C dL_law_875 (x_if_eq C (hn 881) dL_law_876 (by decide) (x_ic C dL_law_879 (by decide) (x_rL C hbb dL_law_880))))))))))
set_option maxRecDepth 20000 in
theorem oL_law_881 {T : Ct} {sb sL : Nat} {xs : Nat → Int32} (C : Cx T cL_law 7 RL 600002 7302232) (CR : CxR T 10 370) (hst : T.2.1.stackTraces = false) (hgy : gY T.2.2.2.2.2.2.2.2.2.2.2.2 T.2.2.2.2.1) (hX : va_X sb sL xs T.2.2.2.2.1 T.2.2.2.2.1.heap) (hbl : sb < T.2.2.2.2.1.heap.size) (hba : sb < T.2.2.2.2.2.2.2.2.2.2.2.2) (hbb : LwR T sb) {nx : Nat → Kt} (hn : ∀ pc, Sd T 7 (QL T) 600002 7302232 pc (nx pc)) : Sd T 7 (QL T) 600002 7302232 881 (bL_law_881 sb sL xs nx) := x_goto C (hn 1106) dL_law_881 (by decide)
set_option maxRecDepth 20000 in
theorem oL_law_884 {T : Ct} {sb sL : Nat} {xs : Nat → Int32} (C : Cx T cL_law 7 RL 600002 7302232) (CR : CxR T 10 370) (hst : T.2.1.stackTraces = false) (hgy : gY T.2.2.2.2.2.2.2.2.2.2.2.2 T.2.2.2.2.1) (hX : va_X sb sL xs T.2.2.2.2.1 T.2.2.2.2.1.heap) (hbl : sb < T.2.2.2.2.1.heap.size) (hba : sb < T.2.2.2.2.2.2.2.2.2.2.2.2) (hbb : LwR T sb) {nx : Nat → Kt} (hn : ∀ pc, Sd T 7 (QL T) 600002 7302232 pc (nx pc)) : Sd T 7 (QL T) 600002 7302232 884 (bL_law_884 sb sL xs nx) := x_al_n C dL_law_884 rfl (x_al_n C dL_law_885 rfl (x_il C dL_law_886 (x_ic C dL_law_888 (by decide) (x_iadd C dL_law_889 (x_sld C hX hbl hba dL_law_890 (x_al_n C dL_law_891 rfl (x_il C dL_law_892 (x_ic C dL_law_894 (by decide) (x_iadd C dL_law_895 (x_sld C hX hbl hba dL_law_896 (x_al_n C dL_law_897 rfl (x_il C dL_law_898 (x_ic C dL_law_900 (by decide) (x_iadd C dL_law_901 (x_sld C hX hbl hba dL_law_902 (x_al_n C dL_law_903 rfl (x_cW C CR hst hgy mL_look co_L_look init_L md_L_look (by decide) (by decide) ml_L_115 sm_L_look dL_law_904 (x_is C dL_law_907 (by decide) (x_al_n C dL_law_909 rfl (x_al_n C dL_law_910 rfl (x_il C dL_law_911 (x_ic C dL_law_913 (by decide) (x_iadd C dL_law_914 (x_sld C hX hbl hba dL_law_915 (x_al_n C dL_law_916 rfl (x_il C dL_law_917 (x_ic C dL_law_919 (by decide) (x_iadd C dL_law_920 (x_sld C hX hbl hba dL_law_921 (x_al_n C dL_law_922 rfl (x_il C dL_law_923 (x_ic C dL_law_925 (by decide) (x_iadd C dL_law_926 (x_sld C hX hbl hba dL_law_927 (x_cV C CR mX8_look ⟨co_X8_look, init_X8, md_X8_look, by decide, by decide⟩ (ci := 8) (TX := TX8) (N := 51) rfl (by decide) ml_L_117 im_X8_look se_X8_look dL_law_928 (x_is C dL_law_931 (by decide) (x_al_n C dL_law_933 rfl (x_cV C CR mX8_thrown ⟨co_X8_thrown, init_X8, md_X8_thrown, by decide, by decide⟩ (ci := 8) (TX := TX8) (N := 51) rfl (by decide) ml_L_73 im_X8_thrown se_X8_thrown dL_law_934 (x_il C dL_law_937 (x_ic_eq C (hn 944) dL_law_939 (by decide) (x_ic C dL_law_942 (by decide) (x_rL C hbb dL_law_943))))))))))))))))))))))))))))))))))))))))))
set_option maxRecDepth 20000 in
theorem oL_law_944 {T : Ct} {sb sL : Nat} {xs : Nat → Int32} (C : Cx T cL_law 7 RL 600002 7302232) (CR : CxR T 10 370) (hst : T.2.1.stackTraces = false) (hgy : gY T.2.2.2.2.2.2.2.2.2.2.2.2 T.2.2.2.2.1) (hX : va_X sb sL xs T.2.2.2.2.1 T.2.2.2.2.1.heap) (hbl : sb < T.2.2.2.2.1.heap.size) (hba : sb < T.2.2.2.2.2.2.2.2.2.2.2.2) (hbb : LwR T sb) {nx : Nat → Kt} (hn : ∀ pc, Sd T 7 (QL T) 600002 7302232 pc (nx pc)) : Sd T 7 (QL T) 600002 7302232 944 (bL_law_944 sb sL xs nx) := x_il C dL_law_944 (x_if_ne C (hn 961) dL_law_946 (by decide) (x_al_n C dL_law_949 rfl (x_ic C dL_law_950 (by decide) (x_lald C dL_law_951 (x_il C dL_law_952 (x_i2l C dL_law_954 (x_lcmp C dL_law_955 (x_if_eq C (hn 961) dL_law_956 (by decide) (x_ic C dL_law_959 (by decide) (x_rL C hbb dL_law_960))))))))))
set_option maxRecDepth 20000 in
theorem oL_law_961 {T : Ct} {sb sL : Nat} {xs : Nat → Int32} (C : Cx T cL_law 7 RL 600002 7302232) (CR : CxR T 10 370) (hst : T.2.1.stackTraces = false) (hgy : gY T.2.2.2.2.2.2.2.2.2.2.2.2 T.2.2.2.2.1) (hX : va_X sb sL xs T.2.2.2.2.1 T.2.2.2.2.1.heap) (hbl : sb < T.2.2.2.2.1.heap.size) (hba : sb < T.2.2.2.2.2.2.2.2.2.2.2.2) (hbb : LwR T sb) {nx : Nat → Kt} (hn : ∀ pc, Sd T 7 (QL T) 600002 7302232 pc (nx pc)) : Sd T 7 (QL T) 600002 7302232 961 (bL_law_961 sb sL xs nx) := x_goto C (hn 1106) dL_law_961 (by decide)
set_option maxRecDepth 20000 in
theorem oL_law_964 {T : Ct} {sb sL : Nat} {xs : Nat → Int32} (C : Cx T cL_law 7 RL 600002 7302232) (CR : CxR T 10 370) (hst : T.2.1.stackTraces = false) (hgy : gY T.2.2.2.2.2.2.2.2.2.2.2.2 T.2.2.2.2.1) (hX : va_X sb sL xs T.2.2.2.2.1 T.2.2.2.2.1.heap) (hbl : sb < T.2.2.2.2.1.heap.size) (hba : sb < T.2.2.2.2.2.2.2.2.2.2.2.2) (hbb : LwR T sb) {nx : Nat → Kt} (hn : ∀ pc, Sd T 7 (QL T) 600002 7302232 pc (nx pc)) : Sd T 7 (QL T) 600002 7302232 964 (bL_law_964 sb sL xs nx) := x_al_n C dL_law_964 rfl (x_al_n C dL_law_965 rfl (x_il C dL_law_966 (x_ic C dL_law_968 (by decide) (x_iadd C dL_law_969 (x_sld C hX hbl hba dL_law_970 (x_al_n C dL_law_971 rfl (x_il C dL_law_972 (x_ic C dL_law_974 (by decide) (x_iadd C dL_law_975 (x_sld C hX hbl hba dL_law_976 (x_al_n C dL_law_977 rfl (x_cW C CR hst hgy mL_cable co_L_cable init_L md_L_cable (by decide) (by decide) ml_L_118 sm_L_cable dL_law_978 (x_is C dL_law_981 (by decide) (x_al_n C dL_law_983 rfl (x_al_n C dL_law_984 rfl (x_il C dL_law_985 (x_ic C dL_law_987 (by decide) (x_iadd C dL_law_988 (x_sld C hX hbl hba dL_law_989 (x_al_n C dL_law_990 rfl (x_il C dL_law_991 (x_ic C dL_law_993 (by decide) (x_iadd C dL_law_994 (x_sld C hX hbl hba dL_law_995 (x_cV C CR mX8_cable ⟨co_X8_cable, init_X8, md_X8_cable, by decide, by decide⟩ (ci := 8) (TX := TX8) (N := 51) rfl (by decide) ml_L_120 im_X8_cable se_X8_cable dL_law_996 (x_is C dL_law_999 (by decide) (x_al_n C dL_law_1001 rfl (x_cV C CR mX8_thrown ⟨co_X8_thrown, init_X8, md_X8_thrown, by decide, by decide⟩ (ci := 8) (TX := TX8) (N := 51) rfl (by decide) ml_L_73 im_X8_thrown se_X8_thrown dL_law_1002 (x_il C dL_law_1005 (x_ic_eq C (hn 1012) dL_law_1007 (by decide) (x_ic C dL_law_1010 (by decide) (x_rL C hbb dL_law_1011))))))))))))))))))))))))))))))))
set_option maxRecDepth 20000 in
theorem oL_law_1012 {T : Ct} {sb sL : Nat} {xs : Nat → Int32} (C : Cx T cL_law 7 RL 600002 7302232) (CR : CxR T 10 370) (hst : T.2.1.stackTraces = false) (hgy : gY T.2.2.2.2.2.2.2.2.2.2.2.2 T.2.2.2.2.1) (hX : va_X sb sL xs T.2.2.2.2.1 T.2.2.2.2.1.heap) (hbl : sb < T.2.2.2.2.1.heap.size) (hba : sb < T.2.2.2.2.2.2.2.2.2.2.2.2) (hbb : LwR T sb) {nx : Nat → Kt} (hn : ∀ pc, Sd T 7 (QL T) 600002 7302232 pc (nx pc)) : Sd T 7 (QL T) 600002 7302232 1012 (bL_law_1012 sb sL xs nx) := x_il C dL_law_1012 (x_if_ne C (hn 1029) dL_law_1014 (by decide) (x_al_n C dL_law_1017 rfl (x_ic C dL_law_1018 (by decide) (x_lald C dL_law_1019 (x_il C dL_law_1020 (x_i2l C dL_law_1022 (x_lcmp C dL_law_1023 (x_if_eq C (hn 1029) dL_law_1024 (by decide) (x_ic C dL_law_1027 (by decide) (x_rL C hbb dL_law_1028))))))))))
set_option maxRecDepth 20000 in
theorem oL_law_1029 {T : Ct} {sb sL : Nat} {xs : Nat → Int32} (C : Cx T cL_law 7 RL 600002 7302232) (CR : CxR T 10 370) (hst : T.2.1.stackTraces = false) (hgy : gY T.2.2.2.2.2.2.2.2.2.2.2.2 T.2.2.2.2.1) (hX : va_X sb sL xs T.2.2.2.2.1 T.2.2.2.2.1.heap) (hbl : sb < T.2.2.2.2.1.heap.size) (hba : sb < T.2.2.2.2.2.2.2.2.2.2.2.2) (hbb : LwR T sb) {nx : Nat → Kt} (hn : ∀ pc, Sd T 7 (QL T) 600002 7302232 pc (nx pc)) : Sd T 7 (QL T) 600002 7302232 1029 (bL_law_1029 sb sL xs nx) := x_goto C (hn 1106) dL_law_1029 (by decide)
set_option maxRecDepth 20000 in
theorem oL_law_1032 {T : Ct} {sb sL : Nat} {xs : Nat → Int32} (C : Cx T cL_law 7 RL 600002 7302232) (CR : CxR T 10 370) (hst : T.2.1.stackTraces = false) (hgy : gY T.2.2.2.2.2.2.2.2.2.2.2.2 T.2.2.2.2.1) (hX : va_X sb sL xs T.2.2.2.2.1 T.2.2.2.2.1.heap) (hbl : sb < T.2.2.2.2.1.heap.size) (hba : sb < T.2.2.2.2.2.2.2.2.2.2.2.2) (hbb : LwR T sb) {nx : Nat → Kt} (hn : ∀ pc, Sd T 7 (QL T) 600002 7302232 pc (nx pc)) : Sd T 7 (QL T) 600002 7302232 1032 (bL_law_1032 sb sL xs nx) := x_al_n C dL_law_1032 rfl (x_al_n C dL_law_1033 rfl (x_il C dL_law_1034 (x_ic C dL_law_1036 (by decide) (x_iadd C dL_law_1037 (x_sld C hX hbl hba dL_law_1038 (x_al_n C dL_law_1039 rfl (x_il C dL_law_1040 (x_ic C dL_law_1042 (by decide) (x_iadd C dL_law_1043 (x_sld C hX hbl hba dL_law_1044 (x_al_n C dL_law_1045 rfl (x_il C dL_law_1046 (x_ic C dL_law_1048 (by decide) (x_iadd C dL_law_1049 (x_sld C hX hbl hba dL_law_1050 (x_cV C CR mX7_note ⟨co_X7_note, init_X7, md_X7_note, by decide, by decide⟩ (ci := 7) (TX := TX7) (N := 9) rfl (by decide) ml_L_121 im_X7_note se_X7_note dL_law_1051 (x_al_n C dL_law_1054 rfl (x_al_n C dL_law_1055 rfl (x_il C dL_law_1056 (x_ic C dL_law_1058 (by decide) (x_iadd C dL_law_1059 (x_sld C hX hbl hba dL_law_1060 (x_al_n C dL_law_1061 rfl (x_il C dL_law_1062 (x_ic C dL_law_1064 (by decide) (x_iadd C dL_law_1065 (x_sld C hX hbl hba dL_law_1066 (x_al_n C dL_law_1067 rfl (x_il C dL_law_1068 (x_ic C dL_law_1070 (by decide) (x_iadd C dL_law_1071 (x_sld C hX hbl hba dL_law_1072 (x_cV C CR mX8_note ⟨co_X8_note, init_X8, md_X8_note, by decide, by decide⟩ (ci := 8) (TX := TX8) (N := 51) rfl (by decide) ml_L_124 im_X8_note se_X8_note dL_law_1073 (x_ic_eq C (hn 1106) dL_law_1076 (by decide) (x_ic C dL_law_1079 (by decide) (x_rL C hbb dL_law_1080))))))))))))))))))))))))))))))))))))
set_option maxRecDepth 20000 in
theorem oL_law_1081 {T : Ct} {sb sL : Nat} {xs : Nat → Int32} (C : Cx T cL_law 7 RL 600002 7302232) (CR : CxR T 10 370) (hst : T.2.1.stackTraces = false) (hgy : gY T.2.2.2.2.2.2.2.2.2.2.2.2 T.2.2.2.2.1) (hX : va_X sb sL xs T.2.2.2.2.1 T.2.2.2.2.1.heap) (hbl : sb < T.2.2.2.2.1.heap.size) (hba : sb < T.2.2.2.2.2.2.2.2.2.2.2.2) (hbb : LwR T sb) {nx : Nat → Kt} (hn : ∀ pc, Sd T 7 (QL T) 600002 7302232 pc (nx pc)) : Sd T 7 (QL T) 600002 7302232 1081 (bL_law_1081 sb sL xs nx) := x_al_n C dL_law_1081 rfl (x_al_n C dL_law_1082 rfl (x_il C dL_law_1083 (x_ic C dL_law_1085 (by decide) (x_iadd C dL_law_1086 (x_sld C hX hbl hba dL_law_1087 (x_cV C CR mX7_count ⟨co_X7_count, init_X7, md_X7_count, by decide, by decide⟩ (ci := 7) (TX := TX7) (N := 9) rfl (by decide) ml_L_125 im_X7_count se_X7_count dL_law_1088 (x_al_n C dL_law_1091 rfl (x_al_n C dL_law_1092 rfl (x_il C dL_law_1093 (x_ic C dL_law_1095 (by decide) (x_iadd C dL_law_1096 (x_sld C hX hbl hba dL_law_1097 (x_cV C CR mX8_count ⟨co_X8_count, init_X8, md_X8_count, by decide, by decide⟩ (ci := 8) (TX := TX8) (N := 51) rfl (by decide) ml_L_128 im_X8_count se_X8_count dL_law_1098 (x_ic_eq C (hn 1106) dL_law_1101 (by decide) (x_ic C dL_law_1104 (by decide) (x_rL C hbb dL_law_1105))))))))))))))))
set_option maxRecDepth 20000 in
theorem oL_law_1106 {T : Ct} {sb sL : Nat} {xs : Nat → Int32} (C : Cx T cL_law 7 RL 600002 7302232) (CR : CxR T 10 370) (hst : T.2.1.stackTraces = false) (hgy : gY T.2.2.2.2.2.2.2.2.2.2.2.2 T.2.2.2.2.1) (hX : va_X sb sL xs T.2.2.2.2.1 T.2.2.2.2.1.heap) (hbl : sb < T.2.2.2.2.1.heap.size) (hba : sb < T.2.2.2.2.2.2.2.2.2.2.2.2) (hbb : LwR T sb) {nx : Nat → Kt} (hn : ∀ pc, Sd T 7 (QL T) 600002 7302232 pc (nx pc)) : Sd T 7 (QL T) 600002 7302232 1106 (bL_law_1106 sb sL xs nx) := x_inc C dL_law_1106 (by decide) (by decide) (x_goto C (hn 23) dL_law_1109 (by decide))
set_option maxRecDepth 20000 in
theorem oL_law_1112 {T : Ct} {sb sL : Nat} {xs : Nat → Int32} (C : Cx T cL_law 7 RL 600002 7302232) (CR : CxR T 10 370) (hst : T.2.1.stackTraces = false) (hgy : gY T.2.2.2.2.2.2.2.2.2.2.2.2 T.2.2.2.2.1) (hX : va_X sb sL xs T.2.2.2.2.1 T.2.2.2.2.1.heap) (hbl : sb < T.2.2.2.2.1.heap.size) (hba : sb < T.2.2.2.2.2.2.2.2.2.2.2.2) (hbb : LwR T sb) {nx : Nat → Kt} (hn : ∀ pc, Sd T 7 (QL T) 600002 7302232 pc (nx pc)) : Sd T 7 (QL T) 600002 7302232 1112 (bL_law_1112 sb sL xs nx) := x_ic C dL_law_1112 (by decide) (x_rL C hbb dL_law_1113)
set_option maxRecDepth 20000 in
theorem mL_law {T : Ct} {sb sL : Nat} {xs : Nat → Int32} (C : Cx T cL_law 7 RL 600002 7302232) (CR : CxR T 10 370) (hst : T.2.1.stackTraces = false) (hgy : gY T.2.2.2.2.2.2.2.2.2.2.2.2 T.2.2.2.2.1) (hX : va_X sb sL xs T.2.2.2.2.1 T.2.2.2.2.1.heap) (hbl : sb < T.2.2.2.2.1.heap.size) (hba : sb < T.2.2.2.2.2.2.2.2.2.2.2.2) (hbb : LwR T sb) {nx : Nat → Kt} (hn : ∀ pc, Sd T 7 (QL T) 600002 7302232 pc (nx pc)) : ∀ pc, Sd T 7 (QL T) 600002 7302232 pc (kL_law sb sL xs nx pc) := bse_ok _ (List.forall_mem_cons.mpr ⟨oL_law_0 C CR hst hgy hX hbl hba hbb hn, List.forall_mem_cons.mpr ⟨oL_law_23 C CR hst hgy hX hbl hba hbb hn, List.forall_mem_cons.mpr ⟨oL_law_112 C CR hst hgy hX hbl hba hbb hn, List.forall_mem_cons.mpr ⟨oL_law_160 C CR hst hgy hX hbl hba hbb hn, List.forall_mem_cons.mpr ⟨oL_law_177 C CR hst hgy hX hbl hba hbb hn, List.forall_mem_cons.mpr ⟨oL_law_180 C CR hst hgy hX hbl hba hbb hn, List.forall_mem_cons.mpr ⟨oL_law_228 C CR hst hgy hX hbl hba hbb hn, List.forall_mem_cons.mpr ⟨oL_law_245 C CR hst hgy hX hbl hba hbb hn, List.forall_mem_cons.mpr ⟨oL_law_248 C CR hst hgy hX hbl hba hbb hn, List.forall_mem_cons.mpr ⟨oL_law_306 C CR hst hgy hX hbl hba hbb hn, List.forall_mem_cons.mpr ⟨oL_law_317 C CR hst hgy hX hbl hba hbb hn, List.forall_mem_cons.mpr ⟨oL_law_320 C CR hst hgy hX hbl hba hbb hn, List.forall_mem_cons.mpr ⟨oL_law_346 C CR hst hgy hX hbl hba hbb hn, List.forall_mem_cons.mpr ⟨oL_law_347 C CR hst hgy hX hbl hba hbb hn, List.forall_mem_cons.mpr ⟨oL_law_360 C CR hst hgy hX hbl hba hbb hn, List.forall_mem_cons.mpr ⟨oL_law_361 C CR hst hgy hX hbl hba hbb hn, List.forall_mem_cons.mpr ⟨oL_law_392 C CR hst hgy hX hbl hba hbb hn, List.forall_mem_cons.mpr ⟨oL_law_393 C CR hst hgy hX hbl hba hbb hn, List.forall_mem_cons.mpr ⟨oL_law_406 C CR hst hgy hX hbl hba hbb hn, List.forall_mem_cons.mpr ⟨oL_law_407 C CR hst hgy hX hbl hba hbb hn, List.forall_mem_cons.mpr ⟨oL_law_421 C CR hst hgy hX hbl hba hbb hn, List.forall_mem_cons.mpr ⟨oL_law_424 C CR hst hgy hX hbl hba hbb hn, List.forall_mem_cons.mpr ⟨oL_law_482 C CR hst hgy hX hbl hba hbb hn, List.forall_mem_cons.mpr ⟨oL_law_493 C CR hst hgy hX hbl hba hbb hn, List.forall_mem_cons.mpr ⟨oL_law_496 C CR hst hgy hX hbl hba hbb hn, List.forall_mem_cons.mpr ⟨oL_law_529 C CR hst hgy hX hbl hba hbb hn, List.forall_mem_cons.mpr ⟨oL_law_532 C CR hst hgy hX hbl hba hbb hn, List.forall_mem_cons.mpr ⟨oL_law_552 C CR hst hgy hX hbl hba hbb hn, List.forall_mem_cons.mpr ⟨oL_law_553 C CR hst hgy hX hbl hba hbb hn, List.forall_mem_cons.mpr ⟨oL_law_578 C CR hst hgy hX hbl hba hbb hn, List.forall_mem_cons.mpr ⟨oL_law_579 C CR hst hgy hX hbl hba hbb hn, List.forall_mem_cons.mpr ⟨oL_law_593 C CR hst hgy hX hbl hba hbb hn, List.forall_mem_cons.mpr ⟨oL_law_596 C CR hst hgy hX hbl hba hbb hn, List.forall_mem_cons.mpr ⟨oL_law_653 C CR hst hgy hX hbl hba hbb hn, List.forall_mem_cons.mpr ⟨oL_law_656 C CR hst hgy hX hbl hba hbb hn, List.forall_mem_cons.mpr ⟨oL_law_692 C CR hst hgy hX hbl hba hbb hn, List.forall_mem_cons.mpr ⟨oL_law_709 C CR hst hgy hX hbl hba hbb hn, List.forall_mem_cons.mpr ⟨oL_law_712 C CR hst hgy hX hbl hba hbb hn, List.forall_mem_cons.mpr ⟨oL_law_768 C CR hst hgy hX hbl hba hbb hn, List.forall_mem_cons.mpr ⟨oL_law_784 C CR hst hgy hX hbl hba hbb hn, List.forall_mem_cons.mpr ⟨oL_law_801 C CR hst hgy hX hbl hba hbb hn, List.forall_mem_cons.mpr ⟨oL_law_804 C CR hst hgy hX hbl hba hbb hn, List.forall_mem_cons.mpr ⟨oL_law_864 C CR hst hgy hX hbl hba hbb hn, List.forall_mem_cons.mpr ⟨oL_law_881 C CR hst hgy hX hbl hba hbb hn, List.forall_mem_cons.mpr ⟨oL_law_884 C CR hst hgy hX hbl hba hbb hn, List.forall_mem_cons.mpr ⟨oL_law_944 C CR hst hgy hX hbl hba hbb hn, List.forall_mem_cons.mpr ⟨oL_law_961 C CR hst hgy hX hbl hba hbb hn, List.forall_mem_cons.mpr ⟨oL_law_964 C CR hst hgy hX hbl hba hbb hn, List.forall_mem_cons.mpr ⟨oL_law_1012 C CR hst hgy hX hbl hba hbb hn, List.forall_mem_cons.mpr ⟨oL_law_1029 C CR hst hgy hX hbl hba hbb hn, List.forall_mem_cons.mpr ⟨oL_law_1032 C CR hst hgy hX hbl hba hbb hn, List.forall_mem_cons.mpr ⟨oL_law_1081 C CR hst hgy hX hbl hba hbb hn, List.forall_mem_cons.mpr ⟨oL_law_1106 C CR hst hgy hX hbl hba hbb hn, List.forall_mem_cons.mpr ⟨oL_law_1112 C CR hst hgy hX hbl hba hbb hn, fun _ h => nomatch h⟩⟩⟩⟩⟩⟩⟩⟩⟩⟩⟩⟩⟩⟩⟩⟩⟩⟩⟩⟩⟩⟩⟩⟩⟩⟩⟩⟩⟩⟩⟩⟩⟩⟩⟩⟩⟩⟩⟩⟩⟩⟩⟩⟩⟩⟩⟩⟩⟩⟩⟩⟩⟩⟩)
