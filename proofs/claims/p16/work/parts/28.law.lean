theorem dL_law_0 : decode cL_law 0 = .ok (.new 8, 3) := by decide +kernel
theorem dL_law_3 : decode cL_law 3 = .ok (.dup, 1) := by decide +kernel
theorem dL_law_4 : decode cL_law 4 = .ok (.invokespecial 63, 3) := by decide +kernel
theorem dL_law_7 : decode cL_law 7 = .ok (.astore_n 1, 1) := by decide +kernel
theorem dL_law_8 : decode cL_law 8 = .ok (.new 64, 3) := by decide +kernel
theorem dL_law_11 : decode cL_law 11 = .ok (.dup, 1) := by decide +kernel
theorem dL_law_12 : decode cL_law 12 = .ok (.invokespecial 66, 3) := by decide +kernel
theorem dL_law_15 : decode cL_law 15 = .ok (.astore_n 2, 1) := by decide +kernel
theorem dL_law_16 : decode cL_law 16 = .ok (.iconst 1, 1) := by decide +kernel
theorem dL_law_17 : decode cL_law 17 = .ok (.newarray .long, 2) := by decide +kernel
theorem dL_law_19 : decode cL_law 19 = .ok (.astore_n 3, 1) := by decide +kernel
theorem dL_law_20 : decode cL_law 20 = .ok (.iconst 0, 1) := by decide +kernel
theorem dL_law_21 : decode cL_law 21 = .ok (.istore 4, 2) := by decide +kernel
theorem dL_law_23 : decode cL_law 23 = .ok (.iload 4, 2) := by decide +kernel
theorem dL_law_25 : decode cL_law 25 = .ok (.aload_n 0, 1) := by decide +kernel
theorem dL_law_26 : decode cL_law 26 = .ok (.arraylength, 1) := by decide +kernel
theorem dL_law_27 : decode cL_law 27 = .ok (.iconst 5, 1) := by decide +kernel
theorem dL_law_28 : decode cL_law 28 = .ok (.isub, 1) := by decide +kernel
theorem dL_law_29 : decode cL_law 29 = .ok (.if_icmp .gt 821, 3) := by decide +kernel
theorem dL_law_32 : decode cL_law 32 = .ok (.aload_n 0, 1) := by decide +kernel
theorem dL_law_33 : decode cL_law 33 = .ok (.iload 4, 2) := by decide +kernel
theorem dL_law_35 : decode cL_law 35 = .ok (.iaload, 1) := by decide +kernel
theorem dL_law_36 : decode cL_law 36 = .ok (.bipush 15, 2) := by decide +kernel
theorem dL_law_38 : decode cL_law 38 = .ok (.iand, 1) := by decide +kernel
theorem dL_law_39 : decode cL_law 39 = .ok (.tableswitch 805 0 14 #[73, 113, 153, 214, 307, 368, 393, 446, 495, 523, 587, 639, 691, 731, 780], 73) := by decide +kernel
theorem dL_law_112 : decode cL_law 112 = .ok (.aload_n 1, 1) := by decide +kernel
theorem dL_law_113 : decode cL_law 113 = .ok (.aload_n 0, 1) := by decide +kernel
theorem dL_law_114 : decode cL_law 114 = .ok (.iload 4, 2) := by decide +kernel
theorem dL_law_116 : decode cL_law 116 = .ok (.iconst 1, 1) := by decide +kernel
theorem dL_law_117 : decode cL_law 117 = .ok (.iadd, 1) := by decide +kernel
theorem dL_law_118 : decode cL_law 118 = .ok (.iaload, 1) := by decide +kernel
theorem dL_law_119 : decode cL_law 119 = .ok (.aload_n 0, 1) := by decide +kernel
theorem dL_law_120 : decode cL_law 120 = .ok (.iload 4, 2) := by decide +kernel
theorem dL_law_122 : decode cL_law 122 = .ok (.iconst 2, 1) := by decide +kernel
theorem dL_law_123 : decode cL_law 123 = .ok (.iadd, 1) := by decide +kernel
theorem dL_law_124 : decode cL_law 124 = .ok (.iaload, 1) := by decide +kernel
theorem dL_law_125 : decode cL_law 125 = .ok (.aload_n 3, 1) := by decide +kernel
theorem dL_law_126 : decode cL_law 126 = .ok (.invokestatic 67, 3) := by decide +kernel
theorem dL_law_129 : decode cL_law 129 = .ok (.istore 5, 2) := by decide +kernel
theorem dL_law_131 : decode cL_law 131 = .ok (.aload_n 2, 1) := by decide +kernel
theorem dL_law_132 : decode cL_law 132 = .ok (.aload_n 0, 1) := by decide +kernel
theorem dL_law_133 : decode cL_law 133 = .ok (.iload 4, 2) := by decide +kernel
theorem dL_law_135 : decode cL_law 135 = .ok (.iconst 1, 1) := by decide +kernel
theorem dL_law_136 : decode cL_law 136 = .ok (.iadd, 1) := by decide +kernel
theorem dL_law_137 : decode cL_law 137 = .ok (.iaload, 1) := by decide +kernel
theorem dL_law_138 : decode cL_law 138 = .ok (.aload_n 0, 1) := by decide +kernel
theorem dL_law_139 : decode cL_law 139 = .ok (.iload 4, 2) := by decide +kernel
theorem dL_law_141 : decode cL_law 141 = .ok (.iconst 2, 1) := by decide +kernel
theorem dL_law_142 : decode cL_law 142 = .ok (.iadd, 1) := by decide +kernel
theorem dL_law_143 : decode cL_law 143 = .ok (.iaload, 1) := by decide +kernel
theorem dL_law_144 : decode cL_law 144 = .ok (.invokevirtual 72, 3) := by decide +kernel
theorem dL_law_147 : decode cL_law 147 = .ok (.istore 6, 2) := by decide +kernel
theorem dL_law_149 : decode cL_law 149 = .ok (.goto 695, 3) := by decide +kernel
theorem dL_law_152 : decode cL_law 152 = .ok (.aload_n 1, 1) := by decide +kernel
theorem dL_law_153 : decode cL_law 153 = .ok (.aload_n 0, 1) := by decide +kernel
theorem dL_law_154 : decode cL_law 154 = .ok (.iload 4, 2) := by decide +kernel
theorem dL_law_156 : decode cL_law 156 = .ok (.iconst 1, 1) := by decide +kernel
theorem dL_law_157 : decode cL_law 157 = .ok (.iadd, 1) := by decide +kernel
theorem dL_law_158 : decode cL_law 158 = .ok (.iaload, 1) := by decide +kernel
theorem dL_law_159 : decode cL_law 159 = .ok (.aload_n 0, 1) := by decide +kernel
theorem dL_law_160 : decode cL_law 160 = .ok (.iload 4, 2) := by decide +kernel
theorem dL_law_162 : decode cL_law 162 = .ok (.iconst 2, 1) := by decide +kernel
theorem dL_law_163 : decode cL_law 163 = .ok (.iadd, 1) := by decide +kernel
theorem dL_law_164 : decode cL_law 164 = .ok (.iaload, 1) := by decide +kernel
theorem dL_law_165 : decode cL_law 165 = .ok (.aload_n 3, 1) := by decide +kernel
theorem dL_law_166 : decode cL_law 166 = .ok (.invokestatic 73, 3) := by decide +kernel
theorem dL_law_169 : decode cL_law 169 = .ok (.istore 5, 2) := by decide +kernel
theorem dL_law_171 : decode cL_law 171 = .ok (.aload_n 2, 1) := by decide +kernel
theorem dL_law_172 : decode cL_law 172 = .ok (.aload_n 0, 1) := by decide +kernel
theorem dL_law_173 : decode cL_law 173 = .ok (.iload 4, 2) := by decide +kernel
theorem dL_law_175 : decode cL_law 175 = .ok (.iconst 1, 1) := by decide +kernel
theorem dL_law_176 : decode cL_law 176 = .ok (.iadd, 1) := by decide +kernel
theorem dL_law_177 : decode cL_law 177 = .ok (.iaload, 1) := by decide +kernel
theorem dL_law_178 : decode cL_law 178 = .ok (.aload_n 0, 1) := by decide +kernel
theorem dL_law_179 : decode cL_law 179 = .ok (.iload 4, 2) := by decide +kernel
theorem dL_law_181 : decode cL_law 181 = .ok (.iconst 2, 1) := by decide +kernel
theorem dL_law_182 : decode cL_law 182 = .ok (.iadd, 1) := by decide +kernel
theorem dL_law_183 : decode cL_law 183 = .ok (.iaload, 1) := by decide +kernel
theorem dL_law_184 : decode cL_law 184 = .ok (.invokevirtual 75, 3) := by decide +kernel
theorem dL_law_187 : decode cL_law 187 = .ok (.istore 6, 2) := by decide +kernel
theorem dL_law_189 : decode cL_law 189 = .ok (.goto 655, 3) := by decide +kernel
theorem dL_law_192 : decode cL_law 192 = .ok (.aload_n 1, 1) := by decide +kernel
theorem dL_law_193 : decode cL_law 193 = .ok (.aload_n 0, 1) := by decide +kernel
theorem dL_law_194 : decode cL_law 194 = .ok (.iload 4, 2) := by decide +kernel
theorem dL_law_196 : decode cL_law 196 = .ok (.iconst 1, 1) := by decide +kernel
theorem dL_law_197 : decode cL_law 197 = .ok (.iadd, 1) := by decide +kernel
theorem dL_law_198 : decode cL_law 198 = .ok (.iaload, 1) := by decide +kernel
theorem dL_law_199 : decode cL_law 199 = .ok (.aload_n 0, 1) := by decide +kernel
theorem dL_law_200 : decode cL_law 200 = .ok (.iload 4, 2) := by decide +kernel
theorem dL_law_202 : decode cL_law 202 = .ok (.iconst 2, 1) := by decide +kernel
theorem dL_law_203 : decode cL_law 203 = .ok (.iadd, 1) := by decide +kernel
theorem dL_law_204 : decode cL_law 204 = .ok (.iaload, 1) := by decide +kernel
theorem dL_law_205 : decode cL_law 205 = .ok (.aload_n 0, 1) := by decide +kernel
theorem dL_law_206 : decode cL_law 206 = .ok (.iload 4, 2) := by decide +kernel
theorem dL_law_208 : decode cL_law 208 = .ok (.iconst 3, 1) := by decide +kernel
theorem dL_law_209 : decode cL_law 209 = .ok (.iadd, 1) := by decide +kernel
theorem dL_law_210 : decode cL_law 210 = .ok (.iaload, 1) := by decide +kernel
theorem dL_law_211 : decode cL_law 211 = .ok (.aload_n 0, 1) := by decide +kernel
theorem dL_law_212 : decode cL_law 212 = .ok (.iload 4, 2) := by decide +kernel
theorem dL_law_214 : decode cL_law 214 = .ok (.iconst 4, 1) := by decide +kernel
theorem dL_law_215 : decode cL_law 215 = .ok (.iadd, 1) := by decide +kernel
theorem dL_law_216 : decode cL_law 216 = .ok (.iaload, 1) := by decide +kernel
theorem dL_law_217 : decode cL_law 217 = .ok (.invokestatic 76, 3) := by decide +kernel
theorem dL_law_220 : decode cL_law 220 = .ok (.istore 5, 2) := by decide +kernel
theorem dL_law_222 : decode cL_law 222 = .ok (.aload_n 2, 1) := by decide +kernel
theorem dL_law_223 : decode cL_law 223 = .ok (.aload_n 0, 1) := by decide +kernel
theorem dL_law_224 : decode cL_law 224 = .ok (.iload 4, 2) := by decide +kernel
theorem dL_law_226 : decode cL_law 226 = .ok (.iconst 1, 1) := by decide +kernel
theorem dL_law_227 : decode cL_law 227 = .ok (.iadd, 1) := by decide +kernel
theorem dL_law_228 : decode cL_law 228 = .ok (.iaload, 1) := by decide +kernel
theorem dL_law_229 : decode cL_law 229 = .ok (.aload_n 0, 1) := by decide +kernel
theorem dL_law_230 : decode cL_law 230 = .ok (.iload 4, 2) := by decide +kernel
theorem dL_law_232 : decode cL_law 232 = .ok (.iconst 2, 1) := by decide +kernel
theorem dL_law_233 : decode cL_law 233 = .ok (.iadd, 1) := by decide +kernel
theorem dL_law_234 : decode cL_law 234 = .ok (.iaload, 1) := by decide +kernel
theorem dL_law_235 : decode cL_law 235 = .ok (.aload_n 0, 1) := by decide +kernel
theorem dL_law_236 : decode cL_law 236 = .ok (.iload 4, 2) := by decide +kernel
theorem dL_law_238 : decode cL_law 238 = .ok (.iconst 3, 1) := by decide +kernel
theorem dL_law_239 : decode cL_law 239 = .ok (.iadd, 1) := by decide +kernel
theorem dL_law_240 : decode cL_law 240 = .ok (.iaload, 1) := by decide +kernel
theorem dL_law_241 : decode cL_law 241 = .ok (.aload_n 0, 1) := by decide +kernel
theorem dL_law_242 : decode cL_law 242 = .ok (.iload 4, 2) := by decide +kernel
theorem dL_law_244 : decode cL_law 244 = .ok (.iconst 4, 1) := by decide +kernel
theorem dL_law_245 : decode cL_law 245 = .ok (.iadd, 1) := by decide +kernel
theorem dL_law_246 : decode cL_law 246 = .ok (.iaload, 1) := by decide +kernel
theorem dL_law_247 : decode cL_law 247 = .ok (.invokevirtual 79, 3) := by decide +kernel
theorem dL_law_250 : decode cL_law 250 = .ok (.goto 594, 3) := by decide +kernel
theorem dL_law_253 : decode cL_law 253 = .ok (.aload_n 1, 1) := by decide +kernel
theorem dL_law_254 : decode cL_law 254 = .ok (.aload_n 0, 1) := by decide +kernel
theorem dL_law_255 : decode cL_law 255 = .ok (.iload 4, 2) := by decide +kernel
theorem dL_law_257 : decode cL_law 257 = .ok (.iconst 1, 1) := by decide +kernel
theorem dL_law_258 : decode cL_law 258 = .ok (.iadd, 1) := by decide +kernel
theorem dL_law_259 : decode cL_law 259 = .ok (.iaload, 1) := by decide +kernel
theorem dL_law_260 : decode cL_law 260 = .ok (.aload_n 0, 1) := by decide +kernel
theorem dL_law_261 : decode cL_law 261 = .ok (.iload 4, 2) := by decide +kernel
theorem dL_law_263 : decode cL_law 263 = .ok (.iconst 2, 1) := by decide +kernel
theorem dL_law_264 : decode cL_law 264 = .ok (.iadd, 1) := by decide +kernel
theorem dL_law_265 : decode cL_law 265 = .ok (.iaload, 1) := by decide +kernel
theorem dL_law_266 : decode cL_law 266 = .ok (.aload_n 0, 1) := by decide +kernel
theorem dL_law_267 : decode cL_law 267 = .ok (.iload 4, 2) := by decide +kernel
theorem dL_law_269 : decode cL_law 269 = .ok (.iconst 3, 1) := by decide +kernel
theorem dL_law_270 : decode cL_law 270 = .ok (.iadd, 1) := by decide +kernel
theorem dL_law_271 : decode cL_law 271 = .ok (.iaload, 1) := by decide +kernel
theorem dL_law_272 : decode cL_law 272 = .ok (.ifCond .eq 7, 3) := by decide +kernel
theorem dL_law_275 : decode cL_law 275 = .ok (.iconst 1, 1) := by decide +kernel
theorem dL_law_276 : decode cL_law 276 = .ok (.goto 4, 3) := by decide +kernel
theorem dL_law_279 : decode cL_law 279 = .ok (.iconst 0, 1) := by decide +kernel
theorem dL_law_280 : decode cL_law 280 = .ok (.aload_n 0, 1) := by decide +kernel
theorem dL_law_281 : decode cL_law 281 = .ok (.iload 4, 2) := by decide +kernel
theorem dL_law_283 : decode cL_law 283 = .ok (.iconst 4, 1) := by decide +kernel
theorem dL_law_284 : decode cL_law 284 = .ok (.iadd, 1) := by decide +kernel
theorem dL_law_285 : decode cL_law 285 = .ok (.iaload, 1) := by decide +kernel
theorem dL_law_286 : decode cL_law 286 = .ok (.ifCond .eq 7, 3) := by decide +kernel
theorem dL_law_289 : decode cL_law 289 = .ok (.iconst 1, 1) := by decide +kernel
theorem dL_law_290 : decode cL_law 290 = .ok (.goto 4, 3) := by decide +kernel
theorem dL_law_293 : decode cL_law 293 = .ok (.iconst 0, 1) := by decide +kernel
theorem dL_law_294 : decode cL_law 294 = .ok (.invokestatic 80, 3) := by decide +kernel
theorem dL_law_297 : decode cL_law 297 = .ok (.istore 5, 2) := by decide +kernel
theorem dL_law_299 : decode cL_law 299 = .ok (.aload_n 2, 1) := by decide +kernel
theorem dL_law_300 : decode cL_law 300 = .ok (.aload_n 0, 1) := by decide +kernel
theorem dL_law_301 : decode cL_law 301 = .ok (.iload 4, 2) := by decide +kernel
theorem dL_law_303 : decode cL_law 303 = .ok (.iconst 1, 1) := by decide +kernel
theorem dL_law_304 : decode cL_law 304 = .ok (.iadd, 1) := by decide +kernel
theorem dL_law_305 : decode cL_law 305 = .ok (.iaload, 1) := by decide +kernel
theorem dL_law_306 : decode cL_law 306 = .ok (.aload_n 0, 1) := by decide +kernel
theorem dL_law_307 : decode cL_law 307 = .ok (.iload 4, 2) := by decide +kernel
theorem dL_law_309 : decode cL_law 309 = .ok (.iconst 2, 1) := by decide +kernel
theorem dL_law_310 : decode cL_law 310 = .ok (.iadd, 1) := by decide +kernel
theorem dL_law_311 : decode cL_law 311 = .ok (.iaload, 1) := by decide +kernel
theorem dL_law_312 : decode cL_law 312 = .ok (.aload_n 0, 1) := by decide +kernel
theorem dL_law_313 : decode cL_law 313 = .ok (.iload 4, 2) := by decide +kernel
theorem dL_law_315 : decode cL_law 315 = .ok (.iconst 3, 1) := by decide +kernel
theorem dL_law_316 : decode cL_law 316 = .ok (.iadd, 1) := by decide +kernel
theorem dL_law_317 : decode cL_law 317 = .ok (.iaload, 1) := by decide +kernel
theorem dL_law_318 : decode cL_law 318 = .ok (.ifCond .eq 7, 3) := by decide +kernel
theorem dL_law_321 : decode cL_law 321 = .ok (.iconst 1, 1) := by decide +kernel
theorem dL_law_322 : decode cL_law 322 = .ok (.goto 4, 3) := by decide +kernel
theorem dL_law_325 : decode cL_law 325 = .ok (.iconst 0, 1) := by decide +kernel
theorem dL_law_326 : decode cL_law 326 = .ok (.aload_n 0, 1) := by decide +kernel
theorem dL_law_327 : decode cL_law 327 = .ok (.iload 4, 2) := by decide +kernel
theorem dL_law_329 : decode cL_law 329 = .ok (.iconst 4, 1) := by decide +kernel
theorem dL_law_330 : decode cL_law 330 = .ok (.iadd, 1) := by decide +kernel
theorem dL_law_331 : decode cL_law 331 = .ok (.iaload, 1) := by decide +kernel
theorem dL_law_332 : decode cL_law 332 = .ok (.ifCond .eq 7, 3) := by decide +kernel
theorem dL_law_335 : decode cL_law 335 = .ok (.iconst 1, 1) := by decide +kernel
theorem dL_law_336 : decode cL_law 336 = .ok (.goto 4, 3) := by decide +kernel
theorem dL_law_339 : decode cL_law 339 = .ok (.iconst 0, 1) := by decide +kernel
theorem dL_law_340 : decode cL_law 340 = .ok (.invokevirtual 83, 3) := by decide +kernel
theorem dL_law_343 : decode cL_law 343 = .ok (.goto 501, 3) := by decide +kernel
theorem dL_law_346 : decode cL_law 346 = .ok (.aload_n 1, 1) := by decide +kernel
theorem dL_law_347 : decode cL_law 347 = .ok (.aload_n 0, 1) := by decide +kernel
theorem dL_law_348 : decode cL_law 348 = .ok (.iload 4, 2) := by decide +kernel
theorem dL_law_350 : decode cL_law 350 = .ok (.iconst 1, 1) := by decide +kernel
theorem dL_law_351 : decode cL_law 351 = .ok (.iadd, 1) := by decide +kernel
theorem dL_law_352 : decode cL_law 352 = .ok (.iaload, 1) := by decide +kernel
theorem dL_law_353 : decode cL_law 353 = .ok (.aload_n 0, 1) := by decide +kernel
theorem dL_law_354 : decode cL_law 354 = .ok (.iload 4, 2) := by decide +kernel
theorem dL_law_356 : decode cL_law 356 = .ok (.iconst 2, 1) := by decide +kernel
theorem dL_law_357 : decode cL_law 357 = .ok (.iadd, 1) := by decide +kernel
theorem dL_law_358 : decode cL_law 358 = .ok (.iaload, 1) := by decide +kernel
theorem dL_law_359 : decode cL_law 359 = .ok (.aload_n 0, 1) := by decide +kernel
theorem dL_law_360 : decode cL_law 360 = .ok (.iload 4, 2) := by decide +kernel
theorem dL_law_362 : decode cL_law 362 = .ok (.iconst 3, 1) := by decide +kernel
theorem dL_law_363 : decode cL_law 363 = .ok (.iadd, 1) := by decide +kernel
theorem dL_law_364 : decode cL_law 364 = .ok (.iaload, 1) := by decide +kernel
theorem dL_law_365 : decode cL_law 365 = .ok (.aload_n 0, 1) := by decide +kernel
theorem dL_law_366 : decode cL_law 366 = .ok (.iload 4, 2) := by decide +kernel
theorem dL_law_368 : decode cL_law 368 = .ok (.iconst 4, 1) := by decide +kernel
theorem dL_law_369 : decode cL_law 369 = .ok (.iadd, 1) := by decide +kernel
theorem dL_law_370 : decode cL_law 370 = .ok (.iaload, 1) := by decide +kernel
theorem dL_law_371 : decode cL_law 371 = .ok (.invokestatic 84, 3) := by decide +kernel
theorem dL_law_374 : decode cL_law 374 = .ok (.istore 5, 2) := by decide +kernel
theorem dL_law_376 : decode cL_law 376 = .ok (.aload_n 2, 1) := by decide +kernel
theorem dL_law_377 : decode cL_law 377 = .ok (.aload_n 0, 1) := by decide +kernel
theorem dL_law_378 : decode cL_law 378 = .ok (.iload 4, 2) := by decide +kernel
theorem dL_law_380 : decode cL_law 380 = .ok (.iconst 1, 1) := by decide +kernel
theorem dL_law_381 : decode cL_law 381 = .ok (.iadd, 1) := by decide +kernel
theorem dL_law_382 : decode cL_law 382 = .ok (.iaload, 1) := by decide +kernel
theorem dL_law_383 : decode cL_law 383 = .ok (.aload_n 0, 1) := by decide +kernel
theorem dL_law_384 : decode cL_law 384 = .ok (.iload 4, 2) := by decide +kernel
theorem dL_law_386 : decode cL_law 386 = .ok (.iconst 2, 1) := by decide +kernel
theorem dL_law_387 : decode cL_law 387 = .ok (.iadd, 1) := by decide +kernel
theorem dL_law_388 : decode cL_law 388 = .ok (.iaload, 1) := by decide +kernel
theorem dL_law_389 : decode cL_law 389 = .ok (.aload_n 0, 1) := by decide +kernel
theorem dL_law_390 : decode cL_law 390 = .ok (.iload 4, 2) := by decide +kernel
theorem dL_law_392 : decode cL_law 392 = .ok (.iconst 3, 1) := by decide +kernel
theorem dL_law_393 : decode cL_law 393 = .ok (.iadd, 1) := by decide +kernel
theorem dL_law_394 : decode cL_law 394 = .ok (.iaload, 1) := by decide +kernel
theorem dL_law_395 : decode cL_law 395 = .ok (.aload_n 0, 1) := by decide +kernel
theorem dL_law_396 : decode cL_law 396 = .ok (.iload 4, 2) := by decide +kernel
theorem dL_law_398 : decode cL_law 398 = .ok (.iconst 4, 1) := by decide +kernel
theorem dL_law_399 : decode cL_law 399 = .ok (.iadd, 1) := by decide +kernel
theorem dL_law_400 : decode cL_law 400 = .ok (.iaload, 1) := by decide +kernel
theorem dL_law_401 : decode cL_law 401 = .ok (.invokevirtual 86, 3) := by decide +kernel
theorem dL_law_404 : decode cL_law 404 = .ok (.goto 440, 3) := by decide +kernel
theorem dL_law_407 : decode cL_law 407 = .ok (.aload_n 1, 1) := by decide +kernel
theorem dL_law_408 : decode cL_law 408 = .ok (.aload_n 0, 1) := by decide +kernel
theorem dL_law_409 : decode cL_law 409 = .ok (.iload 4, 2) := by decide +kernel
theorem dL_law_411 : decode cL_law 411 = .ok (.iconst 1, 1) := by decide +kernel
theorem dL_law_412 : decode cL_law 412 = .ok (.iadd, 1) := by decide +kernel
theorem dL_law_413 : decode cL_law 413 = .ok (.iaload, 1) := by decide +kernel
theorem dL_law_414 : decode cL_law 414 = .ok (.invokestatic 87, 3) := by decide +kernel
theorem dL_law_417 : decode cL_law 417 = .ok (.istore 5, 2) := by decide +kernel
theorem dL_law_419 : decode cL_law 419 = .ok (.aload_n 2, 1) := by decide +kernel
theorem dL_law_420 : decode cL_law 420 = .ok (.aload_n 0, 1) := by decide +kernel
theorem dL_law_421 : decode cL_law 421 = .ok (.iload 4, 2) := by decide +kernel
theorem dL_law_423 : decode cL_law 423 = .ok (.iconst 1, 1) := by decide +kernel
theorem dL_law_424 : decode cL_law 424 = .ok (.iadd, 1) := by decide +kernel
theorem dL_law_425 : decode cL_law 425 = .ok (.iaload, 1) := by decide +kernel
theorem dL_law_426 : decode cL_law 426 = .ok (.invokevirtual 90, 3) := by decide +kernel
theorem dL_law_429 : decode cL_law 429 = .ok (.goto 415, 3) := by decide +kernel
theorem dL_law_432 : decode cL_law 432 = .ok (.aload_n 1, 1) := by decide +kernel
theorem dL_law_433 : decode cL_law 433 = .ok (.aload_n 0, 1) := by decide +kernel
theorem dL_law_434 : decode cL_law 434 = .ok (.iload 4, 2) := by decide +kernel
theorem dL_law_436 : decode cL_law 436 = .ok (.iconst 1, 1) := by decide +kernel
theorem dL_law_437 : decode cL_law 437 = .ok (.iadd, 1) := by decide +kernel
theorem dL_law_438 : decode cL_law 438 = .ok (.iaload, 1) := by decide +kernel
theorem dL_law_439 : decode cL_law 439 = .ok (.aload_n 0, 1) := by decide +kernel
theorem dL_law_440 : decode cL_law 440 = .ok (.iload 4, 2) := by decide +kernel
theorem dL_law_442 : decode cL_law 442 = .ok (.iconst 2, 1) := by decide +kernel
theorem dL_law_443 : decode cL_law 443 = .ok (.iadd, 1) := by decide +kernel
theorem dL_law_444 : decode cL_law 444 = .ok (.iaload, 1) := by decide +kernel
theorem dL_law_445 : decode cL_law 445 = .ok (.ifCond .eq 7, 3) := by decide +kernel
theorem dL_law_448 : decode cL_law 448 = .ok (.iconst 1, 1) := by decide +kernel
theorem dL_law_449 : decode cL_law 449 = .ok (.goto 4, 3) := by decide +kernel
theorem dL_law_452 : decode cL_law 452 = .ok (.iconst 0, 1) := by decide +kernel
theorem dL_law_453 : decode cL_law 453 = .ok (.invokestatic 91, 3) := by decide +kernel
theorem dL_law_456 : decode cL_law 456 = .ok (.istore 5, 2) := by decide +kernel
theorem dL_law_458 : decode cL_law 458 = .ok (.aload_n 2, 1) := by decide +kernel
theorem dL_law_459 : decode cL_law 459 = .ok (.aload_n 0, 1) := by decide +kernel
theorem dL_law_460 : decode cL_law 460 = .ok (.iload 4, 2) := by decide +kernel
theorem dL_law_462 : decode cL_law 462 = .ok (.iconst 1, 1) := by decide +kernel
theorem dL_law_463 : decode cL_law 463 = .ok (.iadd, 1) := by decide +kernel
theorem dL_law_464 : decode cL_law 464 = .ok (.iaload, 1) := by decide +kernel
theorem dL_law_465 : decode cL_law 465 = .ok (.aload_n 0, 1) := by decide +kernel
theorem dL_law_466 : decode cL_law 466 = .ok (.iload 4, 2) := by decide +kernel
theorem dL_law_468 : decode cL_law 468 = .ok (.iconst 2, 1) := by decide +kernel
theorem dL_law_469 : decode cL_law 469 = .ok (.iadd, 1) := by decide +kernel
theorem dL_law_470 : decode cL_law 470 = .ok (.iaload, 1) := by decide +kernel
theorem dL_law_471 : decode cL_law 471 = .ok (.ifCond .eq 7, 3) := by decide +kernel
theorem dL_law_474 : decode cL_law 474 = .ok (.iconst 1, 1) := by decide +kernel
theorem dL_law_475 : decode cL_law 475 = .ok (.goto 4, 3) := by decide +kernel
theorem dL_law_478 : decode cL_law 478 = .ok (.iconst 0, 1) := by decide +kernel
theorem dL_law_479 : decode cL_law 479 = .ok (.invokevirtual 94, 3) := by decide +kernel
theorem dL_law_482 : decode cL_law 482 = .ok (.goto 362, 3) := by decide +kernel
theorem dL_law_485 : decode cL_law 485 = .ok (.aload_n 1, 1) := by decide +kernel
theorem dL_law_486 : decode cL_law 486 = .ok (.aload_n 0, 1) := by decide +kernel
theorem dL_law_487 : decode cL_law 487 = .ok (.iload 4, 2) := by decide +kernel
theorem dL_law_489 : decode cL_law 489 = .ok (.iconst 1, 1) := by decide +kernel
theorem dL_law_490 : decode cL_law 490 = .ok (.iadd, 1) := by decide +kernel
theorem dL_law_491 : decode cL_law 491 = .ok (.iaload, 1) := by decide +kernel
theorem dL_law_492 : decode cL_law 492 = .ok (.aload_n 0, 1) := by decide +kernel
theorem dL_law_493 : decode cL_law 493 = .ok (.iload 4, 2) := by decide +kernel
theorem dL_law_495 : decode cL_law 495 = .ok (.iconst 2, 1) := by decide +kernel
theorem dL_law_496 : decode cL_law 496 = .ok (.iadd, 1) := by decide +kernel
theorem dL_law_497 : decode cL_law 497 = .ok (.iaload, 1) := by decide +kernel
theorem dL_law_498 : decode cL_law 498 = .ok (.aload_n 0, 1) := by decide +kernel
theorem dL_law_499 : decode cL_law 499 = .ok (.iload 4, 2) := by decide +kernel
theorem dL_law_501 : decode cL_law 501 = .ok (.iconst 3, 1) := by decide +kernel
theorem dL_law_502 : decode cL_law 502 = .ok (.iadd, 1) := by decide +kernel
theorem dL_law_503 : decode cL_law 503 = .ok (.iaload, 1) := by decide +kernel
theorem dL_law_504 : decode cL_law 504 = .ok (.invokestatic 95, 3) := by decide +kernel
theorem dL_law_507 : decode cL_law 507 = .ok (.istore 5, 2) := by decide +kernel
theorem dL_law_509 : decode cL_law 509 = .ok (.aload_n 2, 1) := by decide +kernel
theorem dL_law_510 : decode cL_law 510 = .ok (.aload_n 0, 1) := by decide +kernel
theorem dL_law_511 : decode cL_law 511 = .ok (.iload 4, 2) := by decide +kernel
theorem dL_law_513 : decode cL_law 513 = .ok (.iconst 1, 1) := by decide +kernel
theorem dL_law_514 : decode cL_law 514 = .ok (.iadd, 1) := by decide +kernel
theorem dL_law_515 : decode cL_law 515 = .ok (.iaload, 1) := by decide +kernel
theorem dL_law_516 : decode cL_law 516 = .ok (.aload_n 0, 1) := by decide +kernel
theorem dL_law_517 : decode cL_law 517 = .ok (.iload 4, 2) := by decide +kernel
theorem dL_law_519 : decode cL_law 519 = .ok (.iconst 2, 1) := by decide +kernel
theorem dL_law_520 : decode cL_law 520 = .ok (.iadd, 1) := by decide +kernel
theorem dL_law_521 : decode cL_law 521 = .ok (.iaload, 1) := by decide +kernel
theorem dL_law_522 : decode cL_law 522 = .ok (.aload_n 0, 1) := by decide +kernel
theorem dL_law_523 : decode cL_law 523 = .ok (.iload 4, 2) := by decide +kernel
theorem dL_law_525 : decode cL_law 525 = .ok (.iconst 3, 1) := by decide +kernel
theorem dL_law_526 : decode cL_law 526 = .ok (.iadd, 1) := by decide +kernel
theorem dL_law_527 : decode cL_law 527 = .ok (.iaload, 1) := by decide +kernel
theorem dL_law_528 : decode cL_law 528 = .ok (.invokevirtual 98, 3) := by decide +kernel
theorem dL_law_531 : decode cL_law 531 = .ok (.goto 313, 3) := by decide +kernel
theorem dL_law_534 : decode cL_law 534 = .ok (.aload_n 1, 1) := by decide +kernel
theorem dL_law_535 : decode cL_law 535 = .ok (.aload_n 0, 1) := by decide +kernel
theorem dL_law_536 : decode cL_law 536 = .ok (.iload 4, 2) := by decide +kernel
theorem dL_law_538 : decode cL_law 538 = .ok (.iconst 1, 1) := by decide +kernel
theorem dL_law_539 : decode cL_law 539 = .ok (.iadd, 1) := by decide +kernel
theorem dL_law_540 : decode cL_law 540 = .ok (.iaload, 1) := by decide +kernel
theorem dL_law_541 : decode cL_law 541 = .ok (.aload_n 3, 1) := by decide +kernel
theorem dL_law_542 : decode cL_law 542 = .ok (.invokestatic 99, 3) := by decide +kernel
theorem dL_law_545 : decode cL_law 545 = .ok (.istore 5, 2) := by decide +kernel
theorem dL_law_547 : decode cL_law 547 = .ok (.aload_n 2, 1) := by decide +kernel
theorem dL_law_548 : decode cL_law 548 = .ok (.aload_n 0, 1) := by decide +kernel
theorem dL_law_549 : decode cL_law 549 = .ok (.iload 4, 2) := by decide +kernel
theorem dL_law_551 : decode cL_law 551 = .ok (.iconst 1, 1) := by decide +kernel
theorem dL_law_552 : decode cL_law 552 = .ok (.iadd, 1) := by decide +kernel
theorem dL_law_553 : decode cL_law 553 = .ok (.iaload, 1) := by decide +kernel
theorem dL_law_554 : decode cL_law 554 = .ok (.invokevirtual 102, 3) := by decide +kernel
theorem dL_law_557 : decode cL_law 557 = .ok (.istore 6, 2) := by decide +kernel
theorem dL_law_559 : decode cL_law 559 = .ok (.goto 285, 3) := by decide +kernel
theorem dL_law_562 : decode cL_law 562 = .ok (.aload_n 1, 1) := by decide +kernel
theorem dL_law_563 : decode cL_law 563 = .ok (.aload_n 0, 1) := by decide +kernel
theorem dL_law_564 : decode cL_law 564 = .ok (.iload 4, 2) := by decide +kernel
theorem dL_law_566 : decode cL_law 566 = .ok (.iconst 1, 1) := by decide +kernel
theorem dL_law_567 : decode cL_law 567 = .ok (.iadd, 1) := by decide +kernel
theorem dL_law_568 : decode cL_law 568 = .ok (.iaload, 1) := by decide +kernel
theorem dL_law_569 : decode cL_law 569 = .ok (.aload_n 0, 1) := by decide +kernel
theorem dL_law_570 : decode cL_law 570 = .ok (.iload 4, 2) := by decide +kernel
theorem dL_law_572 : decode cL_law 572 = .ok (.iconst 2, 1) := by decide +kernel
theorem dL_law_573 : decode cL_law 573 = .ok (.iadd, 1) := by decide +kernel
theorem dL_law_574 : decode cL_law 574 = .ok (.iaload, 1) := by decide +kernel
theorem dL_law_575 : decode cL_law 575 = .ok (.aload_n 0, 1) := by decide +kernel
theorem dL_law_576 : decode cL_law 576 = .ok (.iload 4, 2) := by decide +kernel
theorem dL_law_578 : decode cL_law 578 = .ok (.iconst 3, 1) := by decide +kernel
theorem dL_law_579 : decode cL_law 579 = .ok (.iadd, 1) := by decide +kernel
theorem dL_law_580 : decode cL_law 580 = .ok (.iaload, 1) := by decide +kernel
theorem dL_law_581 : decode cL_law 581 = .ok (.aload_n 0, 1) := by decide +kernel
theorem dL_law_582 : decode cL_law 582 = .ok (.iload 4, 2) := by decide +kernel
theorem dL_law_584 : decode cL_law 584 = .ok (.iconst 4, 1) := by decide +kernel
theorem dL_law_585 : decode cL_law 585 = .ok (.iadd, 1) := by decide +kernel
theorem dL_law_586 : decode cL_law 586 = .ok (.iaload, 1) := by decide +kernel
theorem dL_law_587 : decode cL_law 587 = .ok (.aload_n 3, 1) := by decide +kernel
theorem dL_law_588 : decode cL_law 588 = .ok (.invokestatic 103, 3) := by decide +kernel
theorem dL_law_591 : decode cL_law 591 = .ok (.istore 5, 2) := by decide +kernel
theorem dL_law_593 : decode cL_law 593 = .ok (.aload_n 2, 1) := by decide +kernel
theorem dL_law_594 : decode cL_law 594 = .ok (.aload_n 0, 1) := by decide +kernel
theorem dL_law_595 : decode cL_law 595 = .ok (.iload 4, 2) := by decide +kernel
theorem dL_law_597 : decode cL_law 597 = .ok (.iconst 1, 1) := by decide +kernel
theorem dL_law_598 : decode cL_law 598 = .ok (.iadd, 1) := by decide +kernel
theorem dL_law_599 : decode cL_law 599 = .ok (.iaload, 1) := by decide +kernel
theorem dL_law_600 : decode cL_law 600 = .ok (.aload_n 0, 1) := by decide +kernel
theorem dL_law_601 : decode cL_law 601 = .ok (.iload 4, 2) := by decide +kernel
theorem dL_law_603 : decode cL_law 603 = .ok (.iconst 2, 1) := by decide +kernel
theorem dL_law_604 : decode cL_law 604 = .ok (.iadd, 1) := by decide +kernel
theorem dL_law_605 : decode cL_law 605 = .ok (.iaload, 1) := by decide +kernel
theorem dL_law_606 : decode cL_law 606 = .ok (.aload_n 0, 1) := by decide +kernel
theorem dL_law_607 : decode cL_law 607 = .ok (.iload 4, 2) := by decide +kernel
theorem dL_law_609 : decode cL_law 609 = .ok (.iconst 3, 1) := by decide +kernel
theorem dL_law_610 : decode cL_law 610 = .ok (.iadd, 1) := by decide +kernel
theorem dL_law_611 : decode cL_law 611 = .ok (.iaload, 1) := by decide +kernel
theorem dL_law_612 : decode cL_law 612 = .ok (.aload_n 0, 1) := by decide +kernel
theorem dL_law_613 : decode cL_law 613 = .ok (.iload 4, 2) := by decide +kernel
theorem dL_law_615 : decode cL_law 615 = .ok (.iconst 4, 1) := by decide +kernel
theorem dL_law_616 : decode cL_law 616 = .ok (.iadd, 1) := by decide +kernel
theorem dL_law_617 : decode cL_law 617 = .ok (.iaload, 1) := by decide +kernel
theorem dL_law_618 : decode cL_law 618 = .ok (.invokevirtual 106, 3) := by decide +kernel
theorem dL_law_621 : decode cL_law 621 = .ok (.istore 6, 2) := by decide +kernel
theorem dL_law_623 : decode cL_law 623 = .ok (.goto 221, 3) := by decide +kernel
theorem dL_law_626 : decode cL_law 626 = .ok (.aload_n 1, 1) := by decide +kernel
theorem dL_law_627 : decode cL_law 627 = .ok (.aload_n 0, 1) := by decide +kernel
theorem dL_law_628 : decode cL_law 628 = .ok (.iload 4, 2) := by decide +kernel
theorem dL_law_630 : decode cL_law 630 = .ok (.iconst 1, 1) := by decide +kernel
theorem dL_law_631 : decode cL_law 631 = .ok (.iadd, 1) := by decide +kernel
theorem dL_law_632 : decode cL_law 632 = .ok (.iaload, 1) := by decide +kernel
theorem dL_law_633 : decode cL_law 633 = .ok (.aload_n 0, 1) := by decide +kernel
theorem dL_law_634 : decode cL_law 634 = .ok (.iload 4, 2) := by decide +kernel
theorem dL_law_636 : decode cL_law 636 = .ok (.iconst 2, 1) := by decide +kernel
theorem dL_law_637 : decode cL_law 637 = .ok (.iadd, 1) := by decide +kernel
theorem dL_law_638 : decode cL_law 638 = .ok (.iaload, 1) := by decide +kernel
theorem dL_law_639 : decode cL_law 639 = .ok (.aload_n 0, 1) := by decide +kernel
theorem dL_law_640 : decode cL_law 640 = .ok (.iload 4, 2) := by decide +kernel
theorem dL_law_642 : decode cL_law 642 = .ok (.iconst 3, 1) := by decide +kernel
theorem dL_law_643 : decode cL_law 643 = .ok (.iadd, 1) := by decide +kernel
theorem dL_law_644 : decode cL_law 644 = .ok (.iaload, 1) := by decide +kernel
theorem dL_law_645 : decode cL_law 645 = .ok (.aload_n 3, 1) := by decide +kernel
theorem dL_law_646 : decode cL_law 646 = .ok (.invokestatic 107, 3) := by decide +kernel
theorem dL_law_649 : decode cL_law 649 = .ok (.istore 5, 2) := by decide +kernel
theorem dL_law_651 : decode cL_law 651 = .ok (.aload_n 2, 1) := by decide +kernel
theorem dL_law_652 : decode cL_law 652 = .ok (.aload_n 0, 1) := by decide +kernel
theorem dL_law_653 : decode cL_law 653 = .ok (.iload 4, 2) := by decide +kernel
theorem dL_law_655 : decode cL_law 655 = .ok (.iconst 1, 1) := by decide +kernel
theorem dL_law_656 : decode cL_law 656 = .ok (.iadd, 1) := by decide +kernel
theorem dL_law_657 : decode cL_law 657 = .ok (.iaload, 1) := by decide +kernel
theorem dL_law_658 : decode cL_law 658 = .ok (.aload_n 0, 1) := by decide +kernel
theorem dL_law_659 : decode cL_law 659 = .ok (.iload 4, 2) := by decide +kernel
theorem dL_law_661 : decode cL_law 661 = .ok (.iconst 2, 1) := by decide +kernel
theorem dL_law_662 : decode cL_law 662 = .ok (.iadd, 1) := by decide +kernel
theorem dL_law_663 : decode cL_law 663 = .ok (.iaload, 1) := by decide +kernel
theorem dL_law_664 : decode cL_law 664 = .ok (.aload_n 0, 1) := by decide +kernel
theorem dL_law_665 : decode cL_law 665 = .ok (.iload 4, 2) := by decide +kernel
theorem dL_law_667 : decode cL_law 667 = .ok (.iconst 3, 1) := by decide +kernel
theorem dL_law_668 : decode cL_law 668 = .ok (.iadd, 1) := by decide +kernel
theorem dL_law_669 : decode cL_law 669 = .ok (.iaload, 1) := by decide +kernel
theorem dL_law_670 : decode cL_law 670 = .ok (.invokevirtual 110, 3) := by decide +kernel
theorem dL_law_673 : decode cL_law 673 = .ok (.istore 6, 2) := by decide +kernel
theorem dL_law_675 : decode cL_law 675 = .ok (.goto 169, 3) := by decide +kernel
theorem dL_law_678 : decode cL_law 678 = .ok (.aload_n 1, 1) := by decide +kernel
theorem dL_law_679 : decode cL_law 679 = .ok (.aload_n 0, 1) := by decide +kernel
theorem dL_law_680 : decode cL_law 680 = .ok (.iload 4, 2) := by decide +kernel
theorem dL_law_682 : decode cL_law 682 = .ok (.iconst 1, 1) := by decide +kernel
theorem dL_law_683 : decode cL_law 683 = .ok (.iadd, 1) := by decide +kernel
theorem dL_law_684 : decode cL_law 684 = .ok (.iaload, 1) := by decide +kernel
theorem dL_law_685 : decode cL_law 685 = .ok (.aload_n 0, 1) := by decide +kernel
theorem dL_law_686 : decode cL_law 686 = .ok (.iload 4, 2) := by decide +kernel
theorem dL_law_688 : decode cL_law 688 = .ok (.iconst 2, 1) := by decide +kernel
theorem dL_law_689 : decode cL_law 689 = .ok (.iadd, 1) := by decide +kernel
theorem dL_law_690 : decode cL_law 690 = .ok (.iaload, 1) := by decide +kernel
theorem dL_law_691 : decode cL_law 691 = .ok (.aload_n 0, 1) := by decide +kernel
theorem dL_law_692 : decode cL_law 692 = .ok (.iload 4, 2) := by decide +kernel
theorem dL_law_694 : decode cL_law 694 = .ok (.iconst 3, 1) := by decide +kernel
theorem dL_law_695 : decode cL_law 695 = .ok (.iadd, 1) := by decide +kernel
theorem dL_law_696 : decode cL_law 696 = .ok (.iaload, 1) := by decide +kernel
theorem dL_law_697 : decode cL_law 697 = .ok (.aload_n 3, 1) := by decide +kernel
theorem dL_law_698 : decode cL_law 698 = .ok (.invokestatic 111, 3) := by decide +kernel
theorem dL_law_701 : decode cL_law 701 = .ok (.istore 5, 2) := by decide +kernel
theorem dL_law_703 : decode cL_law 703 = .ok (.aload_n 2, 1) := by decide +kernel
theorem dL_law_704 : decode cL_law 704 = .ok (.aload_n 0, 1) := by decide +kernel
theorem dL_law_705 : decode cL_law 705 = .ok (.iload 4, 2) := by decide +kernel
theorem dL_law_707 : decode cL_law 707 = .ok (.iconst 1, 1) := by decide +kernel
theorem dL_law_708 : decode cL_law 708 = .ok (.iadd, 1) := by decide +kernel
theorem dL_law_709 : decode cL_law 709 = .ok (.iaload, 1) := by decide +kernel
theorem dL_law_710 : decode cL_law 710 = .ok (.aload_n 0, 1) := by decide +kernel
theorem dL_law_711 : decode cL_law 711 = .ok (.iload 4, 2) := by decide +kernel
theorem dL_law_713 : decode cL_law 713 = .ok (.iconst 2, 1) := by decide +kernel
theorem dL_law_714 : decode cL_law 714 = .ok (.iadd, 1) := by decide +kernel
theorem dL_law_715 : decode cL_law 715 = .ok (.iaload, 1) := by decide +kernel
theorem dL_law_716 : decode cL_law 716 = .ok (.aload_n 0, 1) := by decide +kernel
theorem dL_law_717 : decode cL_law 717 = .ok (.iload 4, 2) := by decide +kernel
theorem dL_law_719 : decode cL_law 719 = .ok (.iconst 3, 1) := by decide +kernel
theorem dL_law_720 : decode cL_law 720 = .ok (.iadd, 1) := by decide +kernel
theorem dL_law_721 : decode cL_law 721 = .ok (.iaload, 1) := by decide +kernel
theorem dL_law_722 : decode cL_law 722 = .ok (.invokevirtual 113, 3) := by decide +kernel
theorem dL_law_725 : decode cL_law 725 = .ok (.istore 6, 2) := by decide +kernel
theorem dL_law_727 : decode cL_law 727 = .ok (.goto 117, 3) := by decide +kernel
theorem dL_law_730 : decode cL_law 730 = .ok (.aload_n 1, 1) := by decide +kernel
theorem dL_law_731 : decode cL_law 731 = .ok (.aload_n 0, 1) := by decide +kernel
theorem dL_law_732 : decode cL_law 732 = .ok (.iload 4, 2) := by decide +kernel
theorem dL_law_734 : decode cL_law 734 = .ok (.iconst 1, 1) := by decide +kernel
theorem dL_law_735 : decode cL_law 735 = .ok (.iadd, 1) := by decide +kernel
theorem dL_law_736 : decode cL_law 736 = .ok (.iaload, 1) := by decide +kernel
theorem dL_law_737 : decode cL_law 737 = .ok (.aload_n 0, 1) := by decide +kernel
theorem dL_law_738 : decode cL_law 738 = .ok (.iload 4, 2) := by decide +kernel
theorem dL_law_740 : decode cL_law 740 = .ok (.iconst 2, 1) := by decide +kernel
theorem dL_law_741 : decode cL_law 741 = .ok (.iadd, 1) := by decide +kernel
theorem dL_law_742 : decode cL_law 742 = .ok (.iaload, 1) := by decide +kernel
theorem dL_law_743 : decode cL_law 743 = .ok (.aload_n 3, 1) := by decide +kernel
theorem dL_law_744 : decode cL_law 744 = .ok (.invokestatic 114, 3) := by decide +kernel
theorem dL_law_747 : decode cL_law 747 = .ok (.istore 5, 2) := by decide +kernel
theorem dL_law_749 : decode cL_law 749 = .ok (.aload_n 2, 1) := by decide +kernel
theorem dL_law_750 : decode cL_law 750 = .ok (.aload_n 0, 1) := by decide +kernel
theorem dL_law_751 : decode cL_law 751 = .ok (.iload 4, 2) := by decide +kernel
theorem dL_law_753 : decode cL_law 753 = .ok (.iconst 1, 1) := by decide +kernel
theorem dL_law_754 : decode cL_law 754 = .ok (.iadd, 1) := by decide +kernel
theorem dL_law_755 : decode cL_law 755 = .ok (.iaload, 1) := by decide +kernel
theorem dL_law_756 : decode cL_law 756 = .ok (.aload_n 0, 1) := by decide +kernel
theorem dL_law_757 : decode cL_law 757 = .ok (.iload 4, 2) := by decide +kernel
theorem dL_law_759 : decode cL_law 759 = .ok (.iconst 2, 1) := by decide +kernel
theorem dL_law_760 : decode cL_law 760 = .ok (.iadd, 1) := by decide +kernel
theorem dL_law_761 : decode cL_law 761 = .ok (.iaload, 1) := by decide +kernel
theorem dL_law_762 : decode cL_law 762 = .ok (.invokevirtual 116, 3) := by decide +kernel
theorem dL_law_765 : decode cL_law 765 = .ok (.istore 6, 2) := by decide +kernel
theorem dL_law_767 : decode cL_law 767 = .ok (.goto 77, 3) := by decide +kernel
theorem dL_law_770 : decode cL_law 770 = .ok (.aload_n 1, 1) := by decide +kernel
theorem dL_law_771 : decode cL_law 771 = .ok (.aload_n 0, 1) := by decide +kernel
theorem dL_law_772 : decode cL_law 772 = .ok (.iload 4, 2) := by decide +kernel
theorem dL_law_774 : decode cL_law 774 = .ok (.iconst 1, 1) := by decide +kernel
theorem dL_law_775 : decode cL_law 775 = .ok (.iadd, 1) := by decide +kernel
theorem dL_law_776 : decode cL_law 776 = .ok (.iaload, 1) := by decide +kernel
theorem dL_law_777 : decode cL_law 777 = .ok (.aload_n 0, 1) := by decide +kernel
theorem dL_law_778 : decode cL_law 778 = .ok (.iload 4, 2) := by decide +kernel
theorem dL_law_780 : decode cL_law 780 = .ok (.iconst 2, 1) := by decide +kernel
theorem dL_law_781 : decode cL_law 781 = .ok (.iadd, 1) := by decide +kernel
theorem dL_law_782 : decode cL_law 782 = .ok (.iaload, 1) := by decide +kernel
theorem dL_law_783 : decode cL_law 783 = .ok (.aload_n 0, 1) := by decide +kernel
theorem dL_law_784 : decode cL_law 784 = .ok (.iload 4, 2) := by decide +kernel
theorem dL_law_786 : decode cL_law 786 = .ok (.iconst 3, 1) := by decide +kernel
theorem dL_law_787 : decode cL_law 787 = .ok (.iadd, 1) := by decide +kernel
theorem dL_law_788 : decode cL_law 788 = .ok (.iaload, 1) := by decide +kernel
theorem dL_law_789 : decode cL_law 789 = .ok (.invokevirtual 117, 3) := by decide +kernel
theorem dL_law_792 : decode cL_law 792 = .ok (.pop, 1) := by decide +kernel
theorem dL_law_793 : decode cL_law 793 = .ok (.aload_n 2, 1) := by decide +kernel
theorem dL_law_794 : decode cL_law 794 = .ok (.aload_n 0, 1) := by decide +kernel
theorem dL_law_795 : decode cL_law 795 = .ok (.iload 4, 2) := by decide +kernel
theorem dL_law_797 : decode cL_law 797 = .ok (.iconst 1, 1) := by decide +kernel
theorem dL_law_798 : decode cL_law 798 = .ok (.iadd, 1) := by decide +kernel
theorem dL_law_799 : decode cL_law 799 = .ok (.iaload, 1) := by decide +kernel
theorem dL_law_800 : decode cL_law 800 = .ok (.aload_n 0, 1) := by decide +kernel
theorem dL_law_801 : decode cL_law 801 = .ok (.iload 4, 2) := by decide +kernel
theorem dL_law_803 : decode cL_law 803 = .ok (.iconst 2, 1) := by decide +kernel
theorem dL_law_804 : decode cL_law 804 = .ok (.iadd, 1) := by decide +kernel
theorem dL_law_805 : decode cL_law 805 = .ok (.iaload, 1) := by decide +kernel
theorem dL_law_806 : decode cL_law 806 = .ok (.aload_n 0, 1) := by decide +kernel
theorem dL_law_807 : decode cL_law 807 = .ok (.iload 4, 2) := by decide +kernel
theorem dL_law_809 : decode cL_law 809 = .ok (.iconst 3, 1) := by decide +kernel
theorem dL_law_810 : decode cL_law 810 = .ok (.iadd, 1) := by decide +kernel
theorem dL_law_811 : decode cL_law 811 = .ok (.iaload, 1) := by decide +kernel
theorem dL_law_812 : decode cL_law 812 = .ok (.invokevirtual 120, 3) := by decide +kernel
theorem dL_law_815 : decode cL_law 815 = .ok (.pop, 1) := by decide +kernel
theorem dL_law_816 : decode cL_law 816 = .ok (.goto 28, 3) := by decide +kernel
theorem dL_law_819 : decode cL_law 819 = .ok (.aload_n 1, 1) := by decide +kernel
theorem dL_law_820 : decode cL_law 820 = .ok (.aload_n 0, 1) := by decide +kernel
theorem dL_law_821 : decode cL_law 821 = .ok (.iload 4, 2) := by decide +kernel
theorem dL_law_823 : decode cL_law 823 = .ok (.iconst 1, 1) := by decide +kernel
theorem dL_law_824 : decode cL_law 824 = .ok (.iadd, 1) := by decide +kernel
theorem dL_law_825 : decode cL_law 825 = .ok (.iaload, 1) := by decide +kernel
theorem dL_law_826 : decode cL_law 826 = .ok (.invokevirtual 121, 3) := by decide +kernel
theorem dL_law_829 : decode cL_law 829 = .ok (.aload_n 2, 1) := by decide +kernel
theorem dL_law_830 : decode cL_law 830 = .ok (.aload_n 0, 1) := by decide +kernel
theorem dL_law_831 : decode cL_law 831 = .ok (.iload 4, 2) := by decide +kernel
theorem dL_law_833 : decode cL_law 833 = .ok (.iconst 1, 1) := by decide +kernel
theorem dL_law_834 : decode cL_law 834 = .ok (.iadd, 1) := by decide +kernel
theorem dL_law_835 : decode cL_law 835 = .ok (.iaload, 1) := by decide +kernel
theorem dL_law_836 : decode cL_law 836 = .ok (.invokevirtual 124, 3) := by decide +kernel
theorem dL_law_839 : decode cL_law 839 = .ok (.if_icmp .eq 5, 3) := by decide +kernel
theorem dL_law_842 : decode cL_law 842 = .ok (.iconst 0, 1) := by decide +kernel
theorem dL_law_843 : decode cL_law 843 = .ok (.ireturn, 1) := by decide +kernel
theorem dL_law_844 : decode cL_law 844 = .ok (.iinc 4 5, 3) := by decide +kernel
theorem dL_law_847 : decode cL_law 847 = .ok (.goto (-824), 3) := by decide +kernel
theorem dL_law_850 : decode cL_law 850 = .ok (.iconst 1, 1) := by decide +kernel
theorem dL_law_851 : decode cL_law 851 = .ok (.ireturn, 1) := by decide +kernel
noncomputable def bL_law_0 (sb sL : Nat) (xs : Nat → Int32) (nx : Nat → Kt) : Kt := nO 7 601024 7293034 (du (cC 0 wX7_init 528 6148 601024 7293034 (stA 1 (nO 8 601024 7293034 (du (cC 0 wX8_init 40 82128 601024 7293034 (stA 2 (cI 1 (nA 18 601024 7293034 (stA 3 (cI 0 (stI 4 (nx 23)))))))))))))
noncomputable def bL_law_23 (sb sL : Nat) (xs : Nat → Int32) (nx : Nat → Kt) : Kt := ldI 4 (ldA 0 (sln sb sL (cI 5 (bop (fun x y => x - y) (ifc (fun x y => y < x) (nx 850) (ldA 0 (ldI 4 (sld sb sL xs (cI 15 (bop (fun x y => x &&& y) (swt 0 14 (fun j => nx (([112, 152, 192, 253, 346, 407, 432, 485, 534, 562, 626, 678, 730, 770, 819] : List Nat).getD j 0)) (nx 844))))))))))))
noncomputable def bL_law_112 (sb sL : Nat) (xs : Nat → Int32) (nx : Nat → Kt) : Kt := ldA 1 (ldA 0 (ldI 4 (cI 1 (bop (fun x y => x + y) (sld sb sL xs (ldA 0 (ldI 4 (cI 2 (bop (fun x y => x + y) (sld sb sL xs (ldA 3 (cS 4 wL_system 1 6 601024 7293034 (stI 5 (ldA 2 (ldA 0 (ldI 4 (cI 1 (bop (fun x y => x + y) (sld sb sL xs (ldA 0 (ldI 4 (cI 2 (bop (fun x y => x + y) (sld sb sL xs (cV 2 8 wX8_system 0 0 601024 7293034 (stI 6 (nx 844)))))))))))))))))))))))))))
noncomputable def bL_law_152 (sb sL : Nat) (xs : Nat → Int32) (nx : Nat → Kt) : Kt := ldA 1 (ldA 0 (ldI 4 (cI 1 (bop (fun x y => x + y) (sld sb sL xs (ldA 0 (ldI 4 (cI 2 (bop (fun x y => x + y) (sld sb sL xs (ldA 3 (cS 4 wL_limit 1 6 601024 7293034 (stI 5 (ldA 2 (ldA 0 (ldI 4 (cI 1 (bop (fun x y => x + y) (sld sb sL xs (ldA 0 (ldI 4 (cI 2 (bop (fun x y => x + y) (sld sb sL xs (cV 2 8 wX8_limit 0 0 601024 7293034 (stI 6 (nx 844)))))))))))))))))))))))))))
noncomputable def bL_law_192 (sb sL : Nat) (xs : Nat → Int32) (nx : Nat → Kt) : Kt := ldA 1 (ldA 0 (ldI 4 (cI 1 (bop (fun x y => x + y) (sld sb sL xs (ldA 0 (ldI 4 (cI 2 (bop (fun x y => x + y) (sld sb sL xs (ldA 0 (ldI 4 (cI 3 (bop (fun x y => x + y) (sld sb sL xs (ldA 0 (ldI 4 (cI 4 (bop (fun x y => x + y) (sld sb sL xs (cS 5 wL_port 1 6 601024 7293034 (stI 5 (ldA 2 (ldA 0 (ldI 4 (cI 1 (bop (fun x y => x + y) (sld sb sL xs (ldA 0 (ldI 4 (cI 2 (bop (fun x y => x + y) (sld sb sL xs (ldA 0 (ldI 4 (cI 3 (bop (fun x y => x + y) (sld sb sL xs (ldA 0 (ldI 4 (cI 4 (bop (fun x y => x + y) (sld sb sL xs (cV 4 8 wX8_port 0 0 601024 7293034 (nx 250)))))))))))))))))))))))))))))))))))))))))))))
noncomputable def bL_law_250 (sb sL : Nat) (xs : Nat → Int32) (nx : Nat → Kt) : Kt := nx 844
noncomputable def bL_law_253 (sb sL : Nat) (xs : Nat → Int32) (nx : Nat → Kt) : Kt := ldA 1 (ldA 0 (ldI 4 (cI 1 (bop (fun x y => x + y) (sld sb sL xs (ldA 0 (ldI 4 (cI 2 (bop (fun x y => x + y) (sld sb sL xs (ldA 0 (ldI 4 (cI 3 (bop (fun x y => x + y) (sld sb sL xs (ifz (fun x => x = 0) (nx 279) (cI 1 (nx 280))))))))))))))))))
noncomputable def bL_law_279 (sb sL : Nat) (xs : Nat → Int32) (nx : Nat → Kt) : Kt := cI 0 (nx 280)
noncomputable def bL_law_280 (sb sL : Nat) (xs : Nat → Int32) (nx : Nat → Kt) : Kt := ldA 0 (ldI 4 (cI 4 (bop (fun x y => x + y) (sld sb sL xs (ifz (fun x => x = 0) (nx 293) (cI 1 (nx 294)))))))
noncomputable def bL_law_293 (sb sL : Nat) (xs : Nat → Int32) (nx : Nat → Kt) : Kt := cI 0 (nx 294)
noncomputable def bL_law_294 (sb sL : Nat) (xs : Nat → Int32) (nx : Nat → Kt) : Kt := cS 5 wL_manner 1 6 601024 7293034 (stI 5 (ldA 2 (ldA 0 (ldI 4 (cI 1 (bop (fun x y => x + y) (sld sb sL xs (ldA 0 (ldI 4 (cI 2 (bop (fun x y => x + y) (sld sb sL xs (ldA 0 (ldI 4 (cI 3 (bop (fun x y => x + y) (sld sb sL xs (ifz (fun x => x = 0) (nx 325) (cI 1 (nx 326))))))))))))))))))))
noncomputable def bL_law_325 (sb sL : Nat) (xs : Nat → Int32) (nx : Nat → Kt) : Kt := cI 0 (nx 326)
noncomputable def bL_law_326 (sb sL : Nat) (xs : Nat → Int32) (nx : Nat → Kt) : Kt := ldA 0 (ldI 4 (cI 4 (bop (fun x y => x + y) (sld sb sL xs (ifz (fun x => x = 0) (nx 339) (cI 1 (nx 340)))))))
noncomputable def bL_law_339 (sb sL : Nat) (xs : Nat → Int32) (nx : Nat → Kt) : Kt := cI 0 (nx 340)
noncomputable def bL_law_340 (sb sL : Nat) (xs : Nat → Int32) (nx : Nat → Kt) : Kt := cV 4 8 wX8_manner 0 0 601024 7293034 (nx 844)
noncomputable def bL_law_346 (sb sL : Nat) (xs : Nat → Int32) (nx : Nat → Kt) : Kt := ldA 1 (ldA 0 (ldI 4 (cI 1 (bop (fun x y => x + y) (sld sb sL xs (ldA 0 (ldI 4 (cI 2 (bop (fun x y => x + y) (sld sb sL xs (ldA 0 (ldI 4 (cI 3 (bop (fun x y => x + y) (sld sb sL xs (ldA 0 (ldI 4 (cI 4 (bop (fun x y => x + y) (sld sb sL xs (cS 5 wL_plug 1 6 601024 7293034 (stI 5 (ldA 2 (ldA 0 (ldI 4 (cI 1 (bop (fun x y => x + y) (sld sb sL xs (ldA 0 (ldI 4 (cI 2 (bop (fun x y => x + y) (sld sb sL xs (ldA 0 (ldI 4 (cI 3 (bop (fun x y => x + y) (sld sb sL xs (ldA 0 (ldI 4 (cI 4 (bop (fun x y => x + y) (sld sb sL xs (cV 4 8 wX8_plug 0 0 601024 7293034 (nx 404)))))))))))))))))))))))))))))))))))))))))))))
noncomputable def bL_law_404 (sb sL : Nat) (xs : Nat → Int32) (nx : Nat → Kt) : Kt := nx 844
noncomputable def bL_law_407 (sb sL : Nat) (xs : Nat → Int32) (nx : Nat → Kt) : Kt := ldA 1 (ldA 0 (ldI 4 (cI 1 (bop (fun x y => x + y) (sld sb sL xs (cS 2 wL_pull 1 6 601024 7293034 (stI 5 (ldA 2 (ldA 0 (ldI 4 (cI 1 (bop (fun x y => x + y) (sld sb sL xs (cV 1 8 wX8_pull 0 0 601024 7293034 (nx 844)))))))))))))))
noncomputable def bL_law_432 (sb sL : Nat) (xs : Nat → Int32) (nx : Nat → Kt) : Kt := ldA 1 (ldA 0 (ldI 4 (cI 1 (bop (fun x y => x + y) (sld sb sL xs (ldA 0 (ldI 4 (cI 2 (bop (fun x y => x + y) (sld sb sL xs (ifz (fun x => x = 0) (nx 452) (cI 1 (nx 453)))))))))))))
noncomputable def bL_law_452 (sb sL : Nat) (xs : Nat → Int32) (nx : Nat → Kt) : Kt := cI 0 (nx 453)
noncomputable def bL_law_453 (sb sL : Nat) (xs : Nat → Int32) (nx : Nat → Kt) : Kt := cS 3 wL_light 1 6 601024 7293034 (stI 5 (ldA 2 (ldA 0 (ldI 4 (cI 1 (bop (fun x y => x + y) (sld sb sL xs (ldA 0 (ldI 4 (cI 2 (bop (fun x y => x + y) (sld sb sL xs (ifz (fun x => x = 0) (nx 478) (cI 1 (nx 479)))))))))))))))
noncomputable def bL_law_478 (sb sL : Nat) (xs : Nat → Int32) (nx : Nat → Kt) : Kt := cI 0 (nx 479)
noncomputable def bL_law_479 (sb sL : Nat) (xs : Nat → Int32) (nx : Nat → Kt) : Kt := cV 2 8 wX8_light 0 0 601024 7293034 (nx 844)
noncomputable def bL_law_485 (sb sL : Nat) (xs : Nat → Int32) (nx : Nat → Kt) : Kt := ldA 1 (ldA 0 (ldI 4 (cI 1 (bop (fun x y => x + y) (sld sb sL xs (ldA 0 (ldI 4 (cI 2 (bop (fun x y => x + y) (sld sb sL xs (ldA 0 (ldI 4 (cI 3 (bop (fun x y => x + y) (sld sb sL xs (cS 4 wL_lose 1 6 601024 7293034 (stI 5 (ldA 2 (ldA 0 (ldI 4 (cI 1 (bop (fun x y => x + y) (sld sb sL xs (ldA 0 (ldI 4 (cI 2 (bop (fun x y => x + y) (sld sb sL xs (ldA 0 (ldI 4 (cI 3 (bop (fun x y => x + y) (sld sb sL xs (cV 3 8 wX8_lose 0 0 601024 7293034 (nx 844)))))))))))))))))))))))))))))))))))
noncomputable def bL_law_534 (sb sL : Nat) (xs : Nat → Int32) (nx : Nat → Kt) : Kt := ldA 1 (ldA 0 (ldI 4 (cI 1 (bop (fun x y => x + y) (sld sb sL xs (ldA 3 (cS 3 wL_tick 1 6 601024 7293034 (stI 5 (ldA 2 (ldA 0 (ldI 4 (cI 1 (bop (fun x y => x + y) (sld sb sL xs (cV 1 8 wX8_tick_ 0 0 601024 7293034 (stI 6 (nx 844)))))))))))))))))
noncomputable def bL_law_562 (sb sL : Nat) (xs : Nat → Int32) (nx : Nat → Kt) : Kt := ldA 1 (ldA 0 (ldI 4 (cI 1 (bop (fun x y => x + y) (sld sb sL xs (ldA 0 (ldI 4 (cI 2 (bop (fun x y => x + y) (sld sb sL xs (ldA 0 (ldI 4 (cI 3 (bop (fun x y => x + y) (sld sb sL xs (ldA 0 (ldI 4 (cI 4 (bop (fun x y => x + y) (sld sb sL xs (ldA 3 (cS 6 wL_give 2 13 601024 7293034 (stI 5 (ldA 2 (ldA 0 (ldI 4 (cI 1 (bop (fun x y => x + y) (sld sb sL xs (ldA 0 (ldI 4 (cI 2 (bop (fun x y => x + y) (sld sb sL xs (ldA 0 (ldI 4 (cI 3 (bop (fun x y => x + y) (sld sb sL xs (ldA 0 (ldI 4 (cI 4 (bop (fun x y => x + y) (sld sb sL xs (nx 618)))))))))))))))))))))))))))))))))))))))))))))
noncomputable def bL_law_618 (sb sL : Nat) (xs : Nat → Int32) (nx : Nat → Kt) : Kt := cV 4 8 wX8_give 0 0 601024 7293034 (stI 6 (nx 844))
noncomputable def bL_law_626 (sb sL : Nat) (xs : Nat → Int32) (nx : Nat → Kt) : Kt := ldA 1 (ldA 0 (ldI 4 (cI 1 (bop (fun x y => x + y) (sld sb sL xs (ldA 0 (ldI 4 (cI 2 (bop (fun x y => x + y) (sld sb sL xs (ldA 0 (ldI 4 (cI 3 (bop (fun x y => x + y) (sld sb sL xs (ldA 3 (cS 5 wL_came 1 6 601024 7293034 (stI 5 (ldA 2 (ldA 0 (ldI 4 (cI 1 (bop (fun x y => x + y) (sld sb sL xs (ldA 0 (ldI 4 (cI 2 (bop (fun x y => x + y) (sld sb sL xs (ldA 0 (ldI 4 (cI 3 (bop (fun x y => x + y) (sld sb sL xs (cV 3 8 wX8_came 0 0 601024 7293034 (stI 6 (nx 844)))))))))))))))))))))))))))))))))))))
noncomputable def bL_law_678 (sb sL : Nat) (xs : Nat → Int32) (nx : Nat → Kt) : Kt := ldA 1 (ldA 0 (ldI 4 (cI 1 (bop (fun x y => x + y) (sld sb sL xs (ldA 0 (ldI 4 (cI 2 (bop (fun x y => x + y) (sld sb sL xs (ldA 0 (ldI 4 (cI 3 (bop (fun x y => x + y) (sld sb sL xs (ldA 3 (cS 5 wL_look 1 6 601024 7293034 (stI 5 (ldA 2 (ldA 0 (ldI 4 (cI 1 (bop (fun x y => x + y) (sld sb sL xs (ldA 0 (ldI 4 (cI 2 (bop (fun x y => x + y) (sld sb sL xs (ldA 0 (ldI 4 (cI 3 (bop (fun x y => x + y) (sld sb sL xs (cV 3 8 wX8_look 0 0 601024 7293034 (stI 6 (nx 844)))))))))))))))))))))))))))))))))))))
noncomputable def bL_law_730 (sb sL : Nat) (xs : Nat → Int32) (nx : Nat → Kt) : Kt := ldA 1 (ldA 0 (ldI 4 (cI 1 (bop (fun x y => x + y) (sld sb sL xs (ldA 0 (ldI 4 (cI 2 (bop (fun x y => x + y) (sld sb sL xs (ldA 3 (cS 4 wL_cable 1 6 601024 7293034 (stI 5 (ldA 2 (ldA 0 (ldI 4 (cI 1 (bop (fun x y => x + y) (sld sb sL xs (ldA 0 (ldI 4 (cI 2 (bop (fun x y => x + y) (sld sb sL xs (cV 2 8 wX8_cable 0 0 601024 7293034 (stI 6 (nx 844)))))))))))))))))))))))))))
noncomputable def bL_law_770 (sb sL : Nat) (xs : Nat → Int32) (nx : Nat → Kt) : Kt := ldA 1 (ldA 0 (ldI 4 (cI 1 (bop (fun x y => x + y) (sld sb sL xs (ldA 0 (ldI 4 (cI 2 (bop (fun x y => x + y) (sld sb sL xs (ldA 0 (ldI 4 (cI 3 (bop (fun x y => x + y) (sld sb sL xs (cV 3 7 wX7_note 0 0 601024 7293034 (po (ldA 2 (ldA 0 (ldI 4 (cI 1 (bop (fun x y => x + y) (sld sb sL xs (ldA 0 (ldI 4 (cI 2 (bop (fun x y => x + y) (sld sb sL xs (ldA 0 (ldI 4 (cI 3 (bop (fun x y => x + y) (sld sb sL xs (cV 3 8 wX8_note 0 0 601024 7293034 (po (nx 844))))))))))))))))))))))))))))))))))))
noncomputable def bL_law_819 (sb sL : Nat) (xs : Nat → Int32) (nx : Nat → Kt) : Kt := ldA 1 (ldA 0 (ldI 4 (cI 1 (bop (fun x y => x + y) (sld sb sL xs (cV 1 7 wX7_count 0 0 601024 7293034 (ldA 2 (ldA 0 (ldI 4 (cI 1 (bop (fun x y => x + y) (sld sb sL xs (cV 1 8 wX8_count 0 0 601024 7293034 (ifc (fun x y => x = y) (nx 844) (cI 0 (rL))))))))))))))))
noncomputable def bL_law_844 (sb sL : Nat) (xs : Nat → Int32) (nx : Nat → Kt) : Kt := inc 4 5 (nx 23)
noncomputable def bL_law_850 (sb sL : Nat) (xs : Nat → Int32) (nx : Nat → Kt) : Kt := cI 1 (rL)
noncomputable def kL_law (sb sL : Nat) (xs : Nat → Int32) (nx : Nat → Kt) : Nat → Kt := bse [(0, bL_law_0 sb sL xs nx), (23, bL_law_23 sb sL xs nx), (112, bL_law_112 sb sL xs nx), (152, bL_law_152 sb sL xs nx), (192, bL_law_192 sb sL xs nx), (250, bL_law_250 sb sL xs nx), (253, bL_law_253 sb sL xs nx), (279, bL_law_279 sb sL xs nx), (280, bL_law_280 sb sL xs nx), (293, bL_law_293 sb sL xs nx), (294, bL_law_294 sb sL xs nx), (325, bL_law_325 sb sL xs nx), (326, bL_law_326 sb sL xs nx), (339, bL_law_339 sb sL xs nx), (340, bL_law_340 sb sL xs nx), (346, bL_law_346 sb sL xs nx), (404, bL_law_404 sb sL xs nx), (407, bL_law_407 sb sL xs nx), (432, bL_law_432 sb sL xs nx), (452, bL_law_452 sb sL xs nx), (453, bL_law_453 sb sL xs nx), (478, bL_law_478 sb sL xs nx), (479, bL_law_479 sb sL xs nx), (485, bL_law_485 sb sL xs nx), (534, bL_law_534 sb sL xs nx), (562, bL_law_562 sb sL xs nx), (618, bL_law_618 sb sL xs nx), (626, bL_law_626 sb sL xs nx), (678, bL_law_678 sb sL xs nx), (730, bL_law_730 sb sL xs nx), (770, bL_law_770 sb sL xs nx), (819, bL_law_819 sb sL xs nx), (844, bL_law_844 sb sL xs nx), (850, bL_law_850 sb sL xs nx)]
set_option maxRecDepth 20000 in
theorem oL_law_0 {T : Ct} {sb sL : Nat} {xs : Nat → Int32} (C : Cx T cL_law 7 RL 601024 7293034) (CR : CxR T 10 370) (hst : T.2.1.stackTraces = false) (hgy : gY T.2.2.2.2.2.2.2.2.2.2.2.2 T.2.2.2.2.1) (hX : va_X sb sL xs T.2.2.2.2.1 T.2.2.2.2.1.heap) (hbl : sb < T.2.2.2.2.1.heap.size) (hba : sb < T.2.2.2.2.2.2.2.2.2.2.2.2) (hbb : LwR T sb) {nx : Nat → Kt} (hn : ∀ pc, Sd T 7 (QL T) 601024 7293034 pc (nx pc)) : Sd T 7 (QL T) 601024 7293034 0 (bL_law_0 sb sL xs nx) := nf_L_8 C dL_law_0 (x_dup C dL_law_3 (x_cC C CR mX7_init ⟨co_X7_init, init_X7, md_X7_init, by decide, by decide⟩ ml_L_63 im_X7_init rfl dL_law_4 (x_as_n C dL_law_7 rfl (by decide) (nf_L_64 C dL_law_8 (x_dup C dL_law_11 (x_cC C CR mX8_init ⟨co_X8_init, init_X8, md_X8_init, by decide, by decide⟩ ml_L_66 im_X8_init rfl dL_law_12 (x_as_n C dL_law_15 rfl (by decide) (x_ic C dL_law_16 (by decide) (x_newJ C ac_long dL_law_17 (x_as_n C dL_law_19 rfl (by decide) (x_ic C dL_law_20 (by decide) (x_is C dL_law_21 (by decide) (hn 23)))))))))))))
set_option maxRecDepth 20000 in
theorem oL_law_23 {T : Ct} {sb sL : Nat} {xs : Nat → Int32} (C : Cx T cL_law 7 RL 601024 7293034) (CR : CxR T 10 370) (hst : T.2.1.stackTraces = false) (hgy : gY T.2.2.2.2.2.2.2.2.2.2.2.2 T.2.2.2.2.1) (hX : va_X sb sL xs T.2.2.2.2.1 T.2.2.2.2.1.heap) (hbl : sb < T.2.2.2.2.1.heap.size) (hba : sb < T.2.2.2.2.2.2.2.2.2.2.2.2) (hbb : LwR T sb) {nx : Nat → Kt} (hn : ∀ pc, Sd T 7 (QL T) 601024 7293034 pc (nx pc)) : Sd T 7 (QL T) 601024 7293034 23 (bL_law_23 sb sL xs nx) := x_il C dL_law_23 (x_al_n C dL_law_25 rfl (x_sln C hX hbl hba dL_law_26 (x_ic C dL_law_27 (by decide) (x_isub C dL_law_28 (x_ic_gt C (hn 850) dL_law_29 (by decide) (x_al_n C dL_law_32 rfl (x_il C dL_law_33 (x_sld C hX hbl hba dL_law_35 (x_bp C dL_law_36 (by decide) (x_iand C dL_law_38 (x_sw C (tl := [112, 152, 192, 253, 346, 407, 432, 485, 534, 562, 626, 678, 730, 770, 819]) hn dL_law_39 (by decide) (by decide) (by decide))))))))))))
set_option maxRecDepth 20000 in
theorem oL_law_112 {T : Ct} {sb sL : Nat} {xs : Nat → Int32} (C : Cx T cL_law 7 RL 601024 7293034) (CR : CxR T 10 370) (hst : T.2.1.stackTraces = false) (hgy : gY T.2.2.2.2.2.2.2.2.2.2.2.2 T.2.2.2.2.1) (hX : va_X sb sL xs T.2.2.2.2.1 T.2.2.2.2.1.heap) (hbl : sb < T.2.2.2.2.1.heap.size) (hba : sb < T.2.2.2.2.2.2.2.2.2.2.2.2) (hbb : LwR T sb) {nx : Nat → Kt} (hn : ∀ pc, Sd T 7 (QL T) 601024 7293034 pc (nx pc)) : Sd T 7 (QL T) 601024 7293034 112 (bL_law_112 sb sL xs nx) := x_al_n C dL_law_112 rfl (x_al_n C dL_law_113 rfl (x_il C dL_law_114 (x_ic C dL_law_116 (by decide) (x_iadd C dL_law_117 (x_sld C hX hbl hba dL_law_118 (x_al_n C dL_law_119 rfl (x_il C dL_law_120 (x_ic C dL_law_122 (by decide) (x_iadd C dL_law_123 (x_sld C hX hbl hba dL_law_124 (x_al_n C dL_law_125 rfl (x_cW C CR hst hgy mL_system co_L_system init_L md_L_system (by decide) (by decide) ml_L_67 sm_L_system dL_law_126 (x_is C dL_law_129 (by decide) (x_al_n C dL_law_131 rfl (x_al_n C dL_law_132 rfl (x_il C dL_law_133 (x_ic C dL_law_135 (by decide) (x_iadd C dL_law_136 (x_sld C hX hbl hba dL_law_137 (x_al_n C dL_law_138 rfl (x_il C dL_law_139 (x_ic C dL_law_141 (by decide) (x_iadd C dL_law_142 (x_sld C hX hbl hba dL_law_143 (x_cV C CR mX8_system ⟨co_X8_system, init_X8, md_X8_system, by decide, by decide⟩ (ci := 8) (TX := TX8) (N := 51) rfl (by decide) ml_L_72 im_X8_system se_X8_system dL_law_144 (x_is C dL_law_147 (by decide) (x_goto C (hn 844) dL_law_149 (by decide))))))))))))))))))))))))))))
set_option maxRecDepth 20000 in
theorem oL_law_152 {T : Ct} {sb sL : Nat} {xs : Nat → Int32} (C : Cx T cL_law 7 RL 601024 7293034) (CR : CxR T 10 370) (hst : T.2.1.stackTraces = false) (hgy : gY T.2.2.2.2.2.2.2.2.2.2.2.2 T.2.2.2.2.1) (hX : va_X sb sL xs T.2.2.2.2.1 T.2.2.2.2.1.heap) (hbl : sb < T.2.2.2.2.1.heap.size) (hba : sb < T.2.2.2.2.2.2.2.2.2.2.2.2) (hbb : LwR T sb) {nx : Nat → Kt} (hn : ∀ pc, Sd T 7 (QL T) 601024 7293034 pc (nx pc)) : Sd T 7 (QL T) 601024 7293034 152 (bL_law_152 sb sL xs nx) := x_al_n C dL_law_152 rfl (x_al_n C dL_law_153 rfl (x_il C dL_law_154 (x_ic C dL_law_156 (by decide) (x_iadd C dL_law_157 (x_sld C hX hbl hba dL_law_158 (x_al_n C dL_law_159 rfl (x_il C dL_law_160 (x_ic C dL_law_162 (by decide) (x_iadd C dL_law_163 (x_sld C hX hbl hba dL_law_164 (x_al_n C dL_law_165 rfl (x_cW C CR hst hgy mL_limit co_L_limit init_L md_L_limit (by decide) (by decide) ml_L_73 sm_L_limit dL_law_166 (x_is C dL_law_169 (by decide) (x_al_n C dL_law_171 rfl (x_al_n C dL_law_172 rfl (x_il C dL_law_173 (x_ic C dL_law_175 (by decide) (x_iadd C dL_law_176 (x_sld C hX hbl hba dL_law_177 (x_al_n C dL_law_178 rfl (x_il C dL_law_179 (x_ic C dL_law_181 (by decide) (x_iadd C dL_law_182 (x_sld C hX hbl hba dL_law_183 (x_cV C CR mX8_limit ⟨co_X8_limit, init_X8, md_X8_limit, by decide, by decide⟩ (ci := 8) (TX := TX8) (N := 51) rfl (by decide) ml_L_75 im_X8_limit se_X8_limit dL_law_184 (x_is C dL_law_187 (by decide) (x_goto C (hn 844) dL_law_189 (by decide))))))))))))))))))))))))))))
set_option maxRecDepth 20000 in
theorem oL_law_192 {T : Ct} {sb sL : Nat} {xs : Nat → Int32} (C : Cx T cL_law 7 RL 601024 7293034) (CR : CxR T 10 370) (hst : T.2.1.stackTraces = false) (hgy : gY T.2.2.2.2.2.2.2.2.2.2.2.2 T.2.2.2.2.1) (hX : va_X sb sL xs T.2.2.2.2.1 T.2.2.2.2.1.heap) (hbl : sb < T.2.2.2.2.1.heap.size) (hba : sb < T.2.2.2.2.2.2.2.2.2.2.2.2) (hbb : LwR T sb) {nx : Nat → Kt} (hn : ∀ pc, Sd T 7 (QL T) 601024 7293034 pc (nx pc)) : Sd T 7 (QL T) 601024 7293034 192 (bL_law_192 sb sL xs nx) := x_al_n C dL_law_192 rfl (x_al_n C dL_law_193 rfl (x_il C dL_law_194 (x_ic C dL_law_196 (by decide) (x_iadd C dL_law_197 (x_sld C hX hbl hba dL_law_198 (x_al_n C dL_law_199 rfl (x_il C dL_law_200 (x_ic C dL_law_202 (by decide) (x_iadd C dL_law_203 (x_sld C hX hbl hba dL_law_204 (x_al_n C dL_law_205 rfl (x_il C dL_law_206 (x_ic C dL_law_208 (by decide) (x_iadd C dL_law_209 (x_sld C hX hbl hba dL_law_210 (x_al_n C dL_law_211 rfl (x_il C dL_law_212 (x_ic C dL_law_214 (by decide) (x_iadd C dL_law_215 (x_sld C hX hbl hba dL_law_216 (x_cW C CR hst hgy mL_port co_L_port init_L md_L_port (by decide) (by decide) ml_L_76 sm_L_port dL_law_217 (x_is C dL_law_220 (by decide) (x_al_n C dL_law_222 rfl (x_al_n C dL_law_223 rfl (x_il C dL_law_224 (x_ic C dL_law_226 (by decide) (x_iadd C dL_law_227 (x_sld C hX hbl hba dL_law_228 (x_al_n C dL_law_229 rfl (x_il C dL_law_230 (x_ic C dL_law_232 (by decide) (x_iadd C dL_law_233 (x_sld C hX hbl hba dL_law_234 (x_al_n C dL_law_235 rfl (x_il C dL_law_236 (x_ic C dL_law_238 (by decide) (x_iadd C dL_law_239 (x_sld C hX hbl hba dL_law_240 (x_al_n C dL_law_241 rfl (x_il C dL_law_242 (x_ic C dL_law_244 (by decide) (x_iadd C dL_law_245 (x_sld C hX hbl hba dL_law_246 (x_cV C CR mX8_port ⟨co_X8_port, init_X8, md_X8_port, by decide, by decide⟩ (ci := 8) (TX := TX8) (N := 51) rfl (by decide) ml_L_79 im_X8_port se_X8_port dL_law_247 (hn 250)))))))))))))))))))))))))))))))))))))))))))))
set_option maxRecDepth 20000 in
theorem oL_law_250 {T : Ct} {sb sL : Nat} {xs : Nat → Int32} (C : Cx T cL_law 7 RL 601024 7293034) (CR : CxR T 10 370) (hst : T.2.1.stackTraces = false) (hgy : gY T.2.2.2.2.2.2.2.2.2.2.2.2 T.2.2.2.2.1) (hX : va_X sb sL xs T.2.2.2.2.1 T.2.2.2.2.1.heap) (hbl : sb < T.2.2.2.2.1.heap.size) (hba : sb < T.2.2.2.2.2.2.2.2.2.2.2.2) (hbb : LwR T sb) {nx : Nat → Kt} (hn : ∀ pc, Sd T 7 (QL T) 601024 7293034 pc (nx pc)) : Sd T 7 (QL T) 601024 7293034 250 (bL_law_250 sb sL xs nx) := x_goto C (hn 844) dL_law_250 (by decide)
set_option maxRecDepth 20000 in
theorem oL_law_253 {T : Ct} {sb sL : Nat} {xs : Nat → Int32} (C : Cx T cL_law 7 RL 601024 7293034) (CR : CxR T 10 370) (hst : T.2.1.stackTraces = false) (hgy : gY T.2.2.2.2.2.2.2.2.2.2.2.2 T.2.2.2.2.1) (hX : va_X sb sL xs T.2.2.2.2.1 T.2.2.2.2.1.heap) (hbl : sb < T.2.2.2.2.1.heap.size) (hba : sb < T.2.2.2.2.2.2.2.2.2.2.2.2) (hbb : LwR T sb) {nx : Nat → Kt} (hn : ∀ pc, Sd T 7 (QL T) 601024 7293034 pc (nx pc)) : Sd T 7 (QL T) 601024 7293034 253 (bL_law_253 sb sL xs nx) := x_al_n C dL_law_253 rfl (x_al_n C dL_law_254 rfl (x_il C dL_law_255 (x_ic C dL_law_257 (by decide) (x_iadd C dL_law_258 (x_sld C hX hbl hba dL_law_259 (x_al_n C dL_law_260 rfl (x_il C dL_law_261 (x_ic C dL_law_263 (by decide) (x_iadd C dL_law_264 (x_sld C hX hbl hba dL_law_265 (x_al_n C dL_law_266 rfl (x_il C dL_law_267 (x_ic C dL_law_269 (by decide) (x_iadd C dL_law_270 (x_sld C hX hbl hba dL_law_271 (x_if_eq C (hn 279) dL_law_272 (by decide) (x_ic C dL_law_275 (by decide) (x_goto C (hn 280) dL_law_276 (by decide)))))))))))))))))))
set_option maxRecDepth 20000 in
theorem oL_law_279 {T : Ct} {sb sL : Nat} {xs : Nat → Int32} (C : Cx T cL_law 7 RL 601024 7293034) (CR : CxR T 10 370) (hst : T.2.1.stackTraces = false) (hgy : gY T.2.2.2.2.2.2.2.2.2.2.2.2 T.2.2.2.2.1) (hX : va_X sb sL xs T.2.2.2.2.1 T.2.2.2.2.1.heap) (hbl : sb < T.2.2.2.2.1.heap.size) (hba : sb < T.2.2.2.2.2.2.2.2.2.2.2.2) (hbb : LwR T sb) {nx : Nat → Kt} (hn : ∀ pc, Sd T 7 (QL T) 601024 7293034 pc (nx pc)) : Sd T 7 (QL T) 601024 7293034 279 (bL_law_279 sb sL xs nx) := x_ic C dL_law_279 (by decide) (hn 280)
set_option maxRecDepth 20000 in
theorem oL_law_280 {T : Ct} {sb sL : Nat} {xs : Nat → Int32} (C : Cx T cL_law 7 RL 601024 7293034) (CR : CxR T 10 370) (hst : T.2.1.stackTraces = false) (hgy : gY T.2.2.2.2.2.2.2.2.2.2.2.2 T.2.2.2.2.1) (hX : va_X sb sL xs T.2.2.2.2.1 T.2.2.2.2.1.heap) (hbl : sb < T.2.2.2.2.1.heap.size) (hba : sb < T.2.2.2.2.2.2.2.2.2.2.2.2) (hbb : LwR T sb) {nx : Nat → Kt} (hn : ∀ pc, Sd T 7 (QL T) 601024 7293034 pc (nx pc)) : Sd T 7 (QL T) 601024 7293034 280 (bL_law_280 sb sL xs nx) := x_al_n C dL_law_280 rfl (x_il C dL_law_281 (x_ic C dL_law_283 (by decide) (x_iadd C dL_law_284 (x_sld C hX hbl hba dL_law_285 (x_if_eq C (hn 293) dL_law_286 (by decide) (x_ic C dL_law_289 (by decide) (x_goto C (hn 294) dL_law_290 (by decide))))))))
set_option maxRecDepth 20000 in
theorem oL_law_293 {T : Ct} {sb sL : Nat} {xs : Nat → Int32} (C : Cx T cL_law 7 RL 601024 7293034) (CR : CxR T 10 370) (hst : T.2.1.stackTraces = false) (hgy : gY T.2.2.2.2.2.2.2.2.2.2.2.2 T.2.2.2.2.1) (hX : va_X sb sL xs T.2.2.2.2.1 T.2.2.2.2.1.heap) (hbl : sb < T.2.2.2.2.1.heap.size) (hba : sb < T.2.2.2.2.2.2.2.2.2.2.2.2) (hbb : LwR T sb) {nx : Nat → Kt} (hn : ∀ pc, Sd T 7 (QL T) 601024 7293034 pc (nx pc)) : Sd T 7 (QL T) 601024 7293034 293 (bL_law_293 sb sL xs nx) := x_ic C dL_law_293 (by decide) (hn 294)
set_option maxRecDepth 20000 in
theorem oL_law_294 {T : Ct} {sb sL : Nat} {xs : Nat → Int32} (C : Cx T cL_law 7 RL 601024 7293034) (CR : CxR T 10 370) (hst : T.2.1.stackTraces = false) (hgy : gY T.2.2.2.2.2.2.2.2.2.2.2.2 T.2.2.2.2.1) (hX : va_X sb sL xs T.2.2.2.2.1 T.2.2.2.2.1.heap) (hbl : sb < T.2.2.2.2.1.heap.size) (hba : sb < T.2.2.2.2.2.2.2.2.2.2.2.2) (hbb : LwR T sb) {nx : Nat → Kt} (hn : ∀ pc, Sd T 7 (QL T) 601024 7293034 pc (nx pc)) : Sd T 7 (QL T) 601024 7293034 294 (bL_law_294 sb sL xs nx) := x_cW C CR hst hgy mL_manner co_L_manner init_L md_L_manner (by decide) (by decide) ml_L_80 sm_L_manner dL_law_294 (x_is C dL_law_297 (by decide) (x_al_n C dL_law_299 rfl (x_al_n C dL_law_300 rfl (x_il C dL_law_301 (x_ic C dL_law_303 (by decide) (x_iadd C dL_law_304 (x_sld C hX hbl hba dL_law_305 (x_al_n C dL_law_306 rfl (x_il C dL_law_307 (x_ic C dL_law_309 (by decide) (x_iadd C dL_law_310 (x_sld C hX hbl hba dL_law_311 (x_al_n C dL_law_312 rfl (x_il C dL_law_313 (x_ic C dL_law_315 (by decide) (x_iadd C dL_law_316 (x_sld C hX hbl hba dL_law_317 (x_if_eq C (hn 325) dL_law_318 (by decide) (x_ic C dL_law_321 (by decide) (x_goto C (hn 326) dL_law_322 (by decide)))))))))))))))))))))
set_option maxRecDepth 20000 in
theorem oL_law_325 {T : Ct} {sb sL : Nat} {xs : Nat → Int32} (C : Cx T cL_law 7 RL 601024 7293034) (CR : CxR T 10 370) (hst : T.2.1.stackTraces = false) (hgy : gY T.2.2.2.2.2.2.2.2.2.2.2.2 T.2.2.2.2.1) (hX : va_X sb sL xs T.2.2.2.2.1 T.2.2.2.2.1.heap) (hbl : sb < T.2.2.2.2.1.heap.size) (hba : sb < T.2.2.2.2.2.2.2.2.2.2.2.2) (hbb : LwR T sb) {nx : Nat → Kt} (hn : ∀ pc, Sd T 7 (QL T) 601024 7293034 pc (nx pc)) : Sd T 7 (QL T) 601024 7293034 325 (bL_law_325 sb sL xs nx) := x_ic C dL_law_325 (by decide) (hn 326)
set_option maxRecDepth 20000 in
theorem oL_law_326 {T : Ct} {sb sL : Nat} {xs : Nat → Int32} (C : Cx T cL_law 7 RL 601024 7293034) (CR : CxR T 10 370) (hst : T.2.1.stackTraces = false) (hgy : gY T.2.2.2.2.2.2.2.2.2.2.2.2 T.2.2.2.2.1) (hX : va_X sb sL xs T.2.2.2.2.1 T.2.2.2.2.1.heap) (hbl : sb < T.2.2.2.2.1.heap.size) (hba : sb < T.2.2.2.2.2.2.2.2.2.2.2.2) (hbb : LwR T sb) {nx : Nat → Kt} (hn : ∀ pc, Sd T 7 (QL T) 601024 7293034 pc (nx pc)) : Sd T 7 (QL T) 601024 7293034 326 (bL_law_326 sb sL xs nx) := x_al_n C dL_law_326 rfl (x_il C dL_law_327 (x_ic C dL_law_329 (by decide) (x_iadd C dL_law_330 (x_sld C hX hbl hba dL_law_331 (x_if_eq C (hn 339) dL_law_332 (by decide) (x_ic C dL_law_335 (by decide) (x_goto C (hn 340) dL_law_336 (by decide))))))))
set_option maxRecDepth 20000 in
theorem oL_law_339 {T : Ct} {sb sL : Nat} {xs : Nat → Int32} (C : Cx T cL_law 7 RL 601024 7293034) (CR : CxR T 10 370) (hst : T.2.1.stackTraces = false) (hgy : gY T.2.2.2.2.2.2.2.2.2.2.2.2 T.2.2.2.2.1) (hX : va_X sb sL xs T.2.2.2.2.1 T.2.2.2.2.1.heap) (hbl : sb < T.2.2.2.2.1.heap.size) (hba : sb < T.2.2.2.2.2.2.2.2.2.2.2.2) (hbb : LwR T sb) {nx : Nat → Kt} (hn : ∀ pc, Sd T 7 (QL T) 601024 7293034 pc (nx pc)) : Sd T 7 (QL T) 601024 7293034 339 (bL_law_339 sb sL xs nx) := x_ic C dL_law_339 (by decide) (hn 340)
set_option maxRecDepth 20000 in
theorem oL_law_340 {T : Ct} {sb sL : Nat} {xs : Nat → Int32} (C : Cx T cL_law 7 RL 601024 7293034) (CR : CxR T 10 370) (hst : T.2.1.stackTraces = false) (hgy : gY T.2.2.2.2.2.2.2.2.2.2.2.2 T.2.2.2.2.1) (hX : va_X sb sL xs T.2.2.2.2.1 T.2.2.2.2.1.heap) (hbl : sb < T.2.2.2.2.1.heap.size) (hba : sb < T.2.2.2.2.2.2.2.2.2.2.2.2) (hbb : LwR T sb) {nx : Nat → Kt} (hn : ∀ pc, Sd T 7 (QL T) 601024 7293034 pc (nx pc)) : Sd T 7 (QL T) 601024 7293034 340 (bL_law_340 sb sL xs nx) := x_cV C CR mX8_manner ⟨co_X8_manner, init_X8, md_X8_manner, by decide, by decide⟩ (ci := 8) (TX := TX8) (N := 51) rfl (by decide) ml_L_83 im_X8_manner se_X8_manner dL_law_340 (x_goto C (hn 844) dL_law_343 (by decide))
set_option maxRecDepth 20000 in
theorem oL_law_346 {T : Ct} {sb sL : Nat} {xs : Nat → Int32} (C : Cx T cL_law 7 RL 601024 7293034) (CR : CxR T 10 370) (hst : T.2.1.stackTraces = false) (hgy : gY T.2.2.2.2.2.2.2.2.2.2.2.2 T.2.2.2.2.1) (hX : va_X sb sL xs T.2.2.2.2.1 T.2.2.2.2.1.heap) (hbl : sb < T.2.2.2.2.1.heap.size) (hba : sb < T.2.2.2.2.2.2.2.2.2.2.2.2) (hbb : LwR T sb) {nx : Nat → Kt} (hn : ∀ pc, Sd T 7 (QL T) 601024 7293034 pc (nx pc)) : Sd T 7 (QL T) 601024 7293034 346 (bL_law_346 sb sL xs nx) := x_al_n C dL_law_346 rfl (x_al_n C dL_law_347 rfl (x_il C dL_law_348 (x_ic C dL_law_350 (by decide) (x_iadd C dL_law_351 (x_sld C hX hbl hba dL_law_352 (x_al_n C dL_law_353 rfl (x_il C dL_law_354 (x_ic C dL_law_356 (by decide) (x_iadd C dL_law_357 (x_sld C hX hbl hba dL_law_358 (x_al_n C dL_law_359 rfl (x_il C dL_law_360 (x_ic C dL_law_362 (by decide) (x_iadd C dL_law_363 (x_sld C hX hbl hba dL_law_364 (x_al_n C dL_law_365 rfl (x_il C dL_law_366 (x_ic C dL_law_368 (by decide) (x_iadd C dL_law_369 (x_sld C hX hbl hba dL_law_370 (x_cW C CR hst hgy mL_plug co_L_plug init_L md_L_plug (by decide) (by decide) ml_L_84 sm_L_plug dL_law_371 (x_is C dL_law_374 (by decide) (x_al_n C dL_law_376 rfl (x_al_n C dL_law_377 rfl (x_il C dL_law_378 (x_ic C dL_law_380 (by decide) (x_iadd C dL_law_381 (x_sld C hX hbl hba dL_law_382 (x_al_n C dL_law_383 rfl (x_il C dL_law_384 (x_ic C dL_law_386 (by decide) (x_iadd C dL_law_387 (x_sld C hX hbl hba dL_law_388 (x_al_n C dL_law_389 rfl (x_il C dL_law_390 (x_ic C dL_law_392 (by decide) (x_iadd C dL_law_393 (x_sld C hX hbl hba dL_law_394 (x_al_n C dL_law_395 rfl (x_il C dL_law_396 (x_ic C dL_law_398 (by decide) (x_iadd C dL_law_399 (x_sld C hX hbl hba dL_law_400 (x_cV C CR mX8_plug ⟨co_X8_plug, init_X8, md_X8_plug, by decide, by decide⟩ (ci := 8) (TX := TX8) (N := 51) rfl (by decide) ml_L_86 im_X8_plug se_X8_plug dL_law_401 (hn 404)))))))))))))))))))))))))))))))))))))))))))))
set_option maxRecDepth 20000 in
theorem oL_law_404 {T : Ct} {sb sL : Nat} {xs : Nat → Int32} (C : Cx T cL_law 7 RL 601024 7293034) (CR : CxR T 10 370) (hst : T.2.1.stackTraces = false) (hgy : gY T.2.2.2.2.2.2.2.2.2.2.2.2 T.2.2.2.2.1) (hX : va_X sb sL xs T.2.2.2.2.1 T.2.2.2.2.1.heap) (hbl : sb < T.2.2.2.2.1.heap.size) (hba : sb < T.2.2.2.2.2.2.2.2.2.2.2.2) (hbb : LwR T sb) {nx : Nat → Kt} (hn : ∀ pc, Sd T 7 (QL T) 601024 7293034 pc (nx pc)) : Sd T 7 (QL T) 601024 7293034 404 (bL_law_404 sb sL xs nx) := x_goto C (hn 844) dL_law_404 (by decide)
set_option maxRecDepth 20000 in
theorem oL_law_407 {T : Ct} {sb sL : Nat} {xs : Nat → Int32} (C : Cx T cL_law 7 RL 601024 7293034) (CR : CxR T 10 370) (hst : T.2.1.stackTraces = false) (hgy : gY T.2.2.2.2.2.2.2.2.2.2.2.2 T.2.2.2.2.1) (hX : va_X sb sL xs T.2.2.2.2.1 T.2.2.2.2.1.heap) (hbl : sb < T.2.2.2.2.1.heap.size) (hba : sb < T.2.2.2.2.2.2.2.2.2.2.2.2) (hbb : LwR T sb) {nx : Nat → Kt} (hn : ∀ pc, Sd T 7 (QL T) 601024 7293034 pc (nx pc)) : Sd T 7 (QL T) 601024 7293034 407 (bL_law_407 sb sL xs nx) := x_al_n C dL_law_407 rfl (x_al_n C dL_law_408 rfl (x_il C dL_law_409 (x_ic C dL_law_411 (by decide) (x_iadd C dL_law_412 (x_sld C hX hbl hba dL_law_413 (x_cW C CR hst hgy mL_pull co_L_pull init_L md_L_pull (by decide) (by decide) ml_L_87 sm_L_pull dL_law_414 (x_is C dL_law_417 (by decide) (x_al_n C dL_law_419 rfl (x_al_n C dL_law_420 rfl (x_il C dL_law_421 (x_ic C dL_law_423 (by decide) (x_iadd C dL_law_424 (x_sld C hX hbl hba dL_law_425 (x_cV C CR mX8_pull ⟨co_X8_pull, init_X8, md_X8_pull, by decide, by decide⟩ (ci := 8) (TX := TX8) (N := 51) rfl (by decide) ml_L_90 im_X8_pull se_X8_pull dL_law_426 (x_goto C (hn 844) dL_law_429 (by decide))))))))))))))))
set_option maxRecDepth 20000 in
theorem oL_law_432 {T : Ct} {sb sL : Nat} {xs : Nat → Int32} (C : Cx T cL_law 7 RL 601024 7293034) (CR : CxR T 10 370) (hst : T.2.1.stackTraces = false) (hgy : gY T.2.2.2.2.2.2.2.2.2.2.2.2 T.2.2.2.2.1) (hX : va_X sb sL xs T.2.2.2.2.1 T.2.2.2.2.1.heap) (hbl : sb < T.2.2.2.2.1.heap.size) (hba : sb < T.2.2.2.2.2.2.2.2.2.2.2.2) (hbb : LwR T sb) {nx : Nat → Kt} (hn : ∀ pc, Sd T 7 (QL T) 601024 7293034 pc (nx pc)) : Sd T 7 (QL T) 601024 7293034 432 (bL_law_432 sb sL xs nx) := x_al_n C dL_law_432 rfl (x_al_n C dL_law_433 rfl (x_il C dL_law_434 (x_ic C dL_law_436 (by decide) (x_iadd C dL_law_437 (x_sld C hX hbl hba dL_law_438 (x_al_n C dL_law_439 rfl (x_il C dL_law_440 (x_ic C dL_law_442 (by decide) (x_iadd C dL_law_443 (x_sld C hX hbl hba dL_law_444 (x_if_eq C (hn 452) dL_law_445 (by decide) (x_ic C dL_law_448 (by decide) (x_goto C (hn 453) dL_law_449 (by decide))))))))))))))
set_option maxRecDepth 20000 in
theorem oL_law_452 {T : Ct} {sb sL : Nat} {xs : Nat → Int32} (C : Cx T cL_law 7 RL 601024 7293034) (CR : CxR T 10 370) (hst : T.2.1.stackTraces = false) (hgy : gY T.2.2.2.2.2.2.2.2.2.2.2.2 T.2.2.2.2.1) (hX : va_X sb sL xs T.2.2.2.2.1 T.2.2.2.2.1.heap) (hbl : sb < T.2.2.2.2.1.heap.size) (hba : sb < T.2.2.2.2.2.2.2.2.2.2.2.2) (hbb : LwR T sb) {nx : Nat → Kt} (hn : ∀ pc, Sd T 7 (QL T) 601024 7293034 pc (nx pc)) : Sd T 7 (QL T) 601024 7293034 452 (bL_law_452 sb sL xs nx) := x_ic C dL_law_452 (by decide) (hn 453)
set_option maxRecDepth 20000 in
theorem oL_law_453 {T : Ct} {sb sL : Nat} {xs : Nat → Int32} (C : Cx T cL_law 7 RL 601024 7293034) (CR : CxR T 10 370) (hst : T.2.1.stackTraces = false) (hgy : gY T.2.2.2.2.2.2.2.2.2.2.2.2 T.2.2.2.2.1) (hX : va_X sb sL xs T.2.2.2.2.1 T.2.2.2.2.1.heap) (hbl : sb < T.2.2.2.2.1.heap.size) (hba : sb < T.2.2.2.2.2.2.2.2.2.2.2.2) (hbb : LwR T sb) {nx : Nat → Kt} (hn : ∀ pc, Sd T 7 (QL T) 601024 7293034 pc (nx pc)) : Sd T 7 (QL T) 601024 7293034 453 (bL_law_453 sb sL xs nx) := x_cW C CR hst hgy mL_light co_L_light init_L md_L_light (by decide) (by decide) ml_L_91 sm_L_light dL_law_453 (x_is C dL_law_456 (by decide) (x_al_n C dL_law_458 rfl (x_al_n C dL_law_459 rfl (x_il C dL_law_460 (x_ic C dL_law_462 (by decide) (x_iadd C dL_law_463 (x_sld C hX hbl hba dL_law_464 (x_al_n C dL_law_465 rfl (x_il C dL_law_466 (x_ic C dL_law_468 (by decide) (x_iadd C dL_law_469 (x_sld C hX hbl hba dL_law_470 (x_if_eq C (hn 478) dL_law_471 (by decide) (x_ic C dL_law_474 (by decide) (x_goto C (hn 479) dL_law_475 (by decide))))))))))))))))
set_option maxRecDepth 20000 in
theorem oL_law_478 {T : Ct} {sb sL : Nat} {xs : Nat → Int32} (C : Cx T cL_law 7 RL 601024 7293034) (CR : CxR T 10 370) (hst : T.2.1.stackTraces = false) (hgy : gY T.2.2.2.2.2.2.2.2.2.2.2.2 T.2.2.2.2.1) (hX : va_X sb sL xs T.2.2.2.2.1 T.2.2.2.2.1.heap) (hbl : sb < T.2.2.2.2.1.heap.size) (hba : sb < T.2.2.2.2.2.2.2.2.2.2.2.2) (hbb : LwR T sb) {nx : Nat → Kt} (hn : ∀ pc, Sd T 7 (QL T) 601024 7293034 pc (nx pc)) : Sd T 7 (QL T) 601024 7293034 478 (bL_law_478 sb sL xs nx) := x_ic C dL_law_478 (by decide) (hn 479)
set_option maxRecDepth 20000 in
theorem oL_law_479 {T : Ct} {sb sL : Nat} {xs : Nat → Int32} (C : Cx T cL_law 7 RL 601024 7293034) (CR : CxR T 10 370) (hst : T.2.1.stackTraces = false) (hgy : gY T.2.2.2.2.2.2.2.2.2.2.2.2 T.2.2.2.2.1) (hX : va_X sb sL xs T.2.2.2.2.1 T.2.2.2.2.1.heap) (hbl : sb < T.2.2.2.2.1.heap.size) (hba : sb < T.2.2.2.2.2.2.2.2.2.2.2.2) (hbb : LwR T sb) {nx : Nat → Kt} (hn : ∀ pc, Sd T 7 (QL T) 601024 7293034 pc (nx pc)) : Sd T 7 (QL T) 601024 7293034 479 (bL_law_479 sb sL xs nx) := x_cV C CR mX8_light ⟨co_X8_light, init_X8, md_X8_light, by decide, by decide⟩ (ci := 8) (TX := TX8) (N := 51) rfl (by decide) ml_L_94 im_X8_light se_X8_light dL_law_479 (x_goto C (hn 844) dL_law_482 (by decide))
set_option maxRecDepth 20000 in
theorem oL_law_485 {T : Ct} {sb sL : Nat} {xs : Nat → Int32} (C : Cx T cL_law 7 RL 601024 7293034) (CR : CxR T 10 370) (hst : T.2.1.stackTraces = false) (hgy : gY T.2.2.2.2.2.2.2.2.2.2.2.2 T.2.2.2.2.1) (hX : va_X sb sL xs T.2.2.2.2.1 T.2.2.2.2.1.heap) (hbl : sb < T.2.2.2.2.1.heap.size) (hba : sb < T.2.2.2.2.2.2.2.2.2.2.2.2) (hbb : LwR T sb) {nx : Nat → Kt} (hn : ∀ pc, Sd T 7 (QL T) 601024 7293034 pc (nx pc)) : Sd T 7 (QL T) 601024 7293034 485 (bL_law_485 sb sL xs nx) := x_al_n C dL_law_485 rfl (x_al_n C dL_law_486 rfl (x_il C dL_law_487 (x_ic C dL_law_489 (by decide) (x_iadd C dL_law_490 (x_sld C hX hbl hba dL_law_491 (x_al_n C dL_law_492 rfl (x_il C dL_law_493 (x_ic C dL_law_495 (by decide) (x_iadd C dL_law_496 (x_sld C hX hbl hba dL_law_497 (x_al_n C dL_law_498 rfl (x_il C dL_law_499 (x_ic C dL_law_501 (by decide) (x_iadd C dL_law_502 (x_sld C hX hbl hba dL_law_503 (x_cW C CR hst hgy mL_lose co_L_lose init_L md_L_lose (by decide) (by decide) ml_L_95 sm_L_lose dL_law_504 (x_is C dL_law_507 (by decide) (x_al_n C dL_law_509 rfl (x_al_n C dL_law_510 rfl (x_il C dL_law_511 (x_ic C dL_law_513 (by decide) (x_iadd C dL_law_514 (x_sld C hX hbl hba dL_law_515 (x_al_n C dL_law_516 rfl (x_il C dL_law_517 (x_ic C dL_law_519 (by decide) (x_iadd C dL_law_520 (x_sld C hX hbl hba dL_law_521 (x_al_n C dL_law_522 rfl (x_il C dL_law_523 (x_ic C dL_law_525 (by decide) (x_iadd C dL_law_526 (x_sld C hX hbl hba dL_law_527 (x_cV C CR mX8_lose ⟨co_X8_lose, init_X8, md_X8_lose, by decide, by decide⟩ (ci := 8) (TX := TX8) (N := 51) rfl (by decide) ml_L_98 im_X8_lose se_X8_lose dL_law_528 (x_goto C (hn 844) dL_law_531 (by decide))))))))))))))))))))))))))))))))))))
set_option maxRecDepth 20000 in
theorem oL_law_534 {T : Ct} {sb sL : Nat} {xs : Nat → Int32} (C : Cx T cL_law 7 RL 601024 7293034) (CR : CxR T 10 370) (hst : T.2.1.stackTraces = false) (hgy : gY T.2.2.2.2.2.2.2.2.2.2.2.2 T.2.2.2.2.1) (hX : va_X sb sL xs T.2.2.2.2.1 T.2.2.2.2.1.heap) (hbl : sb < T.2.2.2.2.1.heap.size) (hba : sb < T.2.2.2.2.2.2.2.2.2.2.2.2) (hbb : LwR T sb) {nx : Nat → Kt} (hn : ∀ pc, Sd T 7 (QL T) 601024 7293034 pc (nx pc)) : Sd T 7 (QL T) 601024 7293034 534 (bL_law_534 sb sL xs nx) := x_al_n C dL_law_534 rfl (x_al_n C dL_law_535 rfl (x_il C dL_law_536 (x_ic C dL_law_538 (by decide) (x_iadd C dL_law_539 (x_sld C hX hbl hba dL_law_540 (x_al_n C dL_law_541 rfl (x_cW C CR hst hgy mL_tick co_L_tick init_L md_L_tick (by decide) (by decide) ml_L_99 sm_L_tick dL_law_542 (x_is C dL_law_545 (by decide) (x_al_n C dL_law_547 rfl (x_al_n C dL_law_548 rfl (x_il C dL_law_549 (x_ic C dL_law_551 (by decide) (x_iadd C dL_law_552 (x_sld C hX hbl hba dL_law_553 (x_cV C CR mX8_tick_ ⟨co_X8_tick_, init_X8, md_X8_tick_, by decide, by decide⟩ (ci := 8) (TX := TX8) (N := 51) rfl (by decide) ml_L_102 im_X8_tick_ se_X8_tick_ dL_law_554 (x_is C dL_law_557 (by decide) (x_goto C (hn 844) dL_law_559 (by decide))))))))))))))))))
set_option maxRecDepth 20000 in
theorem oL_law_562 {T : Ct} {sb sL : Nat} {xs : Nat → Int32} (C : Cx T cL_law 7 RL 601024 7293034) (CR : CxR T 10 370) (hst : T.2.1.stackTraces = false) (hgy : gY T.2.2.2.2.2.2.2.2.2.2.2.2 T.2.2.2.2.1) (hX : va_X sb sL xs T.2.2.2.2.1 T.2.2.2.2.1.heap) (hbl : sb < T.2.2.2.2.1.heap.size) (hba : sb < T.2.2.2.2.2.2.2.2.2.2.2.2) (hbb : LwR T sb) {nx : Nat → Kt} (hn : ∀ pc, Sd T 7 (QL T) 601024 7293034 pc (nx pc)) : Sd T 7 (QL T) 601024 7293034 562 (bL_law_562 sb sL xs nx) := x_al_n C dL_law_562 rfl (x_al_n C dL_law_563 rfl (x_il C dL_law_564 (x_ic C dL_law_566 (by decide) (x_iadd C dL_law_567 (x_sld C hX hbl hba dL_law_568 (x_al_n C dL_law_569 rfl (x_il C dL_law_570 (x_ic C dL_law_572 (by decide) (x_iadd C dL_law_573 (x_sld C hX hbl hba dL_law_574 (x_al_n C dL_law_575 rfl (x_il C dL_law_576 (x_ic C dL_law_578 (by decide) (x_iadd C dL_law_579 (x_sld C hX hbl hba dL_law_580 (x_al_n C dL_law_581 rfl (x_il C dL_law_582 (x_ic C dL_law_584 (by decide) (x_iadd C dL_law_585 (x_sld C hX hbl hba dL_law_586 (x_al_n C dL_law_587 rfl (x_cW C CR hst hgy mL_give co_L_give init_L md_L_give (by decide) (by decide) ml_L_103 sm_L_give dL_law_588 (x_is C dL_law_591 (by decide) (x_al_n C dL_law_593 rfl (x_al_n C dL_law_594 rfl (x_il C dL_law_595 (x_ic C dL_law_597 (by decide) (x_iadd C dL_law_598 (x_sld C hX hbl hba dL_law_599 (x_al_n C dL_law_600 rfl (x_il C dL_law_601 (x_ic C dL_law_603 (by decide) (x_iadd C dL_law_604 (x_sld C hX hbl hba dL_law_605 (x_al_n C dL_law_606 rfl (x_il C dL_law_607 (x_ic C dL_law_609 (by decide) (x_iadd C dL_law_610 (x_sld C hX hbl hba dL_law_611 (x_al_n C dL_law_612 rfl (x_il C dL_law_613 (x_ic C dL_law_615 (by decide) (x_iadd C dL_law_616 (x_sld C hX hbl hba dL_law_617 (hn 618)))))))))))))))))))))))))))))))))))))))))))))
set_option maxRecDepth 20000 in
theorem oL_law_618 {T : Ct} {sb sL : Nat} {xs : Nat → Int32} (C : Cx T cL_law 7 RL 601024 7293034) (CR : CxR T 10 370) (hst : T.2.1.stackTraces = false) (hgy : gY T.2.2.2.2.2.2.2.2.2.2.2.2 T.2.2.2.2.1) (hX : va_X sb sL xs T.2.2.2.2.1 T.2.2.2.2.1.heap) (hbl : sb < T.2.2.2.2.1.heap.size) (hba : sb < T.2.2.2.2.2.2.2.2.2.2.2.2) (hbb : LwR T sb) {nx : Nat → Kt} (hn : ∀ pc, Sd T 7 (QL T) 601024 7293034 pc (nx pc)) : Sd T 7 (QL T) 601024 7293034 618 (bL_law_618 sb sL xs nx) := x_cV C CR mX8_give ⟨co_X8_give, init_X8, md_X8_give, by decide, by decide⟩ (ci := 8) (TX := TX8) (N := 51) rfl (by decide) ml_L_106 im_X8_give se_X8_give dL_law_618 (x_is C dL_law_621 (by decide) (x_goto C (hn 844) dL_law_623 (by decide)))
set_option maxRecDepth 20000 in
theorem oL_law_626 {T : Ct} {sb sL : Nat} {xs : Nat → Int32} (C : Cx T cL_law 7 RL 601024 7293034) (CR : CxR T 10 370) (hst : T.2.1.stackTraces = false) (hgy : gY T.2.2.2.2.2.2.2.2.2.2.2.2 T.2.2.2.2.1) (hX : va_X sb sL xs T.2.2.2.2.1 T.2.2.2.2.1.heap) (hbl : sb < T.2.2.2.2.1.heap.size) (hba : sb < T.2.2.2.2.2.2.2.2.2.2.2.2) (hbb : LwR T sb) {nx : Nat → Kt} (hn : ∀ pc, Sd T 7 (QL T) 601024 7293034 pc (nx pc)) : Sd T 7 (QL T) 601024 7293034 626 (bL_law_626 sb sL xs nx) := x_al_n C dL_law_626 rfl (x_al_n C dL_law_627 rfl (x_il C dL_law_628 (x_ic C dL_law_630 (by decide) (x_iadd C dL_law_631 (x_sld C hX hbl hba dL_law_632 (x_al_n C dL_law_633 rfl (x_il C dL_law_634 (x_ic C dL_law_636 (by decide) (x_iadd C dL_law_637 (x_sld C hX hbl hba dL_law_638 (x_al_n C dL_law_639 rfl (x_il C dL_law_640 (x_ic C dL_law_642 (by decide) (x_iadd C dL_law_643 (x_sld C hX hbl hba dL_law_644 (x_al_n C dL_law_645 rfl (x_cW C CR hst hgy mL_came co_L_came init_L md_L_came (by decide) (by decide) ml_L_107 sm_L_came dL_law_646 (x_is C dL_law_649 (by decide) (x_al_n C dL_law_651 rfl (x_al_n C dL_law_652 rfl (x_il C dL_law_653 (x_ic C dL_law_655 (by decide) (x_iadd C dL_law_656 (x_sld C hX hbl hba dL_law_657 (x_al_n C dL_law_658 rfl (x_il C dL_law_659 (x_ic C dL_law_661 (by decide) (x_iadd C dL_law_662 (x_sld C hX hbl hba dL_law_663 (x_al_n C dL_law_664 rfl (x_il C dL_law_665 (x_ic C dL_law_667 (by decide) (x_iadd C dL_law_668 (x_sld C hX hbl hba dL_law_669 (x_cV C CR mX8_came ⟨co_X8_came, init_X8, md_X8_came, by decide, by decide⟩ (ci := 8) (TX := TX8) (N := 51) rfl (by decide) ml_L_110 im_X8_came se_X8_came dL_law_670 (x_is C dL_law_673 (by decide) (x_goto C (hn 844) dL_law_675 (by decide))))))))))))))))))))))))))))))))))))))
set_option maxRecDepth 20000 in
theorem oL_law_678 {T : Ct} {sb sL : Nat} {xs : Nat → Int32} (C : Cx T cL_law 7 RL 601024 7293034) (CR : CxR T 10 370) (hst : T.2.1.stackTraces = false) (hgy : gY T.2.2.2.2.2.2.2.2.2.2.2.2 T.2.2.2.2.1) (hX : va_X sb sL xs T.2.2.2.2.1 T.2.2.2.2.1.heap) (hbl : sb < T.2.2.2.2.1.heap.size) (hba : sb < T.2.2.2.2.2.2.2.2.2.2.2.2) (hbb : LwR T sb) {nx : Nat → Kt} (hn : ∀ pc, Sd T 7 (QL T) 601024 7293034 pc (nx pc)) : Sd T 7 (QL T) 601024 7293034 678 (bL_law_678 sb sL xs nx) := x_al_n C dL_law_678 rfl (x_al_n C dL_law_679 rfl (x_il C dL_law_680 (x_ic C dL_law_682 (by decide) (x_iadd C dL_law_683 (x_sld C hX hbl hba dL_law_684 (x_al_n C dL_law_685 rfl (x_il C dL_law_686 (x_ic C dL_law_688 (by decide) (x_iadd C dL_law_689 (x_sld C hX hbl hba dL_law_690 (x_al_n C dL_law_691 rfl (x_il C dL_law_692 (x_ic C dL_law_694 (by decide) (x_iadd C dL_law_695 (x_sld C hX hbl hba dL_law_696 (x_al_n C dL_law_697 rfl (x_cW C CR hst hgy mL_look co_L_look init_L md_L_look (by decide) (by decide) ml_L_111 sm_L_look dL_law_698 (x_is C dL_law_701 (by decide) (x_al_n C dL_law_703 rfl (x_al_n C dL_law_704 rfl (x_il C dL_law_705 (x_ic C dL_law_707 (by decide) (x_iadd C dL_law_708 (x_sld C hX hbl hba dL_law_709 (x_al_n C dL_law_710 rfl (x_il C dL_law_711 (x_ic C dL_law_713 (by decide) (x_iadd C dL_law_714 (x_sld C hX hbl hba dL_law_715 (x_al_n C dL_law_716 rfl (x_il C dL_law_717 (x_ic C dL_law_719 (by decide) (x_iadd C dL_law_720 (x_sld C hX hbl hba dL_law_721 (x_cV C CR mX8_look ⟨co_X8_look, init_X8, md_X8_look, by decide, by decide⟩ (ci := 8) (TX := TX8) (N := 51) rfl (by decide) ml_L_113 im_X8_look se_X8_look dL_law_722 (x_is C dL_law_725 (by decide) (x_goto C (hn 844) dL_law_727 (by decide))))))))))))))))))))))))))))))))))))))
set_option maxRecDepth 20000 in
theorem oL_law_730 {T : Ct} {sb sL : Nat} {xs : Nat → Int32} (C : Cx T cL_law 7 RL 601024 7293034) (CR : CxR T 10 370) (hst : T.2.1.stackTraces = false) (hgy : gY T.2.2.2.2.2.2.2.2.2.2.2.2 T.2.2.2.2.1) (hX : va_X sb sL xs T.2.2.2.2.1 T.2.2.2.2.1.heap) (hbl : sb < T.2.2.2.2.1.heap.size) (hba : sb < T.2.2.2.2.2.2.2.2.2.2.2.2) (hbb : LwR T sb) {nx : Nat → Kt} (hn : ∀ pc, Sd T 7 (QL T) 601024 7293034 pc (nx pc)) : Sd T 7 (QL T) 601024 7293034 730 (bL_law_730 sb sL xs nx) := x_al_n C dL_law_730 rfl (x_al_n C dL_law_731 rfl (x_il C dL_law_732 (x_ic C dL_law_734 (by decide) (x_iadd C dL_law_735 (x_sld C hX hbl hba dL_law_736 (x_al_n C dL_law_737 rfl (x_il C dL_law_738 (x_ic C dL_law_740 (by decide) (x_iadd C dL_law_741 (x_sld C hX hbl hba dL_law_742 (x_al_n C dL_law_743 rfl (x_cW C CR hst hgy mL_cable co_L_cable init_L md_L_cable (by decide) (by decide) ml_L_114 sm_L_cable dL_law_744 (x_is C dL_law_747 (by decide) (x_al_n C dL_law_749 rfl (x_al_n C dL_law_750 rfl (x_il C dL_law_751 (x_ic C dL_law_753 (by decide) (x_iadd C dL_law_754 (x_sld C hX hbl hba dL_law_755 (x_al_n C dL_law_756 rfl (x_il C dL_law_757 (x_ic C dL_law_759 (by decide) (x_iadd C dL_law_760 (x_sld C hX hbl hba dL_law_761 (x_cV C CR mX8_cable ⟨co_X8_cable, init_X8, md_X8_cable, by decide, by decide⟩ (ci := 8) (TX := TX8) (N := 51) rfl (by decide) ml_L_116 im_X8_cable se_X8_cable dL_law_762 (x_is C dL_law_765 (by decide) (x_goto C (hn 844) dL_law_767 (by decide))))))))))))))))))))))))))))
set_option maxRecDepth 20000 in
theorem oL_law_770 {T : Ct} {sb sL : Nat} {xs : Nat → Int32} (C : Cx T cL_law 7 RL 601024 7293034) (CR : CxR T 10 370) (hst : T.2.1.stackTraces = false) (hgy : gY T.2.2.2.2.2.2.2.2.2.2.2.2 T.2.2.2.2.1) (hX : va_X sb sL xs T.2.2.2.2.1 T.2.2.2.2.1.heap) (hbl : sb < T.2.2.2.2.1.heap.size) (hba : sb < T.2.2.2.2.2.2.2.2.2.2.2.2) (hbb : LwR T sb) {nx : Nat → Kt} (hn : ∀ pc, Sd T 7 (QL T) 601024 7293034 pc (nx pc)) : Sd T 7 (QL T) 601024 7293034 770 (bL_law_770 sb sL xs nx) := x_al_n C dL_law_770 rfl (x_al_n C dL_law_771 rfl (x_il C dL_law_772 (x_ic C dL_law_774 (by decide) (x_iadd C dL_law_775 (x_sld C hX hbl hba dL_law_776 (x_al_n C dL_law_777 rfl (x_il C dL_law_778 (x_ic C dL_law_780 (by decide) (x_iadd C dL_law_781 (x_sld C hX hbl hba dL_law_782 (x_al_n C dL_law_783 rfl (x_il C dL_law_784 (x_ic C dL_law_786 (by decide) (x_iadd C dL_law_787 (x_sld C hX hbl hba dL_law_788 (x_cV C CR mX7_note ⟨co_X7_note, init_X7, md_X7_note, by decide, by decide⟩ (ci := 7) (TX := TX7) (N := 9) rfl (by decide) ml_L_117 im_X7_note se_X7_note dL_law_789 (x_pop C dL_law_792 (x_al_n C dL_law_793 rfl (x_al_n C dL_law_794 rfl (x_il C dL_law_795 (x_ic C dL_law_797 (by decide) (x_iadd C dL_law_798 (x_sld C hX hbl hba dL_law_799 (x_al_n C dL_law_800 rfl (x_il C dL_law_801 (x_ic C dL_law_803 (by decide) (x_iadd C dL_law_804 (x_sld C hX hbl hba dL_law_805 (x_al_n C dL_law_806 rfl (x_il C dL_law_807 (x_ic C dL_law_809 (by decide) (x_iadd C dL_law_810 (x_sld C hX hbl hba dL_law_811 (x_cV C CR mX8_note ⟨co_X8_note, init_X8, md_X8_note, by decide, by decide⟩ (ci := 8) (TX := TX8) (N := 51) rfl (by decide) ml_L_120 im_X8_note se_X8_note dL_law_812 (x_pop C dL_law_815 (x_goto C (hn 844) dL_law_816 (by decide)))))))))))))))))))))))))))))))))))))
set_option maxRecDepth 20000 in
theorem oL_law_819 {T : Ct} {sb sL : Nat} {xs : Nat → Int32} (C : Cx T cL_law 7 RL 601024 7293034) (CR : CxR T 10 370) (hst : T.2.1.stackTraces = false) (hgy : gY T.2.2.2.2.2.2.2.2.2.2.2.2 T.2.2.2.2.1) (hX : va_X sb sL xs T.2.2.2.2.1 T.2.2.2.2.1.heap) (hbl : sb < T.2.2.2.2.1.heap.size) (hba : sb < T.2.2.2.2.2.2.2.2.2.2.2.2) (hbb : LwR T sb) {nx : Nat → Kt} (hn : ∀ pc, Sd T 7 (QL T) 601024 7293034 pc (nx pc)) : Sd T 7 (QL T) 601024 7293034 819 (bL_law_819 sb sL xs nx) := x_al_n C dL_law_819 rfl (x_al_n C dL_law_820 rfl (x_il C dL_law_821 (x_ic C dL_law_823 (by decide) (x_iadd C dL_law_824 (x_sld C hX hbl hba dL_law_825 (x_cV C CR mX7_count ⟨co_X7_count, init_X7, md_X7_count, by decide, by decide⟩ (ci := 7) (TX := TX7) (N := 9) rfl (by decide) ml_L_121 im_X7_count se_X7_count dL_law_826 (x_al_n C dL_law_829 rfl (x_al_n C dL_law_830 rfl (x_il C dL_law_831 (x_ic C dL_law_833 (by decide) (x_iadd C dL_law_834 (x_sld C hX hbl hba dL_law_835 (x_cV C CR mX8_count ⟨co_X8_count, init_X8, md_X8_count, by decide, by decide⟩ (ci := 8) (TX := TX8) (N := 51) rfl (by decide) ml_L_124 im_X8_count se_X8_count dL_law_836 (x_ic_eq C (hn 844) dL_law_839 (by decide) (x_ic C dL_law_842 (by decide) (x_rL C hbb dL_law_843))))))))))))))))
set_option maxRecDepth 20000 in
theorem oL_law_844 {T : Ct} {sb sL : Nat} {xs : Nat → Int32} (C : Cx T cL_law 7 RL 601024 7293034) (CR : CxR T 10 370) (hst : T.2.1.stackTraces = false) (hgy : gY T.2.2.2.2.2.2.2.2.2.2.2.2 T.2.2.2.2.1) (hX : va_X sb sL xs T.2.2.2.2.1 T.2.2.2.2.1.heap) (hbl : sb < T.2.2.2.2.1.heap.size) (hba : sb < T.2.2.2.2.2.2.2.2.2.2.2.2) (hbb : LwR T sb) {nx : Nat → Kt} (hn : ∀ pc, Sd T 7 (QL T) 601024 7293034 pc (nx pc)) : Sd T 7 (QL T) 601024 7293034 844 (bL_law_844 sb sL xs nx) := x_inc C dL_law_844 (by decide) (by decide) (x_goto C (hn 23) dL_law_847 (by decide))
set_option maxRecDepth 20000 in
theorem oL_law_850 {T : Ct} {sb sL : Nat} {xs : Nat → Int32} (C : Cx T cL_law 7 RL 601024 7293034) (CR : CxR T 10 370) (hst : T.2.1.stackTraces = false) (hgy : gY T.2.2.2.2.2.2.2.2.2.2.2.2 T.2.2.2.2.1) (hX : va_X sb sL xs T.2.2.2.2.1 T.2.2.2.2.1.heap) (hbl : sb < T.2.2.2.2.1.heap.size) (hba : sb < T.2.2.2.2.2.2.2.2.2.2.2.2) (hbb : LwR T sb) {nx : Nat → Kt} (hn : ∀ pc, Sd T 7 (QL T) 601024 7293034 pc (nx pc)) : Sd T 7 (QL T) 601024 7293034 850 (bL_law_850 sb sL xs nx) := x_ic C dL_law_850 (by decide) (x_rL C hbb dL_law_851)
set_option maxRecDepth 20000 in
theorem mL_law {T : Ct} {sb sL : Nat} {xs : Nat → Int32} (C : Cx T cL_law 7 RL 601024 7293034) (CR : CxR T 10 370) (hst : T.2.1.stackTraces = false) (hgy : gY T.2.2.2.2.2.2.2.2.2.2.2.2 T.2.2.2.2.1) (hX : va_X sb sL xs T.2.2.2.2.1 T.2.2.2.2.1.heap) (hbl : sb < T.2.2.2.2.1.heap.size) (hba : sb < T.2.2.2.2.2.2.2.2.2.2.2.2) (hbb : LwR T sb) {nx : Nat → Kt} (hn : ∀ pc, Sd T 7 (QL T) 601024 7293034 pc (nx pc)) : ∀ pc, Sd T 7 (QL T) 601024 7293034 pc (kL_law sb sL xs nx pc) := bse_ok _ (List.forall_mem_cons.mpr ⟨oL_law_0 C CR hst hgy hX hbl hba hbb hn, List.forall_mem_cons.mpr ⟨oL_law_23 C CR hst hgy hX hbl hba hbb hn, List.forall_mem_cons.mpr ⟨oL_law_112 C CR hst hgy hX hbl hba hbb hn, List.forall_mem_cons.mpr ⟨oL_law_152 C CR hst hgy hX hbl hba hbb hn, List.forall_mem_cons.mpr ⟨oL_law_192 C CR hst hgy hX hbl hba hbb hn, List.forall_mem_cons.mpr ⟨oL_law_250 C CR hst hgy hX hbl hba hbb hn, List.forall_mem_cons.mpr ⟨oL_law_253 C CR hst hgy hX hbl hba hbb hn, List.forall_mem_cons.mpr ⟨oL_law_279 C CR hst hgy hX hbl hba hbb hn, List.forall_mem_cons.mpr ⟨oL_law_280 C CR hst hgy hX hbl hba hbb hn, List.forall_mem_cons.mpr ⟨oL_law_293 C CR hst hgy hX hbl hba hbb hn, List.forall_mem_cons.mpr ⟨oL_law_294 C CR hst hgy hX hbl hba hbb hn, List.forall_mem_cons.mpr ⟨oL_law_325 C CR hst hgy hX hbl hba hbb hn, List.forall_mem_cons.mpr ⟨oL_law_326 C CR hst hgy hX hbl hba hbb hn, List.forall_mem_cons.mpr ⟨oL_law_339 C CR hst hgy hX hbl hba hbb hn, List.forall_mem_cons.mpr ⟨oL_law_340 C CR hst hgy hX hbl hba hbb hn, List.forall_mem_cons.mpr ⟨oL_law_346 C CR hst hgy hX hbl hba hbb hn, List.forall_mem_cons.mpr ⟨oL_law_404 C CR hst hgy hX hbl hba hbb hn, List.forall_mem_cons.mpr ⟨oL_law_407 C CR hst hgy hX hbl hba hbb hn, List.forall_mem_cons.mpr ⟨oL_law_432 C CR hst hgy hX hbl hba hbb hn, List.forall_mem_cons.mpr ⟨oL_law_452 C CR hst hgy hX hbl hba hbb hn, List.forall_mem_cons.mpr ⟨oL_law_453 C CR hst hgy hX hbl hba hbb hn, List.forall_mem_cons.mpr ⟨oL_law_478 C CR hst hgy hX hbl hba hbb hn, List.forall_mem_cons.mpr ⟨oL_law_479 C CR hst hgy hX hbl hba hbb hn, List.forall_mem_cons.mpr ⟨oL_law_485 C CR hst hgy hX hbl hba hbb hn, List.forall_mem_cons.mpr ⟨oL_law_534 C CR hst hgy hX hbl hba hbb hn, List.forall_mem_cons.mpr ⟨oL_law_562 C CR hst hgy hX hbl hba hbb hn, List.forall_mem_cons.mpr ⟨oL_law_618 C CR hst hgy hX hbl hba hbb hn, List.forall_mem_cons.mpr ⟨oL_law_626 C CR hst hgy hX hbl hba hbb hn, List.forall_mem_cons.mpr ⟨oL_law_678 C CR hst hgy hX hbl hba hbb hn, List.forall_mem_cons.mpr ⟨oL_law_730 C CR hst hgy hX hbl hba hbb hn, List.forall_mem_cons.mpr ⟨oL_law_770 C CR hst hgy hX hbl hba hbb hn, List.forall_mem_cons.mpr ⟨oL_law_819 C CR hst hgy hX hbl hba hbb hn, List.forall_mem_cons.mpr ⟨oL_law_844 C CR hst hgy hX hbl hba hbb hn, List.forall_mem_cons.mpr ⟨oL_law_850 C CR hst hgy hX hbl hba hbb hn, fun _ h => nomatch h⟩⟩⟩⟩⟩⟩⟩⟩⟩⟩⟩⟩⟩⟩⟩⟩⟩⟩⟩⟩⟩⟩⟩⟩⟩⟩⟩⟩⟩⟩⟩⟩⟩⟩)
