theorem dG_law_0 : decode code 0 = .ok (.new 8, 3) := by decide +kernel
theorem dG_law_3 : decode code 3 = .ok (.dup, 1) := by decide +kernel
theorem dG_law_4 : decode code 4 = .ok (.invokespecial 61, 3) := by decide +kernel
theorem dG_law_7 : decode code 7 = .ok (.astore_n 1, 1) := by decide +kernel
theorem dG_law_8 : decode code 8 = .ok (.new 62, 3) := by decide +kernel
theorem dG_law_11 : decode code 11 = .ok (.dup, 1) := by decide +kernel
theorem dG_law_12 : decode code 12 = .ok (.invokespecial 64, 3) := by decide +kernel
theorem dG_law_15 : decode code 15 = .ok (.astore_n 2, 1) := by decide +kernel
theorem dG_law_16 : decode code 16 = .ok (.iconst 1, 1) := by decide +kernel
theorem dG_law_17 : decode code 17 = .ok (.newarray .long, 2) := by decide +kernel
theorem dG_law_19 : decode code 19 = .ok (.astore_n 3, 1) := by decide +kernel
theorem dG_law_20 : decode code 20 = .ok (.iconst 0, 1) := by decide +kernel
theorem dG_law_21 : decode code 21 = .ok (.istore 4, 2) := by decide +kernel
theorem dG_law_23 : decode code 23 = .ok (.iload 4, 2) := by decide +kernel
theorem dG_law_25 : decode code 25 = .ok (.aload_n 0, 1) := by decide +kernel
theorem dG_law_26 : decode code 26 = .ok (.arraylength, 1) := by decide +kernel
theorem dG_law_27 : decode code 27 = .ok (.iconst 5, 1) := by decide +kernel
theorem dG_law_28 : decode code 28 = .ok (.isub, 1) := by decide +kernel
theorem dG_law_29 : decode code 29 = .ok (.if_icmp .gt 928, 3) := by decide +kernel
theorem dG_law_32 : decode code 32 = .ok (.aload_n 0, 1) := by decide +kernel
theorem dG_law_33 : decode code 33 = .ok (.iload 4, 2) := by decide +kernel
theorem dG_law_35 : decode code 35 = .ok (.iaload, 1) := by decide +kernel
theorem dG_law_36 : decode code 36 = .ok (.bipush 15, 2) := by decide +kernel
theorem dG_law_38 : decode code 38 = .ok (.iand, 1) := by decide +kernel
theorem dG_law_116 : decode code 116 = .ok (.aload_n 1, 1) := by decide +kernel
theorem dG_law_117 : decode code 117 = .ok (.aload_n 0, 1) := by decide +kernel
theorem dG_law_118 : decode code 118 = .ok (.iload 4, 2) := by decide +kernel
theorem dG_law_120 : decode code 120 = .ok (.iconst 1, 1) := by decide +kernel
theorem dG_law_121 : decode code 121 = .ok (.iadd, 1) := by decide +kernel
theorem dG_law_122 : decode code 122 = .ok (.iaload, 1) := by decide +kernel
theorem dG_law_123 : decode code 123 = .ok (.aload_n 0, 1) := by decide +kernel
theorem dG_law_124 : decode code 124 = .ok (.iload 4, 2) := by decide +kernel
theorem dG_law_126 : decode code 126 = .ok (.iconst 2, 1) := by decide +kernel
theorem dG_law_127 : decode code 127 = .ok (.iadd, 1) := by decide +kernel
theorem dG_law_128 : decode code 128 = .ok (.iaload, 1) := by decide +kernel
theorem dG_law_129 : decode code 129 = .ok (.aload_n 0, 1) := by decide +kernel
theorem dG_law_130 : decode code 130 = .ok (.iload 4, 2) := by decide +kernel
theorem dG_law_132 : decode code 132 = .ok (.iconst 3, 1) := by decide +kernel
theorem dG_law_133 : decode code 133 = .ok (.iadd, 1) := by decide +kernel
theorem dG_law_134 : decode code 134 = .ok (.iaload, 1) := by decide +kernel
theorem dG_law_135 : decode code 135 = .ok (.invokestatic 65, 3) := by decide +kernel
theorem dG_law_138 : decode code 138 = .ok (.istore 5, 2) := by decide +kernel
theorem dG_law_140 : decode code 140 = .ok (.aload_n 2, 1) := by decide +kernel
theorem dG_law_141 : decode code 141 = .ok (.aload_n 0, 1) := by decide +kernel
theorem dG_law_142 : decode code 142 = .ok (.iload 4, 2) := by decide +kernel
theorem dG_law_144 : decode code 144 = .ok (.iconst 1, 1) := by decide +kernel
theorem dG_law_145 : decode code 145 = .ok (.iadd, 1) := by decide +kernel
theorem dG_law_146 : decode code 146 = .ok (.iaload, 1) := by decide +kernel
theorem dG_law_147 : decode code 147 = .ok (.aload_n 0, 1) := by decide +kernel
theorem dG_law_148 : decode code 148 = .ok (.iload 4, 2) := by decide +kernel
theorem dG_law_150 : decode code 150 = .ok (.iconst 2, 1) := by decide +kernel
theorem dG_law_151 : decode code 151 = .ok (.iadd, 1) := by decide +kernel
theorem dG_law_152 : decode code 152 = .ok (.iaload, 1) := by decide +kernel
theorem dG_law_153 : decode code 153 = .ok (.aload_n 0, 1) := by decide +kernel
theorem dG_law_154 : decode code 154 = .ok (.iload 4, 2) := by decide +kernel
theorem dG_law_156 : decode code 156 = .ok (.iconst 3, 1) := by decide +kernel
theorem dG_law_157 : decode code 157 = .ok (.iadd, 1) := by decide +kernel
theorem dG_law_158 : decode code 158 = .ok (.iaload, 1) := by decide +kernel
theorem dG_law_159 : decode code 159 = .ok (.invokevirtual 70, 3) := by decide +kernel
theorem dG_law_162 : decode code 162 = .ok (.aload_n 2, 1) := by decide +kernel
theorem dG_law_163 : decode code 163 = .ok (.invokevirtual 71, 3) := by decide +kernel
theorem dG_law_166 : decode code 166 = .ok (.iload 5, 2) := by decide +kernel
theorem dG_law_168 : decode code 168 = .ok (.if_icmp .eq 5, 3) := by decide +kernel
theorem dG_law_171 : decode code 171 = .ok (.iconst 0, 1) := by decide +kernel
theorem dG_law_172 : decode code 172 = .ok (.ireturn, 1) := by decide +kernel
theorem dG_law_173 : decode code 173 = .ok (.goto 778, 3) := by decide +kernel
theorem dG_law_176 : decode code 176 = .ok (.aload_n 1, 1) := by decide +kernel
theorem dG_law_177 : decode code 177 = .ok (.aload_n 0, 1) := by decide +kernel
theorem dG_law_178 : decode code 178 = .ok (.iload 4, 2) := by decide +kernel
theorem dG_law_180 : decode code 180 = .ok (.iconst 1, 1) := by decide +kernel
theorem dG_law_181 : decode code 181 = .ok (.iadd, 1) := by decide +kernel
theorem dG_law_182 : decode code 182 = .ok (.iaload, 1) := by decide +kernel
theorem dG_law_183 : decode code 183 = .ok (.aload_n 0, 1) := by decide +kernel
theorem dG_law_184 : decode code 184 = .ok (.iload 4, 2) := by decide +kernel
theorem dG_law_186 : decode code 186 = .ok (.iconst 2, 1) := by decide +kernel
theorem dG_law_187 : decode code 187 = .ok (.iadd, 1) := by decide +kernel
theorem dG_law_188 : decode code 188 = .ok (.iaload, 1) := by decide +kernel
theorem dG_law_189 : decode code 189 = .ok (.aload_n 0, 1) := by decide +kernel
theorem dG_law_190 : decode code 190 = .ok (.iload 4, 2) := by decide +kernel
theorem dG_law_192 : decode code 192 = .ok (.iconst 3, 1) := by decide +kernel
theorem dG_law_193 : decode code 193 = .ok (.iadd, 1) := by decide +kernel
theorem dG_law_194 : decode code 194 = .ok (.iaload, 1) := by decide +kernel
theorem dG_law_195 : decode code 195 = .ok (.aload_n 0, 1) := by decide +kernel
theorem dG_law_196 : decode code 196 = .ok (.iload 4, 2) := by decide +kernel
theorem dG_law_198 : decode code 198 = .ok (.iconst 4, 1) := by decide +kernel
theorem dG_law_199 : decode code 199 = .ok (.iadd, 1) := by decide +kernel
theorem dG_law_200 : decode code 200 = .ok (.iaload, 1) := by decide +kernel
theorem dG_law_201 : decode code 201 = .ok (.ifCond .eq 7, 3) := by decide +kernel
theorem dG_law_204 : decode code 204 = .ok (.iconst 1, 1) := by decide +kernel
theorem dG_law_205 : decode code 205 = .ok (.goto 4, 3) := by decide +kernel
theorem dG_law_208 : decode code 208 = .ok (.iconst 0, 1) := by decide +kernel
theorem dG_law_209 : decode code 209 = .ok (.invokestatic 75, 3) := by decide +kernel
theorem dG_law_212 : decode code 212 = .ok (.istore 5, 2) := by decide +kernel
theorem dG_law_214 : decode code 214 = .ok (.aload_n 2, 1) := by decide +kernel
theorem dG_law_215 : decode code 215 = .ok (.aload_n 0, 1) := by decide +kernel
theorem dG_law_216 : decode code 216 = .ok (.iload 4, 2) := by decide +kernel
theorem dG_law_218 : decode code 218 = .ok (.iconst 1, 1) := by decide +kernel
theorem dG_law_219 : decode code 219 = .ok (.iadd, 1) := by decide +kernel
theorem dG_law_220 : decode code 220 = .ok (.iaload, 1) := by decide +kernel
theorem dG_law_221 : decode code 221 = .ok (.aload_n 0, 1) := by decide +kernel
theorem dG_law_222 : decode code 222 = .ok (.iload 4, 2) := by decide +kernel
theorem dG_law_224 : decode code 224 = .ok (.iconst 2, 1) := by decide +kernel
theorem dG_law_225 : decode code 225 = .ok (.iadd, 1) := by decide +kernel
theorem dG_law_226 : decode code 226 = .ok (.iaload, 1) := by decide +kernel
theorem dG_law_227 : decode code 227 = .ok (.aload_n 0, 1) := by decide +kernel
theorem dG_law_228 : decode code 228 = .ok (.iload 4, 2) := by decide +kernel
theorem dG_law_230 : decode code 230 = .ok (.iconst 3, 1) := by decide +kernel
theorem dG_law_231 : decode code 231 = .ok (.iadd, 1) := by decide +kernel
theorem dG_law_232 : decode code 232 = .ok (.iaload, 1) := by decide +kernel
theorem dG_law_233 : decode code 233 = .ok (.aload_n 0, 1) := by decide +kernel
theorem dG_law_234 : decode code 234 = .ok (.iload 4, 2) := by decide +kernel
theorem dG_law_236 : decode code 236 = .ok (.iconst 4, 1) := by decide +kernel
theorem dG_law_237 : decode code 237 = .ok (.iadd, 1) := by decide +kernel
theorem dG_law_238 : decode code 238 = .ok (.iaload, 1) := by decide +kernel
theorem dG_law_239 : decode code 239 = .ok (.ifCond .eq 7, 3) := by decide +kernel
theorem dG_law_242 : decode code 242 = .ok (.iconst 1, 1) := by decide +kernel
theorem dG_law_243 : decode code 243 = .ok (.goto 4, 3) := by decide +kernel
theorem dG_law_246 : decode code 246 = .ok (.iconst 0, 1) := by decide +kernel
theorem dG_law_247 : decode code 247 = .ok (.invokevirtual 78, 3) := by decide +kernel
theorem dG_law_250 : decode code 250 = .ok (.aload_n 2, 1) := by decide +kernel
theorem dG_law_251 : decode code 251 = .ok (.invokevirtual 71, 3) := by decide +kernel
theorem dG_law_254 : decode code 254 = .ok (.iload 5, 2) := by decide +kernel
theorem dG_law_256 : decode code 256 = .ok (.if_icmp .eq 5, 3) := by decide +kernel
theorem dG_law_259 : decode code 259 = .ok (.iconst 0, 1) := by decide +kernel
theorem dG_law_260 : decode code 260 = .ok (.ireturn, 1) := by decide +kernel
theorem dG_law_261 : decode code 261 = .ok (.goto 690, 3) := by decide +kernel
theorem dG_law_264 : decode code 264 = .ok (.aload_n 1, 1) := by decide +kernel
theorem dG_law_265 : decode code 265 = .ok (.aload_n 0, 1) := by decide +kernel
theorem dG_law_266 : decode code 266 = .ok (.iload 4, 2) := by decide +kernel
theorem dG_law_268 : decode code 268 = .ok (.iconst 1, 1) := by decide +kernel
theorem dG_law_269 : decode code 269 = .ok (.iadd, 1) := by decide +kernel
theorem dG_law_270 : decode code 270 = .ok (.iaload, 1) := by decide +kernel
theorem dG_law_271 : decode code 271 = .ok (.aload_n 3, 1) := by decide +kernel
theorem dG_law_272 : decode code 272 = .ok (.invokestatic 79, 3) := by decide +kernel
theorem dG_law_275 : decode code 275 = .ok (.istore 5, 2) := by decide +kernel
theorem dG_law_277 : decode code 277 = .ok (.aload_n 2, 1) := by decide +kernel
theorem dG_law_278 : decode code 278 = .ok (.aload_n 0, 1) := by decide +kernel
theorem dG_law_279 : decode code 279 = .ok (.iload 4, 2) := by decide +kernel
theorem dG_law_281 : decode code 281 = .ok (.iconst 1, 1) := by decide +kernel
theorem dG_law_282 : decode code 282 = .ok (.iadd, 1) := by decide +kernel
theorem dG_law_283 : decode code 283 = .ok (.iaload, 1) := by decide +kernel
theorem dG_law_284 : decode code 284 = .ok (.invokevirtual 82, 3) := by decide +kernel
theorem dG_law_287 : decode code 287 = .ok (.istore 6, 2) := by decide +kernel
theorem dG_law_289 : decode code 289 = .ok (.aload_n 2, 1) := by decide +kernel
theorem dG_law_290 : decode code 290 = .ok (.invokevirtual 71, 3) := by decide +kernel
theorem dG_law_293 : decode code 293 = .ok (.iload 5, 2) := by decide +kernel
theorem dG_law_295 : decode code 295 = .ok (.if_icmp .eq 5, 3) := by decide +kernel
theorem dG_law_298 : decode code 298 = .ok (.iconst 0, 1) := by decide +kernel
theorem dG_law_299 : decode code 299 = .ok (.ireturn, 1) := by decide +kernel
theorem dG_law_300 : decode code 300 = .ok (.iload 5, 2) := by decide +kernel
theorem dG_law_302 : decode code 302 = .ok (.ifCond .ne 15, 3) := by decide +kernel
theorem dG_law_305 : decode code 305 = .ok (.aload_n 3, 1) := by decide +kernel
theorem dG_law_306 : decode code 306 = .ok (.iconst 0, 1) := by decide +kernel
theorem dG_law_307 : decode code 307 = .ok (.laload, 1) := by decide +kernel
theorem dG_law_308 : decode code 308 = .ok (.iload 6, 2) := by decide +kernel
theorem dG_law_310 : decode code 310 = .ok (.i2l, 1) := by decide +kernel
theorem dG_law_311 : decode code 311 = .ok (.lcmp, 1) := by decide +kernel
theorem dG_law_312 : decode code 312 = .ok (.ifCond .eq 5, 3) := by decide +kernel
theorem dG_law_315 : decode code 315 = .ok (.iconst 0, 1) := by decide +kernel
theorem dG_law_316 : decode code 316 = .ok (.ireturn, 1) := by decide +kernel
theorem dG_law_317 : decode code 317 = .ok (.goto 634, 3) := by decide +kernel
theorem dG_law_320 : decode code 320 = .ok (.aload_n 1, 1) := by decide +kernel
theorem dG_law_321 : decode code 321 = .ok (.invokevirtual 83, 3) := by decide +kernel
theorem dG_law_324 : decode code 324 = .ok (.aload_n 2, 1) := by decide +kernel
theorem dG_law_325 : decode code 325 = .ok (.invokevirtual 86, 3) := by decide +kernel
theorem dG_law_328 : decode code 328 = .ok (.goto 623, 3) := by decide +kernel
theorem dG_law_331 : decode code 331 = .ok (.aload_n 1, 1) := by decide +kernel
theorem dG_law_332 : decode code 332 = .ok (.aload_n 0, 1) := by decide +kernel
theorem dG_law_333 : decode code 333 = .ok (.iload 4, 2) := by decide +kernel
theorem dG_law_335 : decode code 335 = .ok (.iconst 1, 1) := by decide +kernel
theorem dG_law_336 : decode code 336 = .ok (.iadd, 1) := by decide +kernel
theorem dG_law_337 : decode code 337 = .ok (.iaload, 1) := by decide +kernel
theorem dG_law_338 : decode code 338 = .ok (.ifCond .eq 7, 3) := by decide +kernel
theorem dG_law_341 : decode code 341 = .ok (.iconst 1, 1) := by decide +kernel
theorem dG_law_342 : decode code 342 = .ok (.goto 4, 3) := by decide +kernel
theorem dG_law_345 : decode code 345 = .ok (.iconst 0, 1) := by decide +kernel
theorem dG_law_346 : decode code 346 = .ok (.aload_n 3, 1) := by decide +kernel
theorem dG_law_347 : decode code 347 = .ok (.invokestatic 87, 3) := by decide +kernel
theorem dG_law_350 : decode code 350 = .ok (.istore 5, 2) := by decide +kernel
theorem dG_law_352 : decode code 352 = .ok (.aload_n 2, 1) := by decide +kernel
theorem dG_law_353 : decode code 353 = .ok (.aload_n 0, 1) := by decide +kernel
theorem dG_law_354 : decode code 354 = .ok (.iload 4, 2) := by decide +kernel
theorem dG_law_356 : decode code 356 = .ok (.iconst 1, 1) := by decide +kernel
theorem dG_law_357 : decode code 357 = .ok (.iadd, 1) := by decide +kernel
theorem dG_law_358 : decode code 358 = .ok (.iaload, 1) := by decide +kernel
theorem dG_law_359 : decode code 359 = .ok (.ifCond .eq 7, 3) := by decide +kernel
theorem dG_law_362 : decode code 362 = .ok (.iconst 1, 1) := by decide +kernel
theorem dG_law_363 : decode code 363 = .ok (.goto 4, 3) := by decide +kernel
theorem dG_law_366 : decode code 366 = .ok (.iconst 0, 1) := by decide +kernel
theorem dG_law_367 : decode code 367 = .ok (.invokevirtual 90, 3) := by decide +kernel
theorem dG_law_370 : decode code 370 = .ok (.istore 6, 2) := by decide +kernel
theorem dG_law_372 : decode code 372 = .ok (.aload_n 2, 1) := by decide +kernel
theorem dG_law_373 : decode code 373 = .ok (.invokevirtual 71, 3) := by decide +kernel
theorem dG_law_376 : decode code 376 = .ok (.iload 5, 2) := by decide +kernel
theorem dG_law_378 : decode code 378 = .ok (.if_icmp .eq 5, 3) := by decide +kernel
theorem dG_law_381 : decode code 381 = .ok (.iconst 0, 1) := by decide +kernel
theorem dG_law_382 : decode code 382 = .ok (.ireturn, 1) := by decide +kernel
theorem dG_law_383 : decode code 383 = .ok (.iload 5, 2) := by decide +kernel
theorem dG_law_385 : decode code 385 = .ok (.ifCond .ne 15, 3) := by decide +kernel
theorem dG_law_388 : decode code 388 = .ok (.aload_n 3, 1) := by decide +kernel
theorem dG_law_389 : decode code 389 = .ok (.iconst 0, 1) := by decide +kernel
theorem dG_law_390 : decode code 390 = .ok (.laload, 1) := by decide +kernel
theorem dG_law_391 : decode code 391 = .ok (.iload 6, 2) := by decide +kernel
theorem dG_law_393 : decode code 393 = .ok (.i2l, 1) := by decide +kernel
theorem dG_law_394 : decode code 394 = .ok (.lcmp, 1) := by decide +kernel
theorem dG_law_395 : decode code 395 = .ok (.ifCond .eq 5, 3) := by decide +kernel
theorem dG_law_398 : decode code 398 = .ok (.iconst 0, 1) := by decide +kernel
theorem dG_law_399 : decode code 399 = .ok (.ireturn, 1) := by decide +kernel
theorem dG_law_400 : decode code 400 = .ok (.goto 551, 3) := by decide +kernel
theorem dG_law_403 : decode code 403 = .ok (.aload_n 1, 1) := by decide +kernel
theorem dG_law_404 : decode code 404 = .ok (.aload_n 0, 1) := by decide +kernel
theorem dG_law_405 : decode code 405 = .ok (.iload 4, 2) := by decide +kernel
theorem dG_law_407 : decode code 407 = .ok (.iconst 1, 1) := by decide +kernel
theorem dG_law_408 : decode code 408 = .ok (.iadd, 1) := by decide +kernel
theorem dG_law_409 : decode code 409 = .ok (.iaload, 1) := by decide +kernel
theorem dG_law_410 : decode code 410 = .ok (.aload_n 3, 1) := by decide +kernel
theorem dG_law_411 : decode code 411 = .ok (.invokestatic 91, 3) := by decide +kernel
theorem dG_law_414 : decode code 414 = .ok (.istore 5, 2) := by decide +kernel
theorem dG_law_416 : decode code 416 = .ok (.aload_n 2, 1) := by decide +kernel
theorem dG_law_417 : decode code 417 = .ok (.aload_n 0, 1) := by decide +kernel
theorem dG_law_418 : decode code 418 = .ok (.iload 4, 2) := by decide +kernel
theorem dG_law_420 : decode code 420 = .ok (.iconst 1, 1) := by decide +kernel
theorem dG_law_421 : decode code 421 = .ok (.iadd, 1) := by decide +kernel
theorem dG_law_422 : decode code 422 = .ok (.iaload, 1) := by decide +kernel
theorem dG_law_423 : decode code 423 = .ok (.invokevirtual 93, 3) := by decide +kernel
theorem dG_law_426 : decode code 426 = .ok (.istore 6, 2) := by decide +kernel
theorem dG_law_428 : decode code 428 = .ok (.aload_n 2, 1) := by decide +kernel
theorem dG_law_429 : decode code 429 = .ok (.invokevirtual 71, 3) := by decide +kernel
theorem dG_law_432 : decode code 432 = .ok (.iload 5, 2) := by decide +kernel
theorem dG_law_434 : decode code 434 = .ok (.if_icmp .eq 5, 3) := by decide +kernel
theorem dG_law_437 : decode code 437 = .ok (.iconst 0, 1) := by decide +kernel
theorem dG_law_438 : decode code 438 = .ok (.ireturn, 1) := by decide +kernel
theorem dG_law_439 : decode code 439 = .ok (.iload 5, 2) := by decide +kernel
theorem dG_law_441 : decode code 441 = .ok (.ifCond .ne 15, 3) := by decide +kernel
theorem dG_law_444 : decode code 444 = .ok (.aload_n 3, 1) := by decide +kernel
theorem dG_law_445 : decode code 445 = .ok (.iconst 0, 1) := by decide +kernel
theorem dG_law_446 : decode code 446 = .ok (.laload, 1) := by decide +kernel
theorem dG_law_447 : decode code 447 = .ok (.iload 6, 2) := by decide +kernel
theorem dG_law_449 : decode code 449 = .ok (.i2l, 1) := by decide +kernel
theorem dG_law_450 : decode code 450 = .ok (.lcmp, 1) := by decide +kernel
theorem dG_law_451 : decode code 451 = .ok (.ifCond .eq 5, 3) := by decide +kernel
theorem dG_law_454 : decode code 454 = .ok (.iconst 0, 1) := by decide +kernel
theorem dG_law_455 : decode code 455 = .ok (.ireturn, 1) := by decide +kernel
theorem dG_law_456 : decode code 456 = .ok (.goto 495, 3) := by decide +kernel
theorem dG_law_459 : decode code 459 = .ok (.aload_n 1, 1) := by decide +kernel
theorem dG_law_460 : decode code 460 = .ok (.aload_n 0, 1) := by decide +kernel
theorem dG_law_461 : decode code 461 = .ok (.iload 4, 2) := by decide +kernel
theorem dG_law_463 : decode code 463 = .ok (.iconst 1, 1) := by decide +kernel
theorem dG_law_464 : decode code 464 = .ok (.iadd, 1) := by decide +kernel
theorem dG_law_465 : decode code 465 = .ok (.iaload, 1) := by decide +kernel
theorem dG_law_466 : decode code 466 = .ok (.aload_n 3, 1) := by decide +kernel
theorem dG_law_467 : decode code 467 = .ok (.invokestatic 94, 3) := by decide +kernel
theorem dG_law_470 : decode code 470 = .ok (.istore 5, 2) := by decide +kernel
theorem dG_law_472 : decode code 472 = .ok (.aload_n 2, 1) := by decide +kernel
theorem dG_law_473 : decode code 473 = .ok (.aload_n 0, 1) := by decide +kernel
theorem dG_law_474 : decode code 474 = .ok (.iload 4, 2) := by decide +kernel
theorem dG_law_476 : decode code 476 = .ok (.iconst 1, 1) := by decide +kernel
theorem dG_law_477 : decode code 477 = .ok (.iadd, 1) := by decide +kernel
theorem dG_law_478 : decode code 478 = .ok (.iaload, 1) := by decide +kernel
theorem dG_law_479 : decode code 479 = .ok (.invokevirtual 96, 3) := by decide +kernel
theorem dG_law_482 : decode code 482 = .ok (.istore 6, 2) := by decide +kernel
theorem dG_law_484 : decode code 484 = .ok (.aload_n 2, 1) := by decide +kernel
theorem dG_law_485 : decode code 485 = .ok (.invokevirtual 71, 3) := by decide +kernel
theorem dG_law_488 : decode code 488 = .ok (.iload 5, 2) := by decide +kernel
theorem dG_law_490 : decode code 490 = .ok (.if_icmp .eq 5, 3) := by decide +kernel
theorem dG_law_493 : decode code 493 = .ok (.iconst 0, 1) := by decide +kernel
theorem dG_law_494 : decode code 494 = .ok (.ireturn, 1) := by decide +kernel
theorem dG_law_495 : decode code 495 = .ok (.iload 5, 2) := by decide +kernel
theorem dG_law_497 : decode code 497 = .ok (.ifCond .ne 22, 3) := by decide +kernel
theorem dG_law_500 : decode code 500 = .ok (.aload_n 3, 1) := by decide +kernel
theorem dG_law_501 : decode code 501 = .ok (.iconst 0, 1) := by decide +kernel
theorem dG_law_502 : decode code 502 = .ok (.laload, 1) := by decide +kernel
theorem dG_law_503 : decode code 503 = .ok (.iload 6, 2) := by decide +kernel
theorem dG_law_505 : decode code 505 = .ok (.ifCond .eq 7, 3) := by decide +kernel
theorem dG_law_508 : decode code 508 = .ok (.lconst 1, 1) := by decide +kernel
theorem dG_law_509 : decode code 509 = .ok (.goto 4, 3) := by decide +kernel
theorem dG_law_512 : decode code 512 = .ok (.lconst 0, 1) := by decide +kernel
theorem dG_law_513 : decode code 513 = .ok (.lcmp, 1) := by decide +kernel
theorem dG_law_514 : decode code 514 = .ok (.ifCond .eq 5, 3) := by decide +kernel
theorem dG_law_517 : decode code 517 = .ok (.iconst 0, 1) := by decide +kernel
theorem dG_law_518 : decode code 518 = .ok (.ireturn, 1) := by decide +kernel
theorem dG_law_519 : decode code 519 = .ok (.goto 432, 3) := by decide +kernel
theorem dG_law_522 : decode code 522 = .ok (.aload_n 1, 1) := by decide +kernel
theorem dG_law_523 : decode code 523 = .ok (.invokevirtual 97, 3) := by decide +kernel
theorem dG_law_526 : decode code 526 = .ok (.aload_n 2, 1) := by decide +kernel
theorem dG_law_527 : decode code 527 = .ok (.invokevirtual 100, 3) := by decide +kernel
theorem dG_law_530 : decode code 530 = .ok (.if_icmp .eq 421, 3) := by decide +kernel
theorem dG_law_533 : decode code 533 = .ok (.iconst 0, 1) := by decide +kernel
theorem dG_law_534 : decode code 534 = .ok (.ireturn, 1) := by decide +kernel
theorem dG_law_535 : decode code 535 = .ok (.aload_n 1, 1) := by decide +kernel
theorem dG_law_536 : decode code 536 = .ok (.aload_n 0, 1) := by decide +kernel
theorem dG_law_537 : decode code 537 = .ok (.iload 4, 2) := by decide +kernel
theorem dG_law_539 : decode code 539 = .ok (.iconst 1, 1) := by decide +kernel
theorem dG_law_540 : decode code 540 = .ok (.iadd, 1) := by decide +kernel
theorem dG_law_541 : decode code 541 = .ok (.iaload, 1) := by decide +kernel
theorem dG_law_542 : decode code 542 = .ok (.aload_n 3, 1) := by decide +kernel
theorem dG_law_543 : decode code 543 = .ok (.invokestatic 101, 3) := by decide +kernel
theorem dG_law_546 : decode code 546 = .ok (.istore 5, 2) := by decide +kernel
theorem dG_law_548 : decode code 548 = .ok (.aload_n 2, 1) := by decide +kernel
theorem dG_law_549 : decode code 549 = .ok (.aload_n 0, 1) := by decide +kernel
theorem dG_law_550 : decode code 550 = .ok (.iload 4, 2) := by decide +kernel
theorem dG_law_552 : decode code 552 = .ok (.iconst 1, 1) := by decide +kernel
theorem dG_law_553 : decode code 553 = .ok (.iadd, 1) := by decide +kernel
theorem dG_law_554 : decode code 554 = .ok (.iaload, 1) := by decide +kernel
theorem dG_law_555 : decode code 555 = .ok (.invokevirtual 103, 3) := by decide +kernel
theorem dG_law_558 : decode code 558 = .ok (.istore 6, 2) := by decide +kernel
theorem dG_law_560 : decode code 560 = .ok (.aload_n 2, 1) := by decide +kernel
theorem dG_law_561 : decode code 561 = .ok (.invokevirtual 71, 3) := by decide +kernel
theorem dG_law_564 : decode code 564 = .ok (.iload 5, 2) := by decide +kernel
theorem dG_law_566 : decode code 566 = .ok (.if_icmp .eq 5, 3) := by decide +kernel
theorem dG_law_569 : decode code 569 = .ok (.iconst 0, 1) := by decide +kernel
theorem dG_law_570 : decode code 570 = .ok (.ireturn, 1) := by decide +kernel
theorem dG_law_571 : decode code 571 = .ok (.iload 5, 2) := by decide +kernel
theorem dG_law_573 : decode code 573 = .ok (.ifCond .ne 15, 3) := by decide +kernel
theorem dG_law_576 : decode code 576 = .ok (.aload_n 3, 1) := by decide +kernel
theorem dG_law_577 : decode code 577 = .ok (.iconst 0, 1) := by decide +kernel
theorem dG_law_578 : decode code 578 = .ok (.laload, 1) := by decide +kernel
theorem dG_law_579 : decode code 579 = .ok (.iload 6, 2) := by decide +kernel
theorem dG_law_581 : decode code 581 = .ok (.i2l, 1) := by decide +kernel
theorem dG_law_582 : decode code 582 = .ok (.lcmp, 1) := by decide +kernel
theorem dG_law_583 : decode code 583 = .ok (.ifCond .eq 5, 3) := by decide +kernel
theorem dG_law_586 : decode code 586 = .ok (.iconst 0, 1) := by decide +kernel
theorem dG_law_587 : decode code 587 = .ok (.ireturn, 1) := by decide +kernel
theorem dG_law_588 : decode code 588 = .ok (.goto 363, 3) := by decide +kernel
theorem dG_law_591 : decode code 591 = .ok (.aload_n 1, 1) := by decide +kernel
theorem dG_law_592 : decode code 592 = .ok (.aload_n 0, 1) := by decide +kernel
theorem dG_law_593 : decode code 593 = .ok (.iload 4, 2) := by decide +kernel
theorem dG_law_595 : decode code 595 = .ok (.iconst 1, 1) := by decide +kernel
theorem dG_law_596 : decode code 596 = .ok (.iadd, 1) := by decide +kernel
theorem dG_law_597 : decode code 597 = .ok (.iaload, 1) := by decide +kernel
theorem dG_law_598 : decode code 598 = .ok (.aload_n 0, 1) := by decide +kernel
theorem dG_law_599 : decode code 599 = .ok (.iload 4, 2) := by decide +kernel
theorem dG_law_601 : decode code 601 = .ok (.iconst 2, 1) := by decide +kernel
theorem dG_law_602 : decode code 602 = .ok (.iadd, 1) := by decide +kernel
theorem dG_law_603 : decode code 603 = .ok (.iaload, 1) := by decide +kernel
theorem dG_law_604 : decode code 604 = .ok (.aload_n 3, 1) := by decide +kernel
theorem dG_law_605 : decode code 605 = .ok (.invokestatic 104, 3) := by decide +kernel
theorem dG_law_608 : decode code 608 = .ok (.istore 5, 2) := by decide +kernel
theorem dG_law_610 : decode code 610 = .ok (.aload_n 2, 1) := by decide +kernel
theorem dG_law_611 : decode code 611 = .ok (.aload_n 0, 1) := by decide +kernel
theorem dG_law_612 : decode code 612 = .ok (.iload 4, 2) := by decide +kernel
theorem dG_law_614 : decode code 614 = .ok (.iconst 1, 1) := by decide +kernel
theorem dG_law_615 : decode code 615 = .ok (.iadd, 1) := by decide +kernel
theorem dG_law_616 : decode code 616 = .ok (.iaload, 1) := by decide +kernel
theorem dG_law_617 : decode code 617 = .ok (.aload_n 0, 1) := by decide +kernel
theorem dG_law_618 : decode code 618 = .ok (.iload 4, 2) := by decide +kernel
theorem dG_law_620 : decode code 620 = .ok (.iconst 2, 1) := by decide +kernel
theorem dG_law_621 : decode code 621 = .ok (.iadd, 1) := by decide +kernel
theorem dG_law_622 : decode code 622 = .ok (.iaload, 1) := by decide +kernel
theorem dG_law_623 : decode code 623 = .ok (.invokevirtual 107, 3) := by decide +kernel
theorem dG_law_626 : decode code 626 = .ok (.istore 6, 2) := by decide +kernel
theorem dG_law_628 : decode code 628 = .ok (.aload_n 2, 1) := by decide +kernel
theorem dG_law_629 : decode code 629 = .ok (.invokevirtual 71, 3) := by decide +kernel
theorem dG_law_632 : decode code 632 = .ok (.iload 5, 2) := by decide +kernel
theorem dG_law_634 : decode code 634 = .ok (.if_icmp .eq 5, 3) := by decide +kernel
theorem dG_law_637 : decode code 637 = .ok (.iconst 0, 1) := by decide +kernel
theorem dG_law_638 : decode code 638 = .ok (.ireturn, 1) := by decide +kernel
theorem dG_law_639 : decode code 639 = .ok (.iload 5, 2) := by decide +kernel
theorem dG_law_641 : decode code 641 = .ok (.ifCond .ne 15, 3) := by decide +kernel
theorem dG_law_644 : decode code 644 = .ok (.aload_n 3, 1) := by decide +kernel
theorem dG_law_645 : decode code 645 = .ok (.iconst 0, 1) := by decide +kernel
theorem dG_law_646 : decode code 646 = .ok (.laload, 1) := by decide +kernel
theorem dG_law_647 : decode code 647 = .ok (.iload 6, 2) := by decide +kernel
theorem dG_law_649 : decode code 649 = .ok (.i2l, 1) := by decide +kernel
theorem dG_law_650 : decode code 650 = .ok (.lcmp, 1) := by decide +kernel
theorem dG_law_651 : decode code 651 = .ok (.ifCond .eq 5, 3) := by decide +kernel
theorem dG_law_654 : decode code 654 = .ok (.iconst 0, 1) := by decide +kernel
theorem dG_law_655 : decode code 655 = .ok (.ireturn, 1) := by decide +kernel
theorem dG_law_656 : decode code 656 = .ok (.goto 295, 3) := by decide +kernel
theorem dG_law_659 : decode code 659 = .ok (.aload_n 1, 1) := by decide +kernel
theorem dG_law_660 : decode code 660 = .ok (.aload_n 0, 1) := by decide +kernel
theorem dG_law_661 : decode code 661 = .ok (.iload 4, 2) := by decide +kernel
theorem dG_law_663 : decode code 663 = .ok (.iconst 1, 1) := by decide +kernel
theorem dG_law_664 : decode code 664 = .ok (.iadd, 1) := by decide +kernel
theorem dG_law_665 : decode code 665 = .ok (.iaload, 1) := by decide +kernel
theorem dG_law_666 : decode code 666 = .ok (.aload_n 0, 1) := by decide +kernel
theorem dG_law_667 : decode code 667 = .ok (.iload 4, 2) := by decide +kernel
theorem dG_law_669 : decode code 669 = .ok (.iconst 2, 1) := by decide +kernel
theorem dG_law_670 : decode code 670 = .ok (.iadd, 1) := by decide +kernel
theorem dG_law_671 : decode code 671 = .ok (.iaload, 1) := by decide +kernel
theorem dG_law_672 : decode code 672 = .ok (.aload_n 3, 1) := by decide +kernel
theorem dG_law_673 : decode code 673 = .ok (.invokestatic 108, 3) := by decide +kernel
theorem dG_law_676 : decode code 676 = .ok (.istore 5, 2) := by decide +kernel
theorem dG_law_678 : decode code 678 = .ok (.aload_n 2, 1) := by decide +kernel
theorem dG_law_679 : decode code 679 = .ok (.aload_n 0, 1) := by decide +kernel
theorem dG_law_680 : decode code 680 = .ok (.iload 4, 2) := by decide +kernel
theorem dG_law_682 : decode code 682 = .ok (.iconst 1, 1) := by decide +kernel
theorem dG_law_683 : decode code 683 = .ok (.iadd, 1) := by decide +kernel
theorem dG_law_684 : decode code 684 = .ok (.iaload, 1) := by decide +kernel
theorem dG_law_685 : decode code 685 = .ok (.aload_n 0, 1) := by decide +kernel
theorem dG_law_686 : decode code 686 = .ok (.iload 4, 2) := by decide +kernel
theorem dG_law_688 : decode code 688 = .ok (.iconst 2, 1) := by decide +kernel
theorem dG_law_689 : decode code 689 = .ok (.iadd, 1) := by decide +kernel
theorem dG_law_690 : decode code 690 = .ok (.iaload, 1) := by decide +kernel
theorem dG_law_691 : decode code 691 = .ok (.invokevirtual 110, 3) := by decide +kernel
theorem dG_law_694 : decode code 694 = .ok (.istore 6, 2) := by decide +kernel
theorem dG_law_696 : decode code 696 = .ok (.aload_n 2, 1) := by decide +kernel
theorem dG_law_697 : decode code 697 = .ok (.invokevirtual 71, 3) := by decide +kernel
theorem dG_law_700 : decode code 700 = .ok (.iload 5, 2) := by decide +kernel
theorem dG_law_702 : decode code 702 = .ok (.if_icmp .eq 5, 3) := by decide +kernel
theorem dG_law_705 : decode code 705 = .ok (.iconst 0, 1) := by decide +kernel
theorem dG_law_706 : decode code 706 = .ok (.ireturn, 1) := by decide +kernel
theorem dG_law_707 : decode code 707 = .ok (.iload 5, 2) := by decide +kernel
theorem dG_law_709 : decode code 709 = .ok (.ifCond .ne 15, 3) := by decide +kernel
theorem dG_law_712 : decode code 712 = .ok (.aload_n 3, 1) := by decide +kernel
theorem dG_law_713 : decode code 713 = .ok (.iconst 0, 1) := by decide +kernel
theorem dG_law_714 : decode code 714 = .ok (.laload, 1) := by decide +kernel
theorem dG_law_715 : decode code 715 = .ok (.iload 6, 2) := by decide +kernel
theorem dG_law_717 : decode code 717 = .ok (.i2l, 1) := by decide +kernel
theorem dG_law_718 : decode code 718 = .ok (.lcmp, 1) := by decide +kernel
theorem dG_law_719 : decode code 719 = .ok (.ifCond .eq 5, 3) := by decide +kernel
theorem dG_law_722 : decode code 722 = .ok (.iconst 0, 1) := by decide +kernel
theorem dG_law_723 : decode code 723 = .ok (.ireturn, 1) := by decide +kernel
theorem dG_law_724 : decode code 724 = .ok (.goto 227, 3) := by decide +kernel
theorem dG_law_727 : decode code 727 = .ok (.aload_n 1, 1) := by decide +kernel
theorem dG_law_728 : decode code 728 = .ok (.invokevirtual 111, 3) := by decide +kernel
theorem dG_law_731 : decode code 731 = .ok (.aload_n 2, 1) := by decide +kernel
theorem dG_law_732 : decode code 732 = .ok (.invokevirtual 114, 3) := by decide +kernel
theorem dG_law_735 : decode code 735 = .ok (.if_icmp .eq 216, 3) := by decide +kernel
theorem dG_law_738 : decode code 738 = .ok (.iconst 0, 1) := by decide +kernel
theorem dG_law_739 : decode code 739 = .ok (.ireturn, 1) := by decide +kernel
theorem dG_law_740 : decode code 740 = .ok (.aload_n 1, 1) := by decide +kernel
theorem dG_law_741 : decode code 741 = .ok (.aload_n 0, 1) := by decide +kernel
theorem dG_law_742 : decode code 742 = .ok (.iload 4, 2) := by decide +kernel
theorem dG_law_744 : decode code 744 = .ok (.iconst 1, 1) := by decide +kernel
theorem dG_law_745 : decode code 745 = .ok (.iadd, 1) := by decide +kernel
theorem dG_law_746 : decode code 746 = .ok (.iaload, 1) := by decide +kernel
theorem dG_law_747 : decode code 747 = .ok (.aload_n 3, 1) := by decide +kernel
theorem dG_law_748 : decode code 748 = .ok (.invokestatic 115, 3) := by decide +kernel
theorem dG_law_751 : decode code 751 = .ok (.istore 5, 2) := by decide +kernel
theorem dG_law_753 : decode code 753 = .ok (.aload_n 2, 1) := by decide +kernel
theorem dG_law_754 : decode code 754 = .ok (.aload_n 0, 1) := by decide +kernel
theorem dG_law_755 : decode code 755 = .ok (.iload 4, 2) := by decide +kernel
theorem dG_law_757 : decode code 757 = .ok (.iconst 1, 1) := by decide +kernel
theorem dG_law_758 : decode code 758 = .ok (.iadd, 1) := by decide +kernel
theorem dG_law_759 : decode code 759 = .ok (.iaload, 1) := by decide +kernel
theorem dG_law_760 : decode code 760 = .ok (.invokevirtual 117, 3) := by decide +kernel
theorem dG_law_763 : decode code 763 = .ok (.istore 6, 2) := by decide +kernel
theorem dG_law_765 : decode code 765 = .ok (.aload_n 2, 1) := by decide +kernel
theorem dG_law_766 : decode code 766 = .ok (.invokevirtual 71, 3) := by decide +kernel
theorem dG_law_769 : decode code 769 = .ok (.iload 5, 2) := by decide +kernel
theorem dG_law_771 : decode code 771 = .ok (.if_icmp .eq 5, 3) := by decide +kernel
theorem dG_law_774 : decode code 774 = .ok (.iconst 0, 1) := by decide +kernel
theorem dG_law_775 : decode code 775 = .ok (.ireturn, 1) := by decide +kernel
theorem dG_law_776 : decode code 776 = .ok (.iload 5, 2) := by decide +kernel
theorem dG_law_778 : decode code 778 = .ok (.ifCond .ne 15, 3) := by decide +kernel
theorem dG_law_781 : decode code 781 = .ok (.aload_n 3, 1) := by decide +kernel
theorem dG_law_782 : decode code 782 = .ok (.iconst 0, 1) := by decide +kernel
theorem dG_law_783 : decode code 783 = .ok (.laload, 1) := by decide +kernel
theorem dG_law_784 : decode code 784 = .ok (.iload 6, 2) := by decide +kernel
theorem dG_law_786 : decode code 786 = .ok (.i2l, 1) := by decide +kernel
theorem dG_law_787 : decode code 787 = .ok (.lcmp, 1) := by decide +kernel
theorem dG_law_788 : decode code 788 = .ok (.ifCond .eq 5, 3) := by decide +kernel
theorem dG_law_791 : decode code 791 = .ok (.iconst 0, 1) := by decide +kernel
theorem dG_law_792 : decode code 792 = .ok (.ireturn, 1) := by decide +kernel
theorem dG_law_793 : decode code 793 = .ok (.goto 158, 3) := by decide +kernel
theorem dG_law_796 : decode code 796 = .ok (.aload_n 1, 1) := by decide +kernel
theorem dG_law_797 : decode code 797 = .ok (.aload_n 0, 1) := by decide +kernel
theorem dG_law_798 : decode code 798 = .ok (.iload 4, 2) := by decide +kernel
theorem dG_law_800 : decode code 800 = .ok (.iconst 1, 1) := by decide +kernel
theorem dG_law_801 : decode code 801 = .ok (.iadd, 1) := by decide +kernel
theorem dG_law_802 : decode code 802 = .ok (.iaload, 1) := by decide +kernel
theorem dG_law_803 : decode code 803 = .ok (.invokestatic 118, 3) := by decide +kernel
theorem dG_law_806 : decode code 806 = .ok (.istore 5, 2) := by decide +kernel
theorem dG_law_808 : decode code 808 = .ok (.aload_n 2, 1) := by decide +kernel
theorem dG_law_809 : decode code 809 = .ok (.aload_n 0, 1) := by decide +kernel
theorem dG_law_810 : decode code 810 = .ok (.iload 4, 2) := by decide +kernel
theorem dG_law_812 : decode code 812 = .ok (.iconst 1, 1) := by decide +kernel
theorem dG_law_813 : decode code 813 = .ok (.iadd, 1) := by decide +kernel
theorem dG_law_814 : decode code 814 = .ok (.iaload, 1) := by decide +kernel
theorem dG_law_815 : decode code 815 = .ok (.invokevirtual 121, 3) := by decide +kernel
theorem dG_law_818 : decode code 818 = .ok (.aload_n 2, 1) := by decide +kernel
theorem dG_law_819 : decode code 819 = .ok (.invokevirtual 71, 3) := by decide +kernel
theorem dG_law_822 : decode code 822 = .ok (.iload 5, 2) := by decide +kernel
theorem dG_law_824 : decode code 824 = .ok (.if_icmp .eq 5, 3) := by decide +kernel
theorem dG_law_827 : decode code 827 = .ok (.iconst 0, 1) := by decide +kernel
theorem dG_law_828 : decode code 828 = .ok (.ireturn, 1) := by decide +kernel
theorem dG_law_829 : decode code 829 = .ok (.goto 122, 3) := by decide +kernel
theorem dG_law_832 : decode code 832 = .ok (.aload_n 1, 1) := by decide +kernel
theorem dG_law_833 : decode code 833 = .ok (.aload_n 0, 1) := by decide +kernel
theorem dG_law_834 : decode code 834 = .ok (.iload 4, 2) := by decide +kernel
theorem dG_law_836 : decode code 836 = .ok (.iconst 1, 1) := by decide +kernel
theorem dG_law_837 : decode code 837 = .ok (.iadd, 1) := by decide +kernel
theorem dG_law_838 : decode code 838 = .ok (.iaload, 1) := by decide +kernel
theorem dG_law_839 : decode code 839 = .ok (.aload_n 3, 1) := by decide +kernel
theorem dG_law_840 : decode code 840 = .ok (.invokestatic 122, 3) := by decide +kernel
theorem dG_law_843 : decode code 843 = .ok (.istore 5, 2) := by decide +kernel
theorem dG_law_845 : decode code 845 = .ok (.aload_n 2, 1) := by decide +kernel
theorem dG_law_846 : decode code 846 = .ok (.aload_n 0, 1) := by decide +kernel
theorem dG_law_847 : decode code 847 = .ok (.iload 4, 2) := by decide +kernel
theorem dG_law_849 : decode code 849 = .ok (.iconst 1, 1) := by decide +kernel
theorem dG_law_850 : decode code 850 = .ok (.iadd, 1) := by decide +kernel
theorem dG_law_851 : decode code 851 = .ok (.iaload, 1) := by decide +kernel
theorem dG_law_852 : decode code 852 = .ok (.invokevirtual 124, 3) := by decide +kernel
theorem dG_law_855 : decode code 855 = .ok (.istore 6, 2) := by decide +kernel
theorem dG_law_857 : decode code 857 = .ok (.aload_n 2, 1) := by decide +kernel
theorem dG_law_858 : decode code 858 = .ok (.invokevirtual 71, 3) := by decide +kernel
theorem dG_law_861 : decode code 861 = .ok (.iload 5, 2) := by decide +kernel
theorem dG_law_863 : decode code 863 = .ok (.if_icmp .eq 5, 3) := by decide +kernel
theorem dG_law_866 : decode code 866 = .ok (.iconst 0, 1) := by decide +kernel
theorem dG_law_867 : decode code 867 = .ok (.ireturn, 1) := by decide +kernel
theorem dG_law_868 : decode code 868 = .ok (.iload 5, 2) := by decide +kernel
theorem dG_law_870 : decode code 870 = .ok (.ifCond .ne 15, 3) := by decide +kernel
theorem dG_law_873 : decode code 873 = .ok (.aload_n 3, 1) := by decide +kernel
theorem dG_law_874 : decode code 874 = .ok (.iconst 0, 1) := by decide +kernel
theorem dG_law_875 : decode code 875 = .ok (.laload, 1) := by decide +kernel
theorem dG_law_876 : decode code 876 = .ok (.iload 6, 2) := by decide +kernel
theorem dG_law_878 : decode code 878 = .ok (.i2l, 1) := by decide +kernel
theorem dG_law_879 : decode code 879 = .ok (.lcmp, 1) := by decide +kernel
theorem dG_law_880 : decode code 880 = .ok (.ifCond .eq 5, 3) := by decide +kernel
theorem dG_law_883 : decode code 883 = .ok (.iconst 0, 1) := by decide +kernel
theorem dG_law_884 : decode code 884 = .ok (.ireturn, 1) := by decide +kernel
theorem dG_law_885 : decode code 885 = .ok (.goto 66, 3) := by decide +kernel
theorem dG_law_888 : decode code 888 = .ok (.aload_n 1, 1) := by decide +kernel
theorem dG_law_889 : decode code 889 = .ok (.aload_n 0, 1) := by decide +kernel
theorem dG_law_890 : decode code 890 = .ok (.iload 4, 2) := by decide +kernel
theorem dG_law_892 : decode code 892 = .ok (.iconst 1, 1) := by decide +kernel
theorem dG_law_893 : decode code 893 = .ok (.iadd, 1) := by decide +kernel
theorem dG_law_894 : decode code 894 = .ok (.iaload, 1) := by decide +kernel
theorem dG_law_895 : decode code 895 = .ok (.aload_n 3, 1) := by decide +kernel
theorem dG_law_896 : decode code 896 = .ok (.invokestatic 125, 3) := by decide +kernel
theorem dG_law_899 : decode code 899 = .ok (.istore 5, 2) := by decide +kernel
theorem dG_law_901 : decode code 901 = .ok (.aload_n 2, 1) := by decide +kernel
theorem dG_law_902 : decode code 902 = .ok (.aload_n 0, 1) := by decide +kernel
theorem dG_law_903 : decode code 903 = .ok (.iload 4, 2) := by decide +kernel
theorem dG_law_905 : decode code 905 = .ok (.iconst 1, 1) := by decide +kernel
theorem dG_law_906 : decode code 906 = .ok (.iadd, 1) := by decide +kernel
theorem dG_law_907 : decode code 907 = .ok (.iaload, 1) := by decide +kernel
theorem dG_law_908 : decode code 908 = .ok (.invokevirtual 127, 3) := by decide +kernel
theorem dG_law_911 : decode code 911 = .ok (.istore 6, 2) := by decide +kernel
theorem dG_law_913 : decode code 913 = .ok (.aload_n 2, 1) := by decide +kernel
theorem dG_law_914 : decode code 914 = .ok (.invokevirtual 71, 3) := by decide +kernel
theorem dG_law_917 : decode code 917 = .ok (.iload 5, 2) := by decide +kernel
theorem dG_law_919 : decode code 919 = .ok (.if_icmp .eq 5, 3) := by decide +kernel
theorem dG_law_922 : decode code 922 = .ok (.iconst 0, 1) := by decide +kernel
theorem dG_law_923 : decode code 923 = .ok (.ireturn, 1) := by decide +kernel
theorem dG_law_924 : decode code 924 = .ok (.iload 5, 2) := by decide +kernel
theorem dG_law_926 : decode code 926 = .ok (.ifCond .ne 22, 3) := by decide +kernel
theorem dG_law_929 : decode code 929 = .ok (.aload_n 3, 1) := by decide +kernel
theorem dG_law_930 : decode code 930 = .ok (.iconst 0, 1) := by decide +kernel
theorem dG_law_931 : decode code 931 = .ok (.laload, 1) := by decide +kernel
theorem dG_law_932 : decode code 932 = .ok (.iload 6, 2) := by decide +kernel
theorem dG_law_934 : decode code 934 = .ok (.ifCond .eq 7, 3) := by decide +kernel
theorem dG_law_937 : decode code 937 = .ok (.lconst 1, 1) := by decide +kernel
theorem dG_law_938 : decode code 938 = .ok (.goto 4, 3) := by decide +kernel
theorem dG_law_941 : decode code 941 = .ok (.lconst 0, 1) := by decide +kernel
theorem dG_law_942 : decode code 942 = .ok (.lcmp, 1) := by decide +kernel
theorem dG_law_943 : decode code 943 = .ok (.ifCond .eq 5, 3) := by decide +kernel
theorem dG_law_946 : decode code 946 = .ok (.iconst 0, 1) := by decide +kernel
theorem dG_law_947 : decode code 947 = .ok (.ireturn, 1) := by decide +kernel
theorem dG_law_948 : decode code 948 = .ok (.goto 3, 3) := by decide +kernel
theorem dG_law_951 : decode code 951 = .ok (.iinc 4 5, 3) := by decide +kernel
theorem dG_law_954 : decode code 954 = .ok (.goto (-931), 3) := by decide +kernel
theorem dG_law_957 : decode code 957 = .ok (.iconst 1, 1) := by decide +kernel
theorem dG_law_958 : decode code 958 = .ok (.ireturn, 1) := by decide +kernel
