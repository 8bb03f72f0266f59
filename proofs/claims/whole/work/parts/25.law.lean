/-! the law: its ops; the methods by number (printed by wip/whole/gen/law.py) -/
def mi_L_law (L : Nat) (xs : Nat → Int32) : mm_I := (RL, code, 9, (some .boolean), "law", [], mm_xs L xs)
theorem dl_0 : decode code 0 = .ok (.new 8, 3) := by decide +kernel
theorem dl_3 : decode code 3 = .ok (.dup, 1) := by decide +kernel
theorem dl_4 : decode code 4 = .ok (.invokespecial 61, 3) := by decide +kernel
theorem dl_7 : decode code 7 = .ok (.astore_n 1, 1) := by decide +kernel
theorem dl_8 : decode code 8 = .ok (.new 62, 3) := by decide +kernel
theorem dl_11 : decode code 11 = .ok (.dup, 1) := by decide +kernel
theorem dl_12 : decode code 12 = .ok (.invokespecial 64, 3) := by decide +kernel
theorem dl_15 : decode code 15 = .ok (.astore_n 2, 1) := by decide +kernel
theorem dl_16 : decode code 16 = .ok (.iconst 1, 1) := by decide +kernel
theorem dl_17 : decode code 17 = .ok (.newarray .long, 2) := by decide +kernel
theorem dl_19 : decode code 19 = .ok (.astore_n 3, 1) := by decide +kernel
theorem dl_20 : decode code 20 = .ok (.iconst 0, 1) := by decide +kernel
theorem dl_21 : decode code 21 = .ok (.istore 4, 2) := by decide +kernel
theorem dl_23 : decode code 23 = .ok (.iload 4, 2) := by decide +kernel
theorem dl_25 : decode code 25 = .ok (.aload_n 0, 1) := by decide +kernel
theorem dl_26 : decode code 26 = .ok (.arraylength, 1) := by decide +kernel
theorem dl_27 : decode code 27 = .ok (.bipush 7, 2) := by decide +kernel
theorem dl_29 : decode code 29 = .ok (.isub, 1) := by decide +kernel
theorem dl_30 : decode code 30 = .ok (.if_icmp .gt 1132, 3) := by decide +kernel
theorem dl_33 : decode code 33 = .ok (.aload_n 0, 1) := by decide +kernel
theorem dl_34 : decode code 34 = .ok (.iload 4, 2) := by decide +kernel
theorem dl_36 : decode code 36 = .ok (.iaload, 1) := by decide +kernel
theorem dl_37 : decode code 37 = .ok (.bipush 31, 2) := by decide +kernel
theorem dl_39 : decode code 39 = .ok (.iand, 1) := by decide +kernel
theorem dl_40 : decode code 40 = .ok (.tableswitch 1116 0 17 #[88, 115, 249, 345, 389, 402, 415, 471, 546, 621, 685, 741, 797, 861, 874, 942, 1017, 1060], 88) := by decide +kernel
theorem dl_128 : decode code 128 = .ok (.aload_n 1, 1) := by decide +kernel
theorem dl_129 : decode code 129 = .ok (.aload_n 0, 1) := by decide +kernel
theorem dl_130 : decode code 130 = .ok (.iload 4, 2) := by decide +kernel
theorem dl_132 : decode code 132 = .ok (.iconst 1, 1) := by decide +kernel
theorem dl_133 : decode code 133 = .ok (.iadd, 1) := by decide +kernel
theorem dl_134 : decode code 134 = .ok (.iaload, 1) := by decide +kernel
theorem dl_135 : decode code 135 = .ok (.i2c, 1) := by decide +kernel
theorem dl_136 : decode code 136 = .ok (.invokevirtual 65, 3) := by decide +kernel
theorem dl_139 : decode code 139 = .ok (.aload_n 2, 1) := by decide +kernel
theorem dl_140 : decode code 140 = .ok (.aload_n 0, 1) := by decide +kernel
theorem dl_141 : decode code 141 = .ok (.iload 4, 2) := by decide +kernel
theorem dl_143 : decode code 143 = .ok (.iconst 1, 1) := by decide +kernel
theorem dl_144 : decode code 144 = .ok (.iadd, 1) := by decide +kernel
theorem dl_145 : decode code 145 = .ok (.iaload, 1) := by decide +kernel
theorem dl_146 : decode code 146 = .ok (.i2c, 1) := by decide +kernel
theorem dl_147 : decode code 147 = .ok (.invokevirtual 69, 3) := by decide +kernel
theorem dl_150 : decode code 150 = .ok (.if_icmp .eq 1006, 3) := by decide +kernel
theorem dl_153 : decode code 153 = .ok (.iconst 0, 1) := by decide +kernel
theorem dl_154 : decode code 154 = .ok (.ireturn, 1) := by decide +kernel
theorem dl_155 : decode code 155 = .ok (.aload_n 1, 1) := by decide +kernel
theorem dl_156 : decode code 156 = .ok (.aload_n 0, 1) := by decide +kernel
theorem dl_157 : decode code 157 = .ok (.iload 4, 2) := by decide +kernel
theorem dl_159 : decode code 159 = .ok (.iconst 1, 1) := by decide +kernel
theorem dl_160 : decode code 160 = .ok (.iadd, 1) := by decide +kernel
theorem dl_161 : decode code 161 = .ok (.iaload, 1) := by decide +kernel
theorem dl_162 : decode code 162 = .ok (.ifCond .eq 7, 3) := by decide +kernel
theorem dl_165 : decode code 165 = .ok (.iconst 1, 1) := by decide +kernel
theorem dl_166 : decode code 166 = .ok (.goto 4, 3) := by decide +kernel
theorem dl_169 : decode code 169 = .ok (.iconst 0, 1) := by decide +kernel
theorem dl_170 : decode code 170 = .ok (.aload_n 0, 1) := by decide +kernel
theorem dl_171 : decode code 171 = .ok (.iload 4, 2) := by decide +kernel
theorem dl_173 : decode code 173 = .ok (.iconst 2, 1) := by decide +kernel
theorem dl_174 : decode code 174 = .ok (.iadd, 1) := by decide +kernel
theorem dl_175 : decode code 175 = .ok (.iaload, 1) := by decide +kernel
theorem dl_176 : decode code 176 = .ok (.aload_n 0, 1) := by decide +kernel
theorem dl_177 : decode code 177 = .ok (.iload 4, 2) := by decide +kernel
theorem dl_179 : decode code 179 = .ok (.iconst 3, 1) := by decide +kernel
theorem dl_180 : decode code 180 = .ok (.iadd, 1) := by decide +kernel
theorem dl_181 : decode code 181 = .ok (.iaload, 1) := by decide +kernel
theorem dl_182 : decode code 182 = .ok (.aload_n 0, 1) := by decide +kernel
theorem dl_183 : decode code 183 = .ok (.iload 4, 2) := by decide +kernel
theorem dl_185 : decode code 185 = .ok (.iconst 4, 1) := by decide +kernel
theorem dl_186 : decode code 186 = .ok (.iadd, 1) := by decide +kernel
theorem dl_187 : decode code 187 = .ok (.iaload, 1) := by decide +kernel
theorem dl_188 : decode code 188 = .ok (.aload_n 0, 1) := by decide +kernel
theorem dl_189 : decode code 189 = .ok (.iload 4, 2) := by decide +kernel
theorem dl_191 : decode code 191 = .ok (.iconst 5, 1) := by decide +kernel
theorem dl_192 : decode code 192 = .ok (.iadd, 1) := by decide +kernel
theorem dl_193 : decode code 193 = .ok (.iaload, 1) := by decide +kernel
theorem dl_194 : decode code 194 = .ok (.aload_n 0, 1) := by decide +kernel
theorem dl_195 : decode code 195 = .ok (.iload 4, 2) := by decide +kernel
theorem dl_197 : decode code 197 = .ok (.bipush 6, 2) := by decide +kernel
theorem dl_199 : decode code 199 = .ok (.iadd, 1) := by decide +kernel
theorem dl_200 : decode code 200 = .ok (.iaload, 1) := by decide +kernel
theorem dl_201 : decode code 201 = .ok (.aload_n 3, 1) := by decide +kernel
theorem dl_202 : decode code 202 = .ok (.invokestatic 70, 3) := by decide +kernel
theorem dl_205 : decode code 205 = .ok (.istore 5, 2) := by decide +kernel
theorem dl_207 : decode code 207 = .ok (.aload_n 2, 1) := by decide +kernel
theorem dl_208 : decode code 208 = .ok (.aload_n 0, 1) := by decide +kernel
theorem dl_209 : decode code 209 = .ok (.iload 4, 2) := by decide +kernel
theorem dl_211 : decode code 211 = .ok (.iconst 1, 1) := by decide +kernel
theorem dl_212 : decode code 212 = .ok (.iadd, 1) := by decide +kernel
theorem dl_213 : decode code 213 = .ok (.iaload, 1) := by decide +kernel
theorem dl_214 : decode code 214 = .ok (.ifCond .eq 7, 3) := by decide +kernel
theorem dl_217 : decode code 217 = .ok (.iconst 1, 1) := by decide +kernel
theorem dl_218 : decode code 218 = .ok (.goto 4, 3) := by decide +kernel
theorem dl_221 : decode code 221 = .ok (.iconst 0, 1) := by decide +kernel
theorem dl_222 : decode code 222 = .ok (.aload_n 0, 1) := by decide +kernel
theorem dl_223 : decode code 223 = .ok (.iload 4, 2) := by decide +kernel
theorem dl_225 : decode code 225 = .ok (.iconst 2, 1) := by decide +kernel
theorem dl_226 : decode code 226 = .ok (.iadd, 1) := by decide +kernel
theorem dl_227 : decode code 227 = .ok (.iaload, 1) := by decide +kernel
theorem dl_228 : decode code 228 = .ok (.aload_n 0, 1) := by decide +kernel
theorem dl_229 : decode code 229 = .ok (.iload 4, 2) := by decide +kernel
theorem dl_231 : decode code 231 = .ok (.iconst 3, 1) := by decide +kernel
theorem dl_232 : decode code 232 = .ok (.iadd, 1) := by decide +kernel
theorem dl_233 : decode code 233 = .ok (.iaload, 1) := by decide +kernel
theorem dl_234 : decode code 234 = .ok (.aload_n 0, 1) := by decide +kernel
theorem dl_235 : decode code 235 = .ok (.iload 4, 2) := by decide +kernel
theorem dl_237 : decode code 237 = .ok (.iconst 4, 1) := by decide +kernel
theorem dl_238 : decode code 238 = .ok (.iadd, 1) := by decide +kernel
theorem dl_239 : decode code 239 = .ok (.iaload, 1) := by decide +kernel
theorem dl_240 : decode code 240 = .ok (.aload_n 0, 1) := by decide +kernel
theorem dl_241 : decode code 241 = .ok (.iload 4, 2) := by decide +kernel
theorem dl_243 : decode code 243 = .ok (.iconst 5, 1) := by decide +kernel
theorem dl_244 : decode code 244 = .ok (.iadd, 1) := by decide +kernel
theorem dl_245 : decode code 245 = .ok (.iaload, 1) := by decide +kernel
theorem dl_246 : decode code 246 = .ok (.aload_n 0, 1) := by decide +kernel
theorem dl_247 : decode code 247 = .ok (.iload 4, 2) := by decide +kernel
theorem dl_249 : decode code 249 = .ok (.bipush 6, 2) := by decide +kernel
theorem dl_251 : decode code 251 = .ok (.iadd, 1) := by decide +kernel
theorem dl_252 : decode code 252 = .ok (.iaload, 1) := by decide +kernel
theorem dl_253 : decode code 253 = .ok (.invokevirtual 75, 3) := by decide +kernel
theorem dl_256 : decode code 256 = .ok (.istore 6, 2) := by decide +kernel
theorem dl_258 : decode code 258 = .ok (.aload_n 2, 1) := by decide +kernel
theorem dl_259 : decode code 259 = .ok (.invokevirtual 76, 3) := by decide +kernel
theorem dl_262 : decode code 262 = .ok (.iload 5, 2) := by decide +kernel
theorem dl_264 : decode code 264 = .ok (.if_icmp .eq 5, 3) := by decide +kernel
theorem dl_267 : decode code 267 = .ok (.iconst 0, 1) := by decide +kernel
theorem dl_268 : decode code 268 = .ok (.ireturn, 1) := by decide +kernel
theorem dl_269 : decode code 269 = .ok (.iload 5, 2) := by decide +kernel
theorem dl_271 : decode code 271 = .ok (.ifCond .ne 15, 3) := by decide +kernel
theorem dl_274 : decode code 274 = .ok (.aload_n 3, 1) := by decide +kernel
theorem dl_275 : decode code 275 = .ok (.iconst 0, 1) := by decide +kernel
theorem dl_276 : decode code 276 = .ok (.laload, 1) := by decide +kernel
theorem dl_277 : decode code 277 = .ok (.iload 6, 2) := by decide +kernel
theorem dl_279 : decode code 279 = .ok (.i2l, 1) := by decide +kernel
theorem dl_280 : decode code 280 = .ok (.lcmp, 1) := by decide +kernel
theorem dl_281 : decode code 281 = .ok (.ifCond .eq 5, 3) := by decide +kernel
theorem dl_284 : decode code 284 = .ok (.iconst 0, 1) := by decide +kernel
theorem dl_285 : decode code 285 = .ok (.ireturn, 1) := by decide +kernel
theorem dl_286 : decode code 286 = .ok (.goto 870, 3) := by decide +kernel
theorem dl_289 : decode code 289 = .ok (.aload_n 1, 1) := by decide +kernel
theorem dl_290 : decode code 290 = .ok (.aload_n 0, 1) := by decide +kernel
theorem dl_291 : decode code 291 = .ok (.iload 4, 2) := by decide +kernel
theorem dl_293 : decode code 293 = .ok (.iconst 1, 1) := by decide +kernel
theorem dl_294 : decode code 294 = .ok (.iadd, 1) := by decide +kernel
theorem dl_295 : decode code 295 = .ok (.iaload, 1) := by decide +kernel
theorem dl_296 : decode code 296 = .ok (.ifCond .eq 7, 3) := by decide +kernel
theorem dl_299 : decode code 299 = .ok (.iconst 1, 1) := by decide +kernel
theorem dl_300 : decode code 300 = .ok (.goto 4, 3) := by decide +kernel
theorem dl_303 : decode code 303 = .ok (.iconst 0, 1) := by decide +kernel
theorem dl_304 : decode code 304 = .ok (.aload_n 0, 1) := by decide +kernel
theorem dl_305 : decode code 305 = .ok (.iload 4, 2) := by decide +kernel
theorem dl_307 : decode code 307 = .ok (.iconst 2, 1) := by decide +kernel
theorem dl_308 : decode code 308 = .ok (.iadd, 1) := by decide +kernel
theorem dl_309 : decode code 309 = .ok (.iaload, 1) := by decide +kernel
theorem dl_310 : decode code 310 = .ok (.aload_n 0, 1) := by decide +kernel
theorem dl_311 : decode code 311 = .ok (.iload 4, 2) := by decide +kernel
theorem dl_313 : decode code 313 = .ok (.iconst 3, 1) := by decide +kernel
theorem dl_314 : decode code 314 = .ok (.iadd, 1) := by decide +kernel
theorem dl_315 : decode code 315 = .ok (.iaload, 1) := by decide +kernel
theorem dl_316 : decode code 316 = .ok (.aload_n 3, 1) := by decide +kernel
theorem dl_317 : decode code 317 = .ok (.invokestatic 79, 3) := by decide +kernel
theorem dl_320 : decode code 320 = .ok (.istore 5, 2) := by decide +kernel
theorem dl_322 : decode code 322 = .ok (.aload_n 2, 1) := by decide +kernel
theorem dl_323 : decode code 323 = .ok (.aload_n 0, 1) := by decide +kernel
theorem dl_324 : decode code 324 = .ok (.iload 4, 2) := by decide +kernel
theorem dl_326 : decode code 326 = .ok (.iconst 1, 1) := by decide +kernel
theorem dl_327 : decode code 327 = .ok (.iadd, 1) := by decide +kernel
theorem dl_328 : decode code 328 = .ok (.iaload, 1) := by decide +kernel
theorem dl_329 : decode code 329 = .ok (.ifCond .eq 7, 3) := by decide +kernel
theorem dl_332 : decode code 332 = .ok (.iconst 1, 1) := by decide +kernel
theorem dl_333 : decode code 333 = .ok (.goto 4, 3) := by decide +kernel
theorem dl_336 : decode code 336 = .ok (.iconst 0, 1) := by decide +kernel
theorem dl_337 : decode code 337 = .ok (.aload_n 0, 1) := by decide +kernel
theorem dl_338 : decode code 338 = .ok (.iload 4, 2) := by decide +kernel
theorem dl_340 : decode code 340 = .ok (.iconst 2, 1) := by decide +kernel
theorem dl_341 : decode code 341 = .ok (.iadd, 1) := by decide +kernel
theorem dl_342 : decode code 342 = .ok (.iaload, 1) := by decide +kernel
theorem dl_343 : decode code 343 = .ok (.aload_n 0, 1) := by decide +kernel
theorem dl_344 : decode code 344 = .ok (.iload 4, 2) := by decide +kernel
theorem dl_346 : decode code 346 = .ok (.iconst 3, 1) := by decide +kernel
theorem dl_347 : decode code 347 = .ok (.iadd, 1) := by decide +kernel
theorem dl_348 : decode code 348 = .ok (.iaload, 1) := by decide +kernel
theorem dl_349 : decode code 349 = .ok (.invokevirtual 82, 3) := by decide +kernel
theorem dl_352 : decode code 352 = .ok (.istore 6, 2) := by decide +kernel
theorem dl_354 : decode code 354 = .ok (.aload_n 2, 1) := by decide +kernel
theorem dl_355 : decode code 355 = .ok (.invokevirtual 76, 3) := by decide +kernel
theorem dl_358 : decode code 358 = .ok (.iload 5, 2) := by decide +kernel
theorem dl_360 : decode code 360 = .ok (.if_icmp .eq 5, 3) := by decide +kernel
theorem dl_363 : decode code 363 = .ok (.iconst 0, 1) := by decide +kernel
theorem dl_364 : decode code 364 = .ok (.ireturn, 1) := by decide +kernel
theorem dl_365 : decode code 365 = .ok (.iload 5, 2) := by decide +kernel
theorem dl_367 : decode code 367 = .ok (.ifCond .ne 15, 3) := by decide +kernel
theorem dl_370 : decode code 370 = .ok (.aload_n 3, 1) := by decide +kernel
theorem dl_371 : decode code 371 = .ok (.iconst 0, 1) := by decide +kernel
theorem dl_372 : decode code 372 = .ok (.laload, 1) := by decide +kernel
theorem dl_373 : decode code 373 = .ok (.iload 6, 2) := by decide +kernel
theorem dl_375 : decode code 375 = .ok (.i2l, 1) := by decide +kernel
theorem dl_376 : decode code 376 = .ok (.lcmp, 1) := by decide +kernel
theorem dl_377 : decode code 377 = .ok (.ifCond .eq 5, 3) := by decide +kernel
theorem dl_380 : decode code 380 = .ok (.iconst 0, 1) := by decide +kernel
theorem dl_381 : decode code 381 = .ok (.ireturn, 1) := by decide +kernel
theorem dl_382 : decode code 382 = .ok (.goto 774, 3) := by decide +kernel
theorem dl_385 : decode code 385 = .ok (.aload_n 1, 1) := by decide +kernel
theorem dl_386 : decode code 386 = .ok (.aload_n 3, 1) := by decide +kernel
theorem dl_387 : decode code 387 = .ok (.invokestatic 83, 3) := by decide +kernel
theorem dl_390 : decode code 390 = .ok (.istore 5, 2) := by decide +kernel
theorem dl_392 : decode code 392 = .ok (.aload_n 2, 1) := by decide +kernel
theorem dl_393 : decode code 393 = .ok (.invokevirtual 86, 3) := by decide +kernel
theorem dl_396 : decode code 396 = .ok (.istore 6, 2) := by decide +kernel
theorem dl_398 : decode code 398 = .ok (.aload_n 2, 1) := by decide +kernel
theorem dl_399 : decode code 399 = .ok (.invokevirtual 76, 3) := by decide +kernel
theorem dl_402 : decode code 402 = .ok (.iload 5, 2) := by decide +kernel
theorem dl_404 : decode code 404 = .ok (.if_icmp .eq 5, 3) := by decide +kernel
theorem dl_407 : decode code 407 = .ok (.iconst 0, 1) := by decide +kernel
theorem dl_408 : decode code 408 = .ok (.ireturn, 1) := by decide +kernel
theorem dl_409 : decode code 409 = .ok (.iload 5, 2) := by decide +kernel
theorem dl_411 : decode code 411 = .ok (.ifCond .ne 15, 3) := by decide +kernel
theorem dl_414 : decode code 414 = .ok (.aload_n 3, 1) := by decide +kernel
theorem dl_415 : decode code 415 = .ok (.iconst 0, 1) := by decide +kernel
theorem dl_416 : decode code 416 = .ok (.laload, 1) := by decide +kernel
theorem dl_417 : decode code 417 = .ok (.iload 6, 2) := by decide +kernel
theorem dl_419 : decode code 419 = .ok (.i2l, 1) := by decide +kernel
theorem dl_420 : decode code 420 = .ok (.lcmp, 1) := by decide +kernel
theorem dl_421 : decode code 421 = .ok (.ifCond .eq 5, 3) := by decide +kernel
theorem dl_424 : decode code 424 = .ok (.iconst 0, 1) := by decide +kernel
theorem dl_425 : decode code 425 = .ok (.ireturn, 1) := by decide +kernel
theorem dl_426 : decode code 426 = .ok (.goto 730, 3) := by decide +kernel
theorem dl_429 : decode code 429 = .ok (.aload_n 1, 1) := by decide +kernel
theorem dl_430 : decode code 430 = .ok (.invokevirtual 87, 3) := by decide +kernel
theorem dl_433 : decode code 433 = .ok (.aload_n 2, 1) := by decide +kernel
theorem dl_434 : decode code 434 = .ok (.invokevirtual 90, 3) := by decide +kernel
theorem dl_437 : decode code 437 = .ok (.if_icmp .eq 719, 3) := by decide +kernel
theorem dl_440 : decode code 440 = .ok (.iconst 0, 1) := by decide +kernel
theorem dl_441 : decode code 441 = .ok (.ireturn, 1) := by decide +kernel
theorem dl_442 : decode code 442 = .ok (.aload_n 1, 1) := by decide +kernel
theorem dl_443 : decode code 443 = .ok (.invokevirtual 91, 3) := by decide +kernel
theorem dl_446 : decode code 446 = .ok (.aload_n 2, 1) := by decide +kernel
theorem dl_447 : decode code 447 = .ok (.invokevirtual 94, 3) := by decide +kernel
theorem dl_450 : decode code 450 = .ok (.if_icmp .eq 706, 3) := by decide +kernel
theorem dl_453 : decode code 453 = .ok (.iconst 0, 1) := by decide +kernel
theorem dl_454 : decode code 454 = .ok (.ireturn, 1) := by decide +kernel
theorem dl_455 : decode code 455 = .ok (.aload_n 1, 1) := by decide +kernel
theorem dl_456 : decode code 456 = .ok (.aload_n 0, 1) := by decide +kernel
theorem dl_457 : decode code 457 = .ok (.iload 4, 2) := by decide +kernel
theorem dl_459 : decode code 459 = .ok (.iconst 1, 1) := by decide +kernel
theorem dl_460 : decode code 460 = .ok (.iadd, 1) := by decide +kernel
theorem dl_461 : decode code 461 = .ok (.iaload, 1) := by decide +kernel
theorem dl_462 : decode code 462 = .ok (.aload_n 3, 1) := by decide +kernel
theorem dl_463 : decode code 463 = .ok (.invokestatic 95, 3) := by decide +kernel
theorem dl_466 : decode code 466 = .ok (.istore 5, 2) := by decide +kernel
theorem dl_468 : decode code 468 = .ok (.aload_n 2, 1) := by decide +kernel
theorem dl_469 : decode code 469 = .ok (.aload_n 0, 1) := by decide +kernel
theorem dl_470 : decode code 470 = .ok (.iload 4, 2) := by decide +kernel
theorem dl_472 : decode code 472 = .ok (.iconst 1, 1) := by decide +kernel
theorem dl_473 : decode code 473 = .ok (.iadd, 1) := by decide +kernel
theorem dl_474 : decode code 474 = .ok (.iaload, 1) := by decide +kernel
theorem dl_475 : decode code 475 = .ok (.invokevirtual 98, 3) := by decide +kernel
theorem dl_478 : decode code 478 = .ok (.istore 6, 2) := by decide +kernel
theorem dl_480 : decode code 480 = .ok (.aload_n 2, 1) := by decide +kernel
theorem dl_481 : decode code 481 = .ok (.invokevirtual 76, 3) := by decide +kernel
theorem dl_484 : decode code 484 = .ok (.iload 5, 2) := by decide +kernel
theorem dl_486 : decode code 486 = .ok (.if_icmp .eq 5, 3) := by decide +kernel
theorem dl_489 : decode code 489 = .ok (.iconst 0, 1) := by decide +kernel
theorem dl_490 : decode code 490 = .ok (.ireturn, 1) := by decide +kernel
theorem dl_491 : decode code 491 = .ok (.iload 5, 2) := by decide +kernel
theorem dl_493 : decode code 493 = .ok (.ifCond .ne 15, 3) := by decide +kernel
theorem dl_496 : decode code 496 = .ok (.aload_n 3, 1) := by decide +kernel
theorem dl_497 : decode code 497 = .ok (.iconst 0, 1) := by decide +kernel
theorem dl_498 : decode code 498 = .ok (.laload, 1) := by decide +kernel
theorem dl_499 : decode code 499 = .ok (.iload 6, 2) := by decide +kernel
theorem dl_501 : decode code 501 = .ok (.i2l, 1) := by decide +kernel
theorem dl_502 : decode code 502 = .ok (.lcmp, 1) := by decide +kernel
theorem dl_503 : decode code 503 = .ok (.ifCond .eq 5, 3) := by decide +kernel
theorem dl_506 : decode code 506 = .ok (.iconst 0, 1) := by decide +kernel
theorem dl_507 : decode code 507 = .ok (.ireturn, 1) := by decide +kernel
theorem dl_508 : decode code 508 = .ok (.goto 648, 3) := by decide +kernel
theorem dl_511 : decode code 511 = .ok (.aload_n 1, 1) := by decide +kernel
theorem dl_512 : decode code 512 = .ok (.aload_n 0, 1) := by decide +kernel
theorem dl_513 : decode code 513 = .ok (.iload 4, 2) := by decide +kernel
theorem dl_515 : decode code 515 = .ok (.iconst 1, 1) := by decide +kernel
theorem dl_516 : decode code 516 = .ok (.iadd, 1) := by decide +kernel
theorem dl_517 : decode code 517 = .ok (.iaload, 1) := by decide +kernel
theorem dl_518 : decode code 518 = .ok (.aload_n 0, 1) := by decide +kernel
theorem dl_519 : decode code 519 = .ok (.iload 4, 2) := by decide +kernel
theorem dl_521 : decode code 521 = .ok (.iconst 2, 1) := by decide +kernel
theorem dl_522 : decode code 522 = .ok (.iadd, 1) := by decide +kernel
theorem dl_523 : decode code 523 = .ok (.iaload, 1) := by decide +kernel
theorem dl_524 : decode code 524 = .ok (.aload_n 3, 1) := by decide +kernel
theorem dl_525 : decode code 525 = .ok (.invokestatic 99, 3) := by decide +kernel
theorem dl_528 : decode code 528 = .ok (.istore 5, 2) := by decide +kernel
theorem dl_530 : decode code 530 = .ok (.aload_n 2, 1) := by decide +kernel
theorem dl_531 : decode code 531 = .ok (.aload_n 0, 1) := by decide +kernel
theorem dl_532 : decode code 532 = .ok (.iload 4, 2) := by decide +kernel
theorem dl_534 : decode code 534 = .ok (.iconst 1, 1) := by decide +kernel
theorem dl_535 : decode code 535 = .ok (.iadd, 1) := by decide +kernel
theorem dl_536 : decode code 536 = .ok (.iaload, 1) := by decide +kernel
theorem dl_537 : decode code 537 = .ok (.aload_n 0, 1) := by decide +kernel
theorem dl_538 : decode code 538 = .ok (.iload 4, 2) := by decide +kernel
theorem dl_540 : decode code 540 = .ok (.iconst 2, 1) := by decide +kernel
theorem dl_541 : decode code 541 = .ok (.iadd, 1) := by decide +kernel
theorem dl_542 : decode code 542 = .ok (.iaload, 1) := by decide +kernel
theorem dl_543 : decode code 543 = .ok (.invokevirtual 102, 3) := by decide +kernel
theorem dl_546 : decode code 546 = .ok (.istore 6, 2) := by decide +kernel
theorem dl_548 : decode code 548 = .ok (.aload_n 2, 1) := by decide +kernel
theorem dl_549 : decode code 549 = .ok (.invokevirtual 76, 3) := by decide +kernel
theorem dl_552 : decode code 552 = .ok (.iload 5, 2) := by decide +kernel
theorem dl_554 : decode code 554 = .ok (.if_icmp .eq 5, 3) := by decide +kernel
theorem dl_557 : decode code 557 = .ok (.iconst 0, 1) := by decide +kernel
theorem dl_558 : decode code 558 = .ok (.ireturn, 1) := by decide +kernel
theorem dl_559 : decode code 559 = .ok (.iload 5, 2) := by decide +kernel
theorem dl_561 : decode code 561 = .ok (.ifCond .ne 22, 3) := by decide +kernel
theorem dl_564 : decode code 564 = .ok (.aload_n 3, 1) := by decide +kernel
theorem dl_565 : decode code 565 = .ok (.iconst 0, 1) := by decide +kernel
theorem dl_566 : decode code 566 = .ok (.laload, 1) := by decide +kernel
theorem dl_567 : decode code 567 = .ok (.iload 6, 2) := by decide +kernel
theorem dl_569 : decode code 569 = .ok (.ifCond .eq 7, 3) := by decide +kernel
theorem dl_572 : decode code 572 = .ok (.lconst 1, 1) := by decide +kernel
theorem dl_573 : decode code 573 = .ok (.goto 4, 3) := by decide +kernel
theorem dl_576 : decode code 576 = .ok (.lconst 0, 1) := by decide +kernel
theorem dl_577 : decode code 577 = .ok (.lcmp, 1) := by decide +kernel
theorem dl_578 : decode code 578 = .ok (.ifCond .eq 5, 3) := by decide +kernel
theorem dl_581 : decode code 581 = .ok (.iconst 0, 1) := by decide +kernel
theorem dl_582 : decode code 582 = .ok (.ireturn, 1) := by decide +kernel
theorem dl_583 : decode code 583 = .ok (.goto 573, 3) := by decide +kernel
theorem dl_586 : decode code 586 = .ok (.aload_n 1, 1) := by decide +kernel
theorem dl_587 : decode code 587 = .ok (.aload_n 0, 1) := by decide +kernel
theorem dl_588 : decode code 588 = .ok (.iload 4, 2) := by decide +kernel
theorem dl_590 : decode code 590 = .ok (.iconst 1, 1) := by decide +kernel
theorem dl_591 : decode code 591 = .ok (.iadd, 1) := by decide +kernel
theorem dl_592 : decode code 592 = .ok (.iaload, 1) := by decide +kernel
theorem dl_593 : decode code 593 = .ok (.aload_n 0, 1) := by decide +kernel
theorem dl_594 : decode code 594 = .ok (.iload 4, 2) := by decide +kernel
theorem dl_596 : decode code 596 = .ok (.iconst 2, 1) := by decide +kernel
theorem dl_597 : decode code 597 = .ok (.iadd, 1) := by decide +kernel
theorem dl_598 : decode code 598 = .ok (.iaload, 1) := by decide +kernel
theorem dl_599 : decode code 599 = .ok (.aload_n 3, 1) := by decide +kernel
theorem dl_600 : decode code 600 = .ok (.invokestatic 103, 3) := by decide +kernel
theorem dl_603 : decode code 603 = .ok (.istore 5, 2) := by decide +kernel
theorem dl_605 : decode code 605 = .ok (.aload_n 2, 1) := by decide +kernel
theorem dl_606 : decode code 606 = .ok (.aload_n 0, 1) := by decide +kernel
theorem dl_607 : decode code 607 = .ok (.iload 4, 2) := by decide +kernel
theorem dl_609 : decode code 609 = .ok (.iconst 1, 1) := by decide +kernel
theorem dl_610 : decode code 610 = .ok (.iadd, 1) := by decide +kernel
theorem dl_611 : decode code 611 = .ok (.iaload, 1) := by decide +kernel
theorem dl_612 : decode code 612 = .ok (.aload_n 0, 1) := by decide +kernel
theorem dl_613 : decode code 613 = .ok (.iload 4, 2) := by decide +kernel
theorem dl_615 : decode code 615 = .ok (.iconst 2, 1) := by decide +kernel
theorem dl_616 : decode code 616 = .ok (.iadd, 1) := by decide +kernel
theorem dl_617 : decode code 617 = .ok (.iaload, 1) := by decide +kernel
theorem dl_618 : decode code 618 = .ok (.invokevirtual 105, 3) := by decide +kernel
theorem dl_621 : decode code 621 = .ok (.istore 6, 2) := by decide +kernel
theorem dl_623 : decode code 623 = .ok (.aload_n 2, 1) := by decide +kernel
theorem dl_624 : decode code 624 = .ok (.invokevirtual 76, 3) := by decide +kernel
theorem dl_627 : decode code 627 = .ok (.iload 5, 2) := by decide +kernel
theorem dl_629 : decode code 629 = .ok (.if_icmp .eq 5, 3) := by decide +kernel
theorem dl_632 : decode code 632 = .ok (.iconst 0, 1) := by decide +kernel
theorem dl_633 : decode code 633 = .ok (.ireturn, 1) := by decide +kernel
theorem dl_634 : decode code 634 = .ok (.iload 5, 2) := by decide +kernel
theorem dl_636 : decode code 636 = .ok (.ifCond .ne 22, 3) := by decide +kernel
theorem dl_639 : decode code 639 = .ok (.aload_n 3, 1) := by decide +kernel
theorem dl_640 : decode code 640 = .ok (.iconst 0, 1) := by decide +kernel
theorem dl_641 : decode code 641 = .ok (.laload, 1) := by decide +kernel
theorem dl_642 : decode code 642 = .ok (.iload 6, 2) := by decide +kernel
theorem dl_644 : decode code 644 = .ok (.ifCond .eq 7, 3) := by decide +kernel
theorem dl_647 : decode code 647 = .ok (.lconst 1, 1) := by decide +kernel
theorem dl_648 : decode code 648 = .ok (.goto 4, 3) := by decide +kernel
theorem dl_651 : decode code 651 = .ok (.lconst 0, 1) := by decide +kernel
theorem dl_652 : decode code 652 = .ok (.lcmp, 1) := by decide +kernel
theorem dl_653 : decode code 653 = .ok (.ifCond .eq 5, 3) := by decide +kernel
theorem dl_656 : decode code 656 = .ok (.iconst 0, 1) := by decide +kernel
theorem dl_657 : decode code 657 = .ok (.ireturn, 1) := by decide +kernel
theorem dl_658 : decode code 658 = .ok (.goto 498, 3) := by decide +kernel
theorem dl_661 : decode code 661 = .ok (.aload_n 1, 1) := by decide +kernel
theorem dl_662 : decode code 662 = .ok (.aload_n 0, 1) := by decide +kernel
theorem dl_663 : decode code 663 = .ok (.iload 4, 2) := by decide +kernel
theorem dl_665 : decode code 665 = .ok (.iconst 1, 1) := by decide +kernel
theorem dl_666 : decode code 666 = .ok (.iadd, 1) := by decide +kernel
theorem dl_667 : decode code 667 = .ok (.iaload, 1) := by decide +kernel
theorem dl_668 : decode code 668 = .ok (.aload_n 0, 1) := by decide +kernel
theorem dl_669 : decode code 669 = .ok (.iload 4, 2) := by decide +kernel
theorem dl_671 : decode code 671 = .ok (.iconst 2, 1) := by decide +kernel
theorem dl_672 : decode code 672 = .ok (.iadd, 1) := by decide +kernel
theorem dl_673 : decode code 673 = .ok (.iaload, 1) := by decide +kernel
theorem dl_674 : decode code 674 = .ok (.ifCond .eq 7, 3) := by decide +kernel
theorem dl_677 : decode code 677 = .ok (.iconst 1, 1) := by decide +kernel
theorem dl_678 : decode code 678 = .ok (.goto 4, 3) := by decide +kernel
theorem dl_681 : decode code 681 = .ok (.iconst 0, 1) := by decide +kernel
theorem dl_682 : decode code 682 = .ok (.invokestatic 106, 3) := by decide +kernel
theorem dl_685 : decode code 685 = .ok (.istore 5, 2) := by decide +kernel
theorem dl_687 : decode code 687 = .ok (.aload_n 2, 1) := by decide +kernel
theorem dl_688 : decode code 688 = .ok (.aload_n 0, 1) := by decide +kernel
theorem dl_689 : decode code 689 = .ok (.iload 4, 2) := by decide +kernel
theorem dl_691 : decode code 691 = .ok (.iconst 1, 1) := by decide +kernel
theorem dl_692 : decode code 692 = .ok (.iadd, 1) := by decide +kernel
theorem dl_693 : decode code 693 = .ok (.iaload, 1) := by decide +kernel
theorem dl_694 : decode code 694 = .ok (.aload_n 0, 1) := by decide +kernel
theorem dl_695 : decode code 695 = .ok (.iload 4, 2) := by decide +kernel
theorem dl_697 : decode code 697 = .ok (.iconst 2, 1) := by decide +kernel
theorem dl_698 : decode code 698 = .ok (.iadd, 1) := by decide +kernel
theorem dl_699 : decode code 699 = .ok (.iaload, 1) := by decide +kernel
theorem dl_700 : decode code 700 = .ok (.ifCond .eq 7, 3) := by decide +kernel
theorem dl_703 : decode code 703 = .ok (.iconst 1, 1) := by decide +kernel
theorem dl_704 : decode code 704 = .ok (.goto 4, 3) := by decide +kernel
theorem dl_707 : decode code 707 = .ok (.iconst 0, 1) := by decide +kernel
theorem dl_708 : decode code 708 = .ok (.invokevirtual 109, 3) := by decide +kernel
theorem dl_711 : decode code 711 = .ok (.aload_n 2, 1) := by decide +kernel
theorem dl_712 : decode code 712 = .ok (.invokevirtual 76, 3) := by decide +kernel
theorem dl_715 : decode code 715 = .ok (.iload 5, 2) := by decide +kernel
theorem dl_717 : decode code 717 = .ok (.if_icmp .eq 5, 3) := by decide +kernel
theorem dl_720 : decode code 720 = .ok (.iconst 0, 1) := by decide +kernel
theorem dl_721 : decode code 721 = .ok (.ireturn, 1) := by decide +kernel
theorem dl_722 : decode code 722 = .ok (.goto 434, 3) := by decide +kernel
theorem dl_725 : decode code 725 = .ok (.aload_n 1, 1) := by decide +kernel
theorem dl_726 : decode code 726 = .ok (.aload_n 0, 1) := by decide +kernel
theorem dl_727 : decode code 727 = .ok (.iload 4, 2) := by decide +kernel
theorem dl_729 : decode code 729 = .ok (.iconst 1, 1) := by decide +kernel
theorem dl_730 : decode code 730 = .ok (.iadd, 1) := by decide +kernel
theorem dl_731 : decode code 731 = .ok (.iaload, 1) := by decide +kernel
theorem dl_732 : decode code 732 = .ok (.aload_n 3, 1) := by decide +kernel
theorem dl_733 : decode code 733 = .ok (.invokestatic 110, 3) := by decide +kernel
theorem dl_736 : decode code 736 = .ok (.istore 5, 2) := by decide +kernel
theorem dl_738 : decode code 738 = .ok (.aload_n 2, 1) := by decide +kernel
theorem dl_739 : decode code 739 = .ok (.aload_n 0, 1) := by decide +kernel
theorem dl_740 : decode code 740 = .ok (.iload 4, 2) := by decide +kernel
theorem dl_742 : decode code 742 = .ok (.iconst 1, 1) := by decide +kernel
theorem dl_743 : decode code 743 = .ok (.iadd, 1) := by decide +kernel
theorem dl_744 : decode code 744 = .ok (.iaload, 1) := by decide +kernel
theorem dl_745 : decode code 745 = .ok (.invokevirtual 112, 3) := by decide +kernel
theorem dl_748 : decode code 748 = .ok (.istore 6, 2) := by decide +kernel
theorem dl_750 : decode code 750 = .ok (.aload_n 2, 1) := by decide +kernel
theorem dl_751 : decode code 751 = .ok (.invokevirtual 76, 3) := by decide +kernel
theorem dl_754 : decode code 754 = .ok (.iload 5, 2) := by decide +kernel
theorem dl_756 : decode code 756 = .ok (.if_icmp .eq 5, 3) := by decide +kernel
theorem dl_759 : decode code 759 = .ok (.iconst 0, 1) := by decide +kernel
theorem dl_760 : decode code 760 = .ok (.ireturn, 1) := by decide +kernel
theorem dl_761 : decode code 761 = .ok (.iload 5, 2) := by decide +kernel
theorem dl_763 : decode code 763 = .ok (.ifCond .ne 15, 3) := by decide +kernel
theorem dl_766 : decode code 766 = .ok (.aload_n 3, 1) := by decide +kernel
theorem dl_767 : decode code 767 = .ok (.iconst 0, 1) := by decide +kernel
theorem dl_768 : decode code 768 = .ok (.laload, 1) := by decide +kernel
theorem dl_769 : decode code 769 = .ok (.iload 6, 2) := by decide +kernel
theorem dl_771 : decode code 771 = .ok (.i2l, 1) := by decide +kernel
theorem dl_772 : decode code 772 = .ok (.lcmp, 1) := by decide +kernel
theorem dl_773 : decode code 773 = .ok (.ifCond .eq 5, 3) := by decide +kernel
theorem dl_776 : decode code 776 = .ok (.iconst 0, 1) := by decide +kernel
theorem dl_777 : decode code 777 = .ok (.ireturn, 1) := by decide +kernel
theorem dl_778 : decode code 778 = .ok (.goto 378, 3) := by decide +kernel
theorem dl_781 : decode code 781 = .ok (.aload_n 1, 1) := by decide +kernel
theorem dl_782 : decode code 782 = .ok (.aload_n 0, 1) := by decide +kernel
theorem dl_783 : decode code 783 = .ok (.iload 4, 2) := by decide +kernel
theorem dl_785 : decode code 785 = .ok (.iconst 1, 1) := by decide +kernel
theorem dl_786 : decode code 786 = .ok (.iadd, 1) := by decide +kernel
theorem dl_787 : decode code 787 = .ok (.iaload, 1) := by decide +kernel
theorem dl_788 : decode code 788 = .ok (.aload_n 3, 1) := by decide +kernel
theorem dl_789 : decode code 789 = .ok (.invokestatic 113, 3) := by decide +kernel
theorem dl_792 : decode code 792 = .ok (.istore 5, 2) := by decide +kernel
theorem dl_794 : decode code 794 = .ok (.aload_n 2, 1) := by decide +kernel
theorem dl_795 : decode code 795 = .ok (.aload_n 0, 1) := by decide +kernel
theorem dl_796 : decode code 796 = .ok (.iload 4, 2) := by decide +kernel
theorem dl_798 : decode code 798 = .ok (.iconst 1, 1) := by decide +kernel
theorem dl_799 : decode code 799 = .ok (.iadd, 1) := by decide +kernel
theorem dl_800 : decode code 800 = .ok (.iaload, 1) := by decide +kernel
theorem dl_801 : decode code 801 = .ok (.invokevirtual 115, 3) := by decide +kernel
theorem dl_804 : decode code 804 = .ok (.istore 6, 2) := by decide +kernel
theorem dl_806 : decode code 806 = .ok (.aload_n 2, 1) := by decide +kernel
theorem dl_807 : decode code 807 = .ok (.invokevirtual 76, 3) := by decide +kernel
theorem dl_810 : decode code 810 = .ok (.iload 5, 2) := by decide +kernel
theorem dl_812 : decode code 812 = .ok (.if_icmp .eq 5, 3) := by decide +kernel
theorem dl_815 : decode code 815 = .ok (.iconst 0, 1) := by decide +kernel
theorem dl_816 : decode code 816 = .ok (.ireturn, 1) := by decide +kernel
theorem dl_817 : decode code 817 = .ok (.iload 5, 2) := by decide +kernel
theorem dl_819 : decode code 819 = .ok (.ifCond .ne 15, 3) := by decide +kernel
theorem dl_822 : decode code 822 = .ok (.aload_n 3, 1) := by decide +kernel
theorem dl_823 : decode code 823 = .ok (.iconst 0, 1) := by decide +kernel
theorem dl_824 : decode code 824 = .ok (.laload, 1) := by decide +kernel
theorem dl_825 : decode code 825 = .ok (.iload 6, 2) := by decide +kernel
theorem dl_827 : decode code 827 = .ok (.i2l, 1) := by decide +kernel
theorem dl_828 : decode code 828 = .ok (.lcmp, 1) := by decide +kernel
theorem dl_829 : decode code 829 = .ok (.ifCond .eq 5, 3) := by decide +kernel
theorem dl_832 : decode code 832 = .ok (.iconst 0, 1) := by decide +kernel
theorem dl_833 : decode code 833 = .ok (.ireturn, 1) := by decide +kernel
theorem dl_834 : decode code 834 = .ok (.goto 322, 3) := by decide +kernel
theorem dl_837 : decode code 837 = .ok (.aload_n 1, 1) := by decide +kernel
theorem dl_838 : decode code 838 = .ok (.aload_n 0, 1) := by decide +kernel
theorem dl_839 : decode code 839 = .ok (.iload 4, 2) := by decide +kernel
theorem dl_841 : decode code 841 = .ok (.iconst 1, 1) := by decide +kernel
theorem dl_842 : decode code 842 = .ok (.iadd, 1) := by decide +kernel
theorem dl_843 : decode code 843 = .ok (.iaload, 1) := by decide +kernel
theorem dl_844 : decode code 844 = .ok (.aload_n 0, 1) := by decide +kernel
theorem dl_845 : decode code 845 = .ok (.iload 4, 2) := by decide +kernel
theorem dl_847 : decode code 847 = .ok (.iconst 2, 1) := by decide +kernel
theorem dl_848 : decode code 848 = .ok (.iadd, 1) := by decide +kernel
theorem dl_849 : decode code 849 = .ok (.iaload, 1) := by decide +kernel
theorem dl_850 : decode code 850 = .ok (.ifCond .eq 7, 3) := by decide +kernel
theorem dl_853 : decode code 853 = .ok (.iconst 1, 1) := by decide +kernel
theorem dl_854 : decode code 854 = .ok (.goto 4, 3) := by decide +kernel
theorem dl_857 : decode code 857 = .ok (.iconst 0, 1) := by decide +kernel
theorem dl_858 : decode code 858 = .ok (.invokestatic 116, 3) := by decide +kernel
theorem dl_861 : decode code 861 = .ok (.istore 5, 2) := by decide +kernel
theorem dl_863 : decode code 863 = .ok (.aload_n 2, 1) := by decide +kernel
theorem dl_864 : decode code 864 = .ok (.aload_n 0, 1) := by decide +kernel
theorem dl_865 : decode code 865 = .ok (.iload 4, 2) := by decide +kernel
theorem dl_867 : decode code 867 = .ok (.iconst 1, 1) := by decide +kernel
theorem dl_868 : decode code 868 = .ok (.iadd, 1) := by decide +kernel
theorem dl_869 : decode code 869 = .ok (.iaload, 1) := by decide +kernel
theorem dl_870 : decode code 870 = .ok (.aload_n 0, 1) := by decide +kernel
theorem dl_871 : decode code 871 = .ok (.iload 4, 2) := by decide +kernel
theorem dl_873 : decode code 873 = .ok (.iconst 2, 1) := by decide +kernel
theorem dl_874 : decode code 874 = .ok (.iadd, 1) := by decide +kernel
theorem dl_875 : decode code 875 = .ok (.iaload, 1) := by decide +kernel
theorem dl_876 : decode code 876 = .ok (.ifCond .eq 7, 3) := by decide +kernel
theorem dl_879 : decode code 879 = .ok (.iconst 1, 1) := by decide +kernel
theorem dl_880 : decode code 880 = .ok (.goto 4, 3) := by decide +kernel
theorem dl_883 : decode code 883 = .ok (.iconst 0, 1) := by decide +kernel
theorem dl_884 : decode code 884 = .ok (.invokevirtual 118, 3) := by decide +kernel
theorem dl_887 : decode code 887 = .ok (.aload_n 2, 1) := by decide +kernel
theorem dl_888 : decode code 888 = .ok (.invokevirtual 76, 3) := by decide +kernel
theorem dl_891 : decode code 891 = .ok (.iload 5, 2) := by decide +kernel
theorem dl_893 : decode code 893 = .ok (.if_icmp .eq 5, 3) := by decide +kernel
theorem dl_896 : decode code 896 = .ok (.iconst 0, 1) := by decide +kernel
theorem dl_897 : decode code 897 = .ok (.ireturn, 1) := by decide +kernel
theorem dl_898 : decode code 898 = .ok (.goto 258, 3) := by decide +kernel
theorem dl_901 : decode code 901 = .ok (.aload_n 1, 1) := by decide +kernel
theorem dl_902 : decode code 902 = .ok (.invokevirtual 119, 3) := by decide +kernel
theorem dl_905 : decode code 905 = .ok (.aload_n 2, 1) := by decide +kernel
theorem dl_906 : decode code 906 = .ok (.invokevirtual 122, 3) := by decide +kernel
theorem dl_909 : decode code 909 = .ok (.if_icmp .eq 247, 3) := by decide +kernel
theorem dl_912 : decode code 912 = .ok (.iconst 0, 1) := by decide +kernel
theorem dl_913 : decode code 913 = .ok (.ireturn, 1) := by decide +kernel
theorem dl_914 : decode code 914 = .ok (.aload_n 1, 1) := by decide +kernel
theorem dl_915 : decode code 915 = .ok (.aload_n 0, 1) := by decide +kernel
theorem dl_916 : decode code 916 = .ok (.iload 4, 2) := by decide +kernel
theorem dl_918 : decode code 918 = .ok (.iconst 1, 1) := by decide +kernel
theorem dl_919 : decode code 919 = .ok (.iadd, 1) := by decide +kernel
theorem dl_920 : decode code 920 = .ok (.iaload, 1) := by decide +kernel
theorem dl_921 : decode code 921 = .ok (.aload_n 0, 1) := by decide +kernel
theorem dl_922 : decode code 922 = .ok (.iload 4, 2) := by decide +kernel
theorem dl_924 : decode code 924 = .ok (.iconst 2, 1) := by decide +kernel
theorem dl_925 : decode code 925 = .ok (.iadd, 1) := by decide +kernel
theorem dl_926 : decode code 926 = .ok (.iaload, 1) := by decide +kernel
theorem dl_927 : decode code 927 = .ok (.aload_n 3, 1) := by decide +kernel
theorem dl_928 : decode code 928 = .ok (.invokestatic 123, 3) := by decide +kernel
theorem dl_931 : decode code 931 = .ok (.istore 5, 2) := by decide +kernel
theorem dl_933 : decode code 933 = .ok (.aload_n 2, 1) := by decide +kernel
theorem dl_934 : decode code 934 = .ok (.aload_n 0, 1) := by decide +kernel
theorem dl_935 : decode code 935 = .ok (.iload 4, 2) := by decide +kernel
theorem dl_937 : decode code 937 = .ok (.iconst 1, 1) := by decide +kernel
theorem dl_938 : decode code 938 = .ok (.iadd, 1) := by decide +kernel
theorem dl_939 : decode code 939 = .ok (.iaload, 1) := by decide +kernel
theorem dl_940 : decode code 940 = .ok (.aload_n 0, 1) := by decide +kernel
theorem dl_941 : decode code 941 = .ok (.iload 4, 2) := by decide +kernel
theorem dl_943 : decode code 943 = .ok (.iconst 2, 1) := by decide +kernel
theorem dl_944 : decode code 944 = .ok (.iadd, 1) := by decide +kernel
theorem dl_945 : decode code 945 = .ok (.iaload, 1) := by decide +kernel
theorem dl_946 : decode code 946 = .ok (.invokevirtual 125, 3) := by decide +kernel
theorem dl_949 : decode code 949 = .ok (.istore 6, 2) := by decide +kernel
theorem dl_951 : decode code 951 = .ok (.aload_n 2, 1) := by decide +kernel
theorem dl_952 : decode code 952 = .ok (.invokevirtual 76, 3) := by decide +kernel
theorem dl_955 : decode code 955 = .ok (.iload 5, 2) := by decide +kernel
theorem dl_957 : decode code 957 = .ok (.if_icmp .eq 5, 3) := by decide +kernel
theorem dl_960 : decode code 960 = .ok (.iconst 0, 1) := by decide +kernel
theorem dl_961 : decode code 961 = .ok (.ireturn, 1) := by decide +kernel
theorem dl_962 : decode code 962 = .ok (.iload 5, 2) := by decide +kernel
theorem dl_964 : decode code 964 = .ok (.ifCond .ne 15, 3) := by decide +kernel
theorem dl_967 : decode code 967 = .ok (.aload_n 3, 1) := by decide +kernel
theorem dl_968 : decode code 968 = .ok (.iconst 0, 1) := by decide +kernel
theorem dl_969 : decode code 969 = .ok (.laload, 1) := by decide +kernel
theorem dl_970 : decode code 970 = .ok (.iload 6, 2) := by decide +kernel
theorem dl_972 : decode code 972 = .ok (.i2l, 1) := by decide +kernel
theorem dl_973 : decode code 973 = .ok (.lcmp, 1) := by decide +kernel
theorem dl_974 : decode code 974 = .ok (.ifCond .eq 5, 3) := by decide +kernel
theorem dl_977 : decode code 977 = .ok (.iconst 0, 1) := by decide +kernel
theorem dl_978 : decode code 978 = .ok (.ireturn, 1) := by decide +kernel
theorem dl_979 : decode code 979 = .ok (.goto 177, 3) := by decide +kernel
theorem dl_982 : decode code 982 = .ok (.aload_n 1, 1) := by decide +kernel
theorem dl_983 : decode code 983 = .ok (.aload_n 0, 1) := by decide +kernel
theorem dl_984 : decode code 984 = .ok (.iload 4, 2) := by decide +kernel
theorem dl_986 : decode code 986 = .ok (.iconst 1, 1) := by decide +kernel
theorem dl_987 : decode code 987 = .ok (.iadd, 1) := by decide +kernel
theorem dl_988 : decode code 988 = .ok (.iaload, 1) := by decide +kernel
theorem dl_989 : decode code 989 = .ok (.aload_n 0, 1) := by decide +kernel
theorem dl_990 : decode code 990 = .ok (.iload 4, 2) := by decide +kernel
theorem dl_992 : decode code 992 = .ok (.iconst 2, 1) := by decide +kernel
theorem dl_993 : decode code 993 = .ok (.iadd, 1) := by decide +kernel
theorem dl_994 : decode code 994 = .ok (.iaload, 1) := by decide +kernel
theorem dl_995 : decode code 995 = .ok (.aload_n 3, 1) := by decide +kernel
theorem dl_996 : decode code 996 = .ok (.invokestatic 126, 3) := by decide +kernel
theorem dl_999 : decode code 999 = .ok (.istore 5, 2) := by decide +kernel
theorem dl_1001 : decode code 1001 = .ok (.aload_n 2, 1) := by decide +kernel
theorem dl_1002 : decode code 1002 = .ok (.aload_n 0, 1) := by decide +kernel
theorem dl_1003 : decode code 1003 = .ok (.iload 4, 2) := by decide +kernel
theorem dl_1005 : decode code 1005 = .ok (.iconst 1, 1) := by decide +kernel
theorem dl_1006 : decode code 1006 = .ok (.iadd, 1) := by decide +kernel
theorem dl_1007 : decode code 1007 = .ok (.iaload, 1) := by decide +kernel
theorem dl_1008 : decode code 1008 = .ok (.aload_n 0, 1) := by decide +kernel
theorem dl_1009 : decode code 1009 = .ok (.iload 4, 2) := by decide +kernel
theorem dl_1011 : decode code 1011 = .ok (.iconst 2, 1) := by decide +kernel
theorem dl_1012 : decode code 1012 = .ok (.iadd, 1) := by decide +kernel
theorem dl_1013 : decode code 1013 = .ok (.iaload, 1) := by decide +kernel
theorem dl_1014 : decode code 1014 = .ok (.invokevirtual 128, 3) := by decide +kernel
theorem dl_1017 : decode code 1017 = .ok (.istore 6, 2) := by decide +kernel
theorem dl_1019 : decode code 1019 = .ok (.aload_n 2, 1) := by decide +kernel
theorem dl_1020 : decode code 1020 = .ok (.invokevirtual 76, 3) := by decide +kernel
theorem dl_1023 : decode code 1023 = .ok (.iload 5, 2) := by decide +kernel
theorem dl_1025 : decode code 1025 = .ok (.if_icmp .eq 5, 3) := by decide +kernel
theorem dl_1028 : decode code 1028 = .ok (.iconst 0, 1) := by decide +kernel
theorem dl_1029 : decode code 1029 = .ok (.ireturn, 1) := by decide +kernel
theorem dl_1030 : decode code 1030 = .ok (.iload 5, 2) := by decide +kernel
theorem dl_1032 : decode code 1032 = .ok (.ifCond .ne 22, 3) := by decide +kernel
theorem dl_1035 : decode code 1035 = .ok (.aload_n 3, 1) := by decide +kernel
theorem dl_1036 : decode code 1036 = .ok (.iconst 0, 1) := by decide +kernel
theorem dl_1037 : decode code 1037 = .ok (.laload, 1) := by decide +kernel
theorem dl_1038 : decode code 1038 = .ok (.iload 6, 2) := by decide +kernel
theorem dl_1040 : decode code 1040 = .ok (.ifCond .eq 7, 3) := by decide +kernel
theorem dl_1043 : decode code 1043 = .ok (.lconst 1, 1) := by decide +kernel
theorem dl_1044 : decode code 1044 = .ok (.goto 4, 3) := by decide +kernel
theorem dl_1047 : decode code 1047 = .ok (.lconst 0, 1) := by decide +kernel
theorem dl_1048 : decode code 1048 = .ok (.lcmp, 1) := by decide +kernel
theorem dl_1049 : decode code 1049 = .ok (.ifCond .eq 5, 3) := by decide +kernel
theorem dl_1052 : decode code 1052 = .ok (.iconst 0, 1) := by decide +kernel
theorem dl_1053 : decode code 1053 = .ok (.ireturn, 1) := by decide +kernel
theorem dl_1054 : decode code 1054 = .ok (.goto 102, 3) := by decide +kernel
theorem dl_1057 : decode code 1057 = .ok (.aload_n 1, 1) := by decide +kernel
theorem dl_1058 : decode code 1058 = .ok (.invokevirtual 129, 3) := by decide +kernel
theorem dl_1061 : decode code 1061 = .ok (.f2d, 1) := by decide +kernel
theorem dl_1062 : decode code 1062 = .ok (.dstore 5, 2) := by decide +kernel
theorem dl_1064 : decode code 1064 = .ok (.aload_n 2, 1) := by decide +kernel
theorem dl_1065 : decode code 1065 = .ok (.invokevirtual 133, 3) := by decide +kernel
theorem dl_1068 : decode code 1068 = .ok (.f2d, 1) := by decide +kernel
theorem dl_1069 : decode code 1069 = .ok (.dstore 7, 2) := by decide +kernel
theorem dl_1071 : decode code 1071 = .ok (.dload 5, 2) := by decide +kernel
theorem dl_1073 : decode code 1073 = .ok (.dload 7, 2) := by decide +kernel
theorem dl_1075 : decode code 1075 = .ok (.dcmp .l, 1) := by decide +kernel
theorem dl_1076 : decode code 1076 = .ok (.ifCond .eq 21, 3) := by decide +kernel
theorem dl_1079 : decode code 1079 = .ok (.dload 5, 2) := by decide +kernel
theorem dl_1081 : decode code 1081 = .ok (.dload 5, 2) := by decide +kernel
theorem dl_1083 : decode code 1083 = .ok (.dcmp .l, 1) := by decide +kernel
theorem dl_1084 : decode code 1084 = .ok (.ifCond .eq 11, 3) := by decide +kernel
theorem dl_1087 : decode code 1087 = .ok (.dload 7, 2) := by decide +kernel
theorem dl_1089 : decode code 1089 = .ok (.dload 7, 2) := by decide +kernel
theorem dl_1091 : decode code 1091 = .ok (.dcmp .l, 1) := by decide +kernel
theorem dl_1092 : decode code 1092 = .ok (.ifCond .ne 5, 3) := by decide +kernel
theorem dl_1095 : decode code 1095 = .ok (.iconst 0, 1) := by decide +kernel
theorem dl_1096 : decode code 1096 = .ok (.ireturn, 1) := by decide +kernel
theorem dl_1097 : decode code 1097 = .ok (.goto 59, 3) := by decide +kernel
theorem dl_1100 : decode code 1100 = .ok (.aload_n 1, 1) := by decide +kernel
theorem dl_1101 : decode code 1101 = .ok (.aload_n 0, 1) := by decide +kernel
theorem dl_1102 : decode code 1102 = .ok (.iload 4, 2) := by decide +kernel
theorem dl_1104 : decode code 1104 = .ok (.iconst 1, 1) := by decide +kernel
theorem dl_1105 : decode code 1105 = .ok (.iadd, 1) := by decide +kernel
theorem dl_1106 : decode code 1106 = .ok (.iaload, 1) := by decide +kernel
theorem dl_1107 : decode code 1107 = .ok (.aload_n 3, 1) := by decide +kernel
theorem dl_1108 : decode code 1108 = .ok (.invokestatic 134, 3) := by decide +kernel
theorem dl_1111 : decode code 1111 = .ok (.istore 5, 2) := by decide +kernel
theorem dl_1113 : decode code 1113 = .ok (.aload_n 2, 1) := by decide +kernel
theorem dl_1114 : decode code 1114 = .ok (.aload_n 0, 1) := by decide +kernel
theorem dl_1115 : decode code 1115 = .ok (.iload 4, 2) := by decide +kernel
theorem dl_1117 : decode code 1117 = .ok (.iconst 1, 1) := by decide +kernel
theorem dl_1118 : decode code 1118 = .ok (.iadd, 1) := by decide +kernel
theorem dl_1119 : decode code 1119 = .ok (.iaload, 1) := by decide +kernel
theorem dl_1120 : decode code 1120 = .ok (.invokevirtual 136, 3) := by decide +kernel
theorem dl_1123 : decode code 1123 = .ok (.istore 6, 2) := by decide +kernel
theorem dl_1125 : decode code 1125 = .ok (.aload_n 2, 1) := by decide +kernel
theorem dl_1126 : decode code 1126 = .ok (.invokevirtual 76, 3) := by decide +kernel
theorem dl_1129 : decode code 1129 = .ok (.iload 5, 2) := by decide +kernel
theorem dl_1131 : decode code 1131 = .ok (.if_icmp .eq 5, 3) := by decide +kernel
theorem dl_1134 : decode code 1134 = .ok (.iconst 0, 1) := by decide +kernel
theorem dl_1135 : decode code 1135 = .ok (.ireturn, 1) := by decide +kernel
theorem dl_1136 : decode code 1136 = .ok (.iload 5, 2) := by decide +kernel
theorem dl_1138 : decode code 1138 = .ok (.ifCond .ne 15, 3) := by decide +kernel
theorem dl_1141 : decode code 1141 = .ok (.aload_n 3, 1) := by decide +kernel
theorem dl_1142 : decode code 1142 = .ok (.iconst 0, 1) := by decide +kernel
theorem dl_1143 : decode code 1143 = .ok (.laload, 1) := by decide +kernel
theorem dl_1144 : decode code 1144 = .ok (.iload 6, 2) := by decide +kernel
theorem dl_1146 : decode code 1146 = .ok (.i2l, 1) := by decide +kernel
theorem dl_1147 : decode code 1147 = .ok (.lcmp, 1) := by decide +kernel
theorem dl_1148 : decode code 1148 = .ok (.ifCond .eq 5, 3) := by decide +kernel
theorem dl_1151 : decode code 1151 = .ok (.iconst 0, 1) := by decide +kernel
theorem dl_1152 : decode code 1152 = .ok (.ireturn, 1) := by decide +kernel
theorem dl_1153 : decode code 1153 = .ok (.goto 3, 3) := by decide +kernel
theorem dl_1156 : decode code 1156 = .ok (.iinc 4 7, 3) := by decide +kernel
theorem dl_1159 : decode code 1159 = .ok (.goto (-1136), 3) := by decide +kernel
theorem dl_1162 : decode code 1162 = .ok (.iconst 1, 1) := by decide +kernel
theorem dl_1163 : decode code 1163 = .ok (.ireturn, 1) := by decide +kernel
def tb_law_0 (L : Nat) (xs : Nat → Int32) : Nat → Option mm_O := mt_n 39 (mt_n 20 (mt_n 11 (mt_n 4 (mt_n 0 (mt_l 0 (mo_new 10 4)) (mt_n 3 (mt_l 3 (mo_dup)) (mt_l 4 (mo_ci 69 1)))) (mt_n 7 (mt_l 7 (mo_sta 1 1)) (mt_n 8 (mt_l 8 (mo_new 11 37)) (mt_l 11 (mo_dup))))) (mt_n 16 (mt_n 12 (mt_l 12 (mo_ci 95 1)) (mt_n 15 (mt_l 15 (mo_sta 1 2)) (mt_l 16 (mo_push 1 (.int 1))))) (mt_n 17 (mt_l 17 (mo_nwa 2 4)) (mt_n 19 (mt_l 19 (mo_sta 1 3)) (mt_l 20 (mo_push 1 (.int 0))))))) (mt_n 29 (mt_n 25 (mt_n 21 (mt_l 21 (mo_sti 2 4)) (mt_n 23 (mt_l 23 (mo_ldi 2 4)) (mt_l 25 (mo_lda 1 0)))) (mt_n 26 (mt_l 26 (mo_slen L)) (mt_n 27 (mt_l 27 (mo_push 2 (.int 7))) (mt_l 29 (mo_isub))))) (mt_n 34 (mt_n 30 (mt_l 30 (mo_icmp_gt 1162)) (mt_n 33 (mt_l 33 (mo_lda 1 0)) (mt_l 34 (mo_ldi 2 4)))) (mt_n 36 (mt_l 36 (mo_sld L xs)) (mt_n 37 (mt_l 37 (mo_push 2 (.int 31))) (mt_l 39 (mo_iand))))))) (mt_n 141 (mt_n 133 (mt_n 129 (mt_n 40 (mt_l 40 (mo_sw 1156 [(0, 128), (1, 155), (2, 289), (3, 385), (4, 429), (5, 442), (6, 455), (7, 511), (8, 586), (9, 661), (10, 725), (11, 781), (12, 837), (13, 901), (14, 914), (15, 982), (16, 1057), (17, 1100)])) (mt_n 128 (mt_l 128 (mo_lda 1 1)) (mt_l 129 (mo_lda 1 0)))) (mt_n 130 (mt_l 130 (mo_ldi 2 4)) (mt_n 132 (mt_l 132 (mo_push 1 (.int 1))) (mt_l 133 (mo_iadd))))) (mt_n 136 (mt_n 134 (mt_l 134 (mo_sld L xs)) (mt_n 135 (mt_l 135 (mo_i2c)) (mt_l 136 (mo_cv 70 2 10 [])))) (mt_n 139 (mt_l 139 (mo_lda 1 2)) (mt_n 140 (mt_l 140 (mo_lda 1 0)) (mt_l 141 (mo_ldi 2 4)))))) (mt_n 150 (mt_n 145 (mt_n 143 (mt_l 143 (mo_push 1 (.int 1))) (mt_n 144 (mt_l 144 (mo_iadd)) (mt_l 145 (mo_sld L xs)))) (mt_n 146 (mt_l 146 (mo_i2c)) (mt_n 147 (mt_l 147 (mo_cv 101 2 11 [])) (mt_l 150 (mo_icmp_eq 1156))))) (mt_n 155 (mt_n 153 (mt_l 153 (mo_push 1 (.int 0))) (mt_n 154 (mt_l 154 (mo_zret)) (mt_l 155 (mo_lda 1 1)))) (mt_n 156 (mt_l 156 (mo_lda 1 0)) (mt_n 157 (mt_l 157 (mo_ldi 2 4)) (mt_l 159 (mo_push 1 (.int 1))))))))
set_option maxRecDepth 20000 in
theorem vb_law_0 (L : Nat) (xs : Nat → Int32) : mt_V (mi_L_law L xs) (tb_law_0 L xs) := mt_Vn (mt_Vn (mt_Vn (mt_Vn (mt_Vn (mt_Vl (sn_new dl_0 rfl hin_10 hty_10 hdf_10 gw_77 gw_78 gw_54)) (mt_Vn (mt_Vl (sn_dup dl_3)) (mt_Vl (sn_ci dl_4 rfl gw_81 gw_79 gw_80 gw_54 rfl (by decide +kernel) (by first | decide | (show _ < 9; decide)))))) (mt_Vn (mt_Vl (sn_astore_n (k := 1) dl_7 rfl (by first | decide | (show _ < 9; decide)))) (mt_Vn (mt_Vl (sn_new dl_8 rfl hin_11 hty_11 hdf_11 gw_943 gw_944 gw_65)) (mt_Vl (sn_dup dl_11))))) (mt_Vn (mt_Vn (mt_Vl (sn_ci dl_12 rfl gw_947 gw_945 gw_946 gw_65 rfl (by decide +kernel) (by first | decide | (show _ < 9; decide)))) (mt_Vn (mt_Vl (sn_astore_n (k := 2) dl_15 rfl (by first | decide | (show _ < 9; decide)))) (mt_Vl (sn_iconst (n := 1) dl_16 (by first | decide | (show _ < 9; decide)))))) (mt_Vn (mt_Vl (sn_newa (a9 := .long) dl_17 rfl (fun _ => rfl) (by first | decide | (show _ < 9; decide)) (fun _ h => nomatch h) gw_1277 (by first | decide | (show _ < 9; decide)) hce_4)) (mt_Vn (mt_Vl (sn_astore_n (k := 3) dl_19 rfl (by first | decide | (show _ < 9; decide)))) (mt_Vl (sn_iconst (n := 0) dl_20 (by first | decide | (show _ < 9; decide)))))))) (mt_Vn (mt_Vn (mt_Vn (mt_Vl (sn_istore dl_21 (by first | decide | (show _ < 9; decide)))) (mt_Vn (mt_Vl (sn_iload dl_23)) (mt_Vl (sn_aload_n (k := 0) dl_25 rfl)))) (mt_Vn (mt_Vl (sn_slen (xs := xs) dl_26 (fun _ _ _ h => h))) (mt_Vn (mt_Vl (sn_bipush (n := 7) dl_27 (by first | decide | (show _ < 9; decide)))) (mt_Vl (sn_isub dl_29))))) (mt_Vn (mt_Vn (mt_Vl (sn_icmp_gt (off := 1132) dl_30 (by first | decide | (show _ < 9; decide)))) (mt_Vn (mt_Vl (sn_aload_n (k := 0) dl_33 rfl)) (mt_Vl (sn_iload dl_34)))) (mt_Vn (mt_Vl (sn_sld dl_36 (fun _ _ _ h => h))) (mt_Vn (mt_Vl (sn_bipush (n := 31) dl_37 (by first | decide | (show _ < 9; decide)))) (mt_Vl (sn_iand dl_39))))))) (mt_Vn (mt_Vn (mt_Vn (mt_Vn (mt_Vl (sn_tsw (len := 88) (d := 1116) (lo := 0) (hi := 17) (offs := #[88, 115, 249, 345, 389, 402, 415, 471, 546, 621, 685, 741, 797, 861, 874, 942, 1017, 1060]) (ts := [128, 155, 289, 385, 429, 442, 455, 511, 586, 661, 725, 781, 837, 901, 914, 982, 1057, 1100]) dl_40 (by first | decide | (show _ < 9; decide)) (by first | decide | (show _ < 9; decide)) (by first | decide | (show _ < 9; decide)) (by first | decide | (show _ < 9; decide)) (by first | decide | (show _ < 9; decide)) (by first | decide | (show _ < 9; decide)))) (mt_Vn (mt_Vl (sn_aload_n (k := 1) dl_128 rfl)) (mt_Vl (sn_aload_n (k := 0) dl_129 rfl)))) (mt_Vn (mt_Vl (sn_iload dl_130)) (mt_Vn (mt_Vl (sn_iconst (n := 1) dl_132 (by first | decide | (show _ < 9; decide)))) (mt_Vl (sn_iadd dl_133))))) (mt_Vn (mt_Vn (mt_Vl (sn_sld dl_134 (fun _ _ _ h => h))) (mt_Vn (mt_Vl (sn_i2c dl_135)) (mt_Vl (sn_cv dl_136 rfl gw_379 gw_376 gw_377 gw_378 gw_54 rfl (by decide +kernel) (by first | decide | (show _ < 9; decide)) (Or.inl ⟨rfl, rfl⟩))))) (mt_Vn (mt_Vl (sn_aload_n (k := 2) dl_139 rfl)) (mt_Vn (mt_Vl (sn_aload_n (k := 0) dl_140 rfl)) (mt_Vl (sn_iload dl_141)))))) (mt_Vn (mt_Vn (mt_Vn (mt_Vl (sn_iconst (n := 1) dl_143 (by first | decide | (show _ < 9; decide)))) (mt_Vn (mt_Vl (sn_iadd dl_144)) (mt_Vl (sn_sld dl_145 (fun _ _ _ h => h))))) (mt_Vn (mt_Vl (sn_i2c dl_146)) (mt_Vn (mt_Vl (sn_cv dl_147 rfl gw_1069 gw_1066 gw_1067 gw_1068 gw_65 rfl (by decide +kernel) (by first | decide | (show _ < 9; decide)) (Or.inl ⟨rfl, rfl⟩))) (mt_Vl (sn_icmp_eq (off := 1006) dl_150 (by first | decide | (show _ < 9; decide))))))) (mt_Vn (mt_Vn (mt_Vl (sn_iconst (n := 0) dl_153 (by first | decide | (show _ < 9; decide)))) (mt_Vn (mt_Vl (sn_zreturn dl_154 rfl)) (mt_Vl (sn_aload_n (k := 1) dl_155 rfl)))) (mt_Vn (mt_Vl (sn_aload_n (k := 0) dl_156 rfl)) (mt_Vn (mt_Vl (sn_iload dl_157)) (mt_Vl (sn_iconst (n := 1) dl_159 (by first | decide | (show _ < 9; decide)))))))))
def tb_law_1 (L : Nat) (xs : Nat → Int32) : Nat → Option mm_O := mt_n 191 (mt_n 176 (mt_n 169 (mt_n 162 (mt_n 160 (mt_l 160 (mo_iadd)) (mt_n 161 (mt_l 161 (mo_sld L xs)) (mt_l 162 (mo_if_eq 169)))) (mt_n 165 (mt_l 165 (mo_push 1 (.int 1))) (mt_n 166 (mt_l 166 (mo_go 170)) (mt_l 169 (mo_push 1 (.int 0)))))) (mt_n 173 (mt_n 170 (mt_l 170 (mo_lda 1 0)) (mt_n 171 (mt_l 171 (mo_ldi 2 4)) (mt_l 173 (mo_push 1 (.int 2))))) (mt_n 174 (mt_l 174 (mo_iadd)) (mt_n 175 (mt_l 175 (mo_sld L xs)) (mt_l 176 (mo_lda 1 0)))))) (mt_n 183 (mt_n 180 (mt_n 177 (mt_l 177 (mo_ldi 2 4)) (mt_n 179 (mt_l 179 (mo_push 1 (.int 3))) (mt_l 180 (mo_iadd)))) (mt_n 181 (mt_l 181 (mo_sld L xs)) (mt_n 182 (mt_l 182 (mo_lda 1 0)) (mt_l 183 (mo_ldi 2 4))))) (mt_n 187 (mt_n 185 (mt_l 185 (mo_push 1 (.int 4))) (mt_n 186 (mt_l 186 (mo_iadd)) (mt_l 187 (mo_sld L xs)))) (mt_n 188 (mt_l 188 (mo_lda 1 0)) (mt_n 189 (mt_l 189 (mo_ldi 2 4)) (mt_l 191 (mo_push 1 (.int 5)))))))) (mt_n 208 (mt_n 199 (mt_n 194 (mt_n 192 (mt_l 192 (mo_iadd)) (mt_n 193 (mt_l 193 (mo_sld L xs)) (mt_l 194 (mo_lda 1 0)))) (mt_n 195 (mt_l 195 (mo_ldi 2 4)) (mt_n 197 (mt_l 197 (mo_push 2 (.int 6))) (mt_l 199 (mo_iadd))))) (mt_n 202 (mt_n 200 (mt_l 200 (mo_sld L xs)) (mt_n 201 (mt_l 201 (mo_lda 1 3)) (mt_l 202 (mo_sn 150 8)))) (mt_n 205 (mt_l 205 (mo_sti 2 5)) (mt_n 207 (mt_l 207 (mo_lda 1 2)) (mt_l 208 (mo_lda 1 0)))))) (mt_n 217 (mt_n 212 (mt_n 209 (mt_l 209 (mo_ldi 2 4)) (mt_n 211 (mt_l 211 (mo_push 1 (.int 1))) (mt_l 212 (mo_iadd)))) (mt_n 213 (mt_l 213 (mo_sld L xs)) (mt_n 214 (mt_l 214 (mo_if_eq 221)) (mt_l 217 (mo_push 1 (.int 1)))))) (mt_n 222 (mt_n 218 (mt_l 218 (mo_go 222)) (mt_n 221 (mt_l 221 (mo_push 1 (.int 0))) (mt_l 222 (mo_lda 1 0)))) (mt_n 223 (mt_l 223 (mo_ldi 2 4)) (mt_n 225 (mt_l 225 (mo_push 1 (.int 2))) (mt_l 226 (mo_iadd)))))))
set_option maxRecDepth 20000 in
theorem vb_law_1 (L : Nat) (xs : Nat → Int32) : mt_V (mi_L_law L xs) (tb_law_1 L xs) := mt_Vn (mt_Vn (mt_Vn (mt_Vn (mt_Vn (mt_Vl (sn_iadd dl_160)) (mt_Vn (mt_Vl (sn_sld dl_161 (fun _ _ _ h => h))) (mt_Vl (sn_if_eq (off := 7) dl_162 (by first | decide | (show _ < 9; decide)))))) (mt_Vn (mt_Vl (sn_iconst (n := 1) dl_165 (by first | decide | (show _ < 9; decide)))) (mt_Vn (mt_Vl (sn_goto (off := 4) dl_166 (by first | decide | (show _ < 9; decide)))) (mt_Vl (sn_iconst (n := 0) dl_169 (by first | decide | (show _ < 9; decide))))))) (mt_Vn (mt_Vn (mt_Vl (sn_aload_n (k := 0) dl_170 rfl)) (mt_Vn (mt_Vl (sn_iload dl_171)) (mt_Vl (sn_iconst (n := 2) dl_173 (by first | decide | (show _ < 9; decide)))))) (mt_Vn (mt_Vl (sn_iadd dl_174)) (mt_Vn (mt_Vl (sn_sld dl_175 (fun _ _ _ h => h))) (mt_Vl (sn_aload_n (k := 0) dl_176 rfl)))))) (mt_Vn (mt_Vn (mt_Vn (mt_Vl (sn_iload dl_177)) (mt_Vn (mt_Vl (sn_iconst (n := 3) dl_179 (by first | decide | (show _ < 9; decide)))) (mt_Vl (sn_iadd dl_180)))) (mt_Vn (mt_Vl (sn_sld dl_181 (fun _ _ _ h => h))) (mt_Vn (mt_Vl (sn_aload_n (k := 0) dl_182 rfl)) (mt_Vl (sn_iload dl_183))))) (mt_Vn (mt_Vn (mt_Vl (sn_iconst (n := 4) dl_185 (by first | decide | (show _ < 9; decide)))) (mt_Vn (mt_Vl (sn_iadd dl_186)) (mt_Vl (sn_sld dl_187 (fun _ _ _ h => h))))) (mt_Vn (mt_Vl (sn_aload_n (k := 0) dl_188 rfl)) (mt_Vn (mt_Vl (sn_iload dl_189)) (mt_Vl (sn_iconst (n := 5) dl_191 (by first | decide | (show _ < 9; decide))))))))) (mt_Vn (mt_Vn (mt_Vn (mt_Vn (mt_Vl (sn_iadd dl_192)) (mt_Vn (mt_Vl (sn_sld dl_193 (fun _ _ _ h => h))) (mt_Vl (sn_aload_n (k := 0) dl_194 rfl)))) (mt_Vn (mt_Vl (sn_iload dl_195)) (mt_Vn (mt_Vl (sn_bipush (n := 6) dl_197 (by first | decide | (show _ < 9; decide)))) (mt_Vl (sn_iadd dl_199))))) (mt_Vn (mt_Vn (mt_Vl (sn_sld dl_200 (fun _ _ _ h => h))) (mt_Vn (mt_Vl (sn_aload_n (k := 3) dl_201 rfl)) (mt_Vl (sn_csW dl_202 rfl gw_433 gw_431 gw_432 gw_53 (by decide +kernel) (by first | decide | (show _ < 9; decide)))))) (mt_Vn (mt_Vl (sn_istore dl_205 (by first | decide | (show _ < 9; decide)))) (mt_Vn (mt_Vl (sn_aload_n (k := 2) dl_207 rfl)) (mt_Vl (sn_aload_n (k := 0) dl_208 rfl)))))) (mt_Vn (mt_Vn (mt_Vn (mt_Vl (sn_iload dl_209)) (mt_Vn (mt_Vl (sn_iconst (n := 1) dl_211 (by first | decide | (show _ < 9; decide)))) (mt_Vl (sn_iadd dl_212)))) (mt_Vn (mt_Vl (sn_sld dl_213 (fun _ _ _ h => h))) (mt_Vn (mt_Vl (sn_if_eq (off := 7) dl_214 (by first | decide | (show _ < 9; decide)))) (mt_Vl (sn_iconst (n := 1) dl_217 (by first | decide | (show _ < 9; decide))))))) (mt_Vn (mt_Vn (mt_Vl (sn_goto (off := 4) dl_218 (by first | decide | (show _ < 9; decide)))) (mt_Vn (mt_Vl (sn_iconst (n := 0) dl_221 (by first | decide | (show _ < 9; decide)))) (mt_Vl (sn_aload_n (k := 0) dl_222 rfl)))) (mt_Vn (mt_Vl (sn_iload dl_223)) (mt_Vn (mt_Vl (sn_iconst (n := 2) dl_225 (by first | decide | (show _ < 9; decide)))) (mt_Vl (sn_iadd dl_226)))))))
def tb_law_2 (L : Nat) (xs : Nat → Int32) : Nat → Option mm_O := mt_n 258 (mt_n 240 (mt_n 233 (mt_n 229 (mt_n 227 (mt_l 227 (mo_sld L xs)) (mt_n 228 (mt_l 228 (mo_lda 1 0)) (mt_l 229 (mo_ldi 2 4)))) (mt_n 231 (mt_l 231 (mo_push 1 (.int 3))) (mt_n 232 (mt_l 232 (mo_iadd)) (mt_l 233 (mo_sld L xs))))) (mt_n 237 (mt_n 234 (mt_l 234 (mo_lda 1 0)) (mt_n 235 (mt_l 235 (mo_ldi 2 4)) (mt_l 237 (mo_push 1 (.int 4))))) (mt_n 238 (mt_l 238 (mo_iadd)) (mt_n 239 (mt_l 239 (mo_sld L xs)) (mt_l 240 (mo_lda 1 0)))))) (mt_n 247 (mt_n 244 (mt_n 241 (mt_l 241 (mo_ldi 2 4)) (mt_n 243 (mt_l 243 (mo_push 1 (.int 5))) (mt_l 244 (mo_iadd)))) (mt_n 245 (mt_l 245 (mo_sld L xs)) (mt_n 246 (mt_l 246 (mo_lda 1 0)) (mt_l 247 (mo_ldi 2 4))))) (mt_n 252 (mt_n 249 (mt_l 249 (mo_push 2 (.int 6))) (mt_n 251 (mt_l 251 (mo_iadd)) (mt_l 252 (mo_sld L xs)))) (mt_n 253 (mt_l 253 (mo_cv 104 7 11 [])) (mt_n 256 (mt_l 256 (mo_sti 2 6)) (mt_l 258 (mo_lda 1 2))))))) (mt_n 279 (mt_n 269 (mt_n 264 (mt_n 259 (mt_l 259 (mo_cv 96 1 11 [])) (mt_n 262 (mt_l 262 (mo_ldi 2 5)) (mt_l 264 (mo_icmp_eq 269)))) (mt_n 267 (mt_l 267 (mo_push 1 (.int 0))) (mt_n 268 (mt_l 268 (mo_zret)) (mt_l 269 (mo_ldi 2 5))))) (mt_n 275 (mt_n 271 (mt_l 271 (mo_if_ne 286)) (mt_n 274 (mt_l 274 (mo_lda 1 3)) (mt_l 275 (mo_push 1 (.int 0))))) (mt_n 276 (mt_l 276 (mo_aldl)) (mt_n 277 (mt_l 277 (mo_ldi 2 6)) (mt_l 279 (mo_i2l)))))) (mt_n 289 (mt_n 284 (mt_n 280 (mt_l 280 (mo_lcmp)) (mt_n 281 (mt_l 281 (mo_if_eq 286)) (mt_l 284 (mo_push 1 (.int 0))))) (mt_n 285 (mt_l 285 (mo_zret)) (mt_n 286 (mt_l 286 (mo_go 1156)) (mt_l 289 (mo_lda 1 1))))) (mt_n 293 (mt_n 290 (mt_l 290 (mo_lda 1 0)) (mt_n 291 (mt_l 291 (mo_ldi 2 4)) (mt_l 293 (mo_push 1 (.int 1))))) (mt_n 294 (mt_l 294 (mo_iadd)) (mt_n 295 (mt_l 295 (mo_sld L xs)) (mt_l 296 (mo_if_eq 303)))))))
set_option maxRecDepth 20000 in
theorem vb_law_2 (L : Nat) (xs : Nat → Int32) : mt_V (mi_L_law L xs) (tb_law_2 L xs) := mt_Vn (mt_Vn (mt_Vn (mt_Vn (mt_Vn (mt_Vl (sn_sld dl_227 (fun _ _ _ h => h))) (mt_Vn (mt_Vl (sn_aload_n (k := 0) dl_228 rfl)) (mt_Vl (sn_iload dl_229)))) (mt_Vn (mt_Vl (sn_iconst (n := 3) dl_231 (by first | decide | (show _ < 9; decide)))) (mt_Vn (mt_Vl (sn_iadd dl_232)) (mt_Vl (sn_sld dl_233 (fun _ _ _ h => h)))))) (mt_Vn (mt_Vn (mt_Vl (sn_aload_n (k := 0) dl_234 rfl)) (mt_Vn (mt_Vl (sn_iload dl_235)) (mt_Vl (sn_iconst (n := 4) dl_237 (by first | decide | (show _ < 9; decide)))))) (mt_Vn (mt_Vl (sn_iadd dl_238)) (mt_Vn (mt_Vl (sn_sld dl_239 (fun _ _ _ h => h))) (mt_Vl (sn_aload_n (k := 0) dl_240 rfl)))))) (mt_Vn (mt_Vn (mt_Vn (mt_Vl (sn_iload dl_241)) (mt_Vn (mt_Vl (sn_iconst (n := 5) dl_243 (by first | decide | (show _ < 9; decide)))) (mt_Vl (sn_iadd dl_244)))) (mt_Vn (mt_Vl (sn_sld dl_245 (fun _ _ _ h => h))) (mt_Vn (mt_Vl (sn_aload_n (k := 0) dl_246 rfl)) (mt_Vl (sn_iload dl_247))))) (mt_Vn (mt_Vn (mt_Vl (sn_bipush (n := 6) dl_249 (by first | decide | (show _ < 9; decide)))) (mt_Vn (mt_Vl (sn_iadd dl_251)) (mt_Vl (sn_sld dl_252 (fun _ _ _ h => h))))) (mt_Vn (mt_Vl (sn_cv dl_253 rfl gw_1082 gw_1079 gw_1080 gw_1081 gw_65 rfl (by decide +kernel) (by first | decide | (show _ < 9; decide)) (Or.inl ⟨rfl, rfl⟩))) (mt_Vn (mt_Vl (sn_istore dl_256 (by first | decide | (show _ < 9; decide)))) (mt_Vl (sn_aload_n (k := 2) dl_258 rfl))))))) (mt_Vn (mt_Vn (mt_Vn (mt_Vn (mt_Vl (sn_cv dl_259 rfl gw_1065 gw_1062 gw_1063 gw_1064 gw_65 rfl (by decide +kernel) (by first | decide | (show _ < 9; decide)) (Or.inl ⟨rfl, rfl⟩))) (mt_Vn (mt_Vl (sn_iload dl_262)) (mt_Vl (sn_icmp_eq (off := 5) dl_264 (by first | decide | (show _ < 9; decide)))))) (mt_Vn (mt_Vl (sn_iconst (n := 0) dl_267 (by first | decide | (show _ < 9; decide)))) (mt_Vn (mt_Vl (sn_zreturn dl_268 rfl)) (mt_Vl (sn_iload dl_269))))) (mt_Vn (mt_Vn (mt_Vl (sn_if_ne (off := 15) dl_271 (by first | decide | (show _ < 9; decide)))) (mt_Vn (mt_Vl (sn_aload_n (k := 3) dl_274 rfl)) (mt_Vl (sn_iconst (n := 0) dl_275 (by first | decide | (show _ < 9; decide)))))) (mt_Vn (mt_Vl (sn_laload dl_276)) (mt_Vn (mt_Vl (sn_iload dl_277)) (mt_Vl (sn_i2l dl_279)))))) (mt_Vn (mt_Vn (mt_Vn (mt_Vl (sn_lcmp dl_280)) (mt_Vn (mt_Vl (sn_if_eq (off := 5) dl_281 (by first | decide | (show _ < 9; decide)))) (mt_Vl (sn_iconst (n := 0) dl_284 (by first | decide | (show _ < 9; decide)))))) (mt_Vn (mt_Vl (sn_zreturn dl_285 rfl)) (mt_Vn (mt_Vl (sn_goto (off := 870) dl_286 (by first | decide | (show _ < 9; decide)))) (mt_Vl (sn_aload_n (k := 1) dl_289 rfl))))) (mt_Vn (mt_Vn (mt_Vl (sn_aload_n (k := 0) dl_290 rfl)) (mt_Vn (mt_Vl (sn_iload dl_291)) (mt_Vl (sn_iconst (n := 1) dl_293 (by first | decide | (show _ < 9; decide)))))) (mt_Vn (mt_Vl (sn_iadd dl_294)) (mt_Vn (mt_Vl (sn_sld dl_295 (fun _ _ _ h => h))) (mt_Vl (sn_if_eq (off := 7) dl_296 (by first | decide | (show _ < 9; decide)))))))))
def tb_law_3 (L : Nat) (xs : Nat → Int32) : Nat → Option mm_O := mt_n 332 (mt_n 314 (mt_n 307 (mt_n 303 (mt_n 299 (mt_l 299 (mo_push 1 (.int 1))) (mt_n 300 (mt_l 300 (mo_go 304)) (mt_l 303 (mo_push 1 (.int 0))))) (mt_n 304 (mt_l 304 (mo_lda 1 0)) (mt_n 305 (mt_l 305 (mo_ldi 2 4)) (mt_l 307 (mo_push 1 (.int 2)))))) (mt_n 310 (mt_n 308 (mt_l 308 (mo_iadd)) (mt_n 309 (mt_l 309 (mo_sld L xs)) (mt_l 310 (mo_lda 1 0)))) (mt_n 311 (mt_l 311 (mo_ldi 2 4)) (mt_n 313 (mt_l 313 (mo_push 1 (.int 3))) (mt_l 314 (mo_iadd)))))) (mt_n 323 (mt_n 317 (mt_n 315 (mt_l 315 (mo_sld L xs)) (mt_n 316 (mt_l 316 (mo_lda 1 3)) (mt_l 317 (mo_sn 151 5)))) (mt_n 320 (mt_l 320 (mo_sti 2 5)) (mt_n 322 (mt_l 322 (mo_lda 1 2)) (mt_l 323 (mo_lda 1 0))))) (mt_n 327 (mt_n 324 (mt_l 324 (mo_ldi 2 4)) (mt_n 326 (mt_l 326 (mo_push 1 (.int 1))) (mt_l 327 (mo_iadd)))) (mt_n 328 (mt_l 328 (mo_sld L xs)) (mt_n 329 (mt_l 329 (mo_if_eq 336)) (mt_l 332 (mo_push 1 (.int 1)))))))) (mt_n 348 (mt_n 341 (mt_n 337 (mt_n 333 (mt_l 333 (mo_go 337)) (mt_n 336 (mt_l 336 (mo_push 1 (.int 0))) (mt_l 337 (mo_lda 1 0)))) (mt_n 338 (mt_l 338 (mo_ldi 2 4)) (mt_n 340 (mt_l 340 (mo_push 1 (.int 2))) (mt_l 341 (mo_iadd))))) (mt_n 344 (mt_n 342 (mt_l 342 (mo_sld L xs)) (mt_n 343 (mt_l 343 (mo_lda 1 0)) (mt_l 344 (mo_ldi 2 4)))) (mt_n 346 (mt_l 346 (mo_push 1 (.int 3))) (mt_n 347 (mt_l 347 (mo_iadd)) (mt_l 348 (mo_sld L xs)))))) (mt_n 360 (mt_n 354 (mt_n 349 (mt_l 349 (mo_cv 105 4 11 [])) (mt_n 352 (mt_l 352 (mo_sti 2 6)) (mt_l 354 (mo_lda 1 2)))) (mt_n 355 (mt_l 355 (mo_cv 96 1 11 [])) (mt_n 358 (mt_l 358 (mo_ldi 2 5)) (mt_l 360 (mo_icmp_eq 365))))) (mt_n 365 (mt_n 363 (mt_l 363 (mo_push 1 (.int 0))) (mt_n 364 (mt_l 364 (mo_zret)) (mt_l 365 (mo_ldi 2 5)))) (mt_n 367 (mt_l 367 (mo_if_ne 382)) (mt_n 370 (mt_l 370 (mo_lda 1 3)) (mt_l 371 (mo_push 1 (.int 0))))))))
set_option maxRecDepth 20000 in
theorem vb_law_3 (L : Nat) (xs : Nat → Int32) : mt_V (mi_L_law L xs) (tb_law_3 L xs) := mt_Vn (mt_Vn (mt_Vn (mt_Vn (mt_Vn (mt_Vl (sn_iconst (n := 1) dl_299 (by first | decide | (show _ < 9; decide)))) (mt_Vn (mt_Vl (sn_goto (off := 4) dl_300 (by first | decide | (show _ < 9; decide)))) (mt_Vl (sn_iconst (n := 0) dl_303 (by first | decide | (show _ < 9; decide)))))) (mt_Vn (mt_Vl (sn_aload_n (k := 0) dl_304 rfl)) (mt_Vn (mt_Vl (sn_iload dl_305)) (mt_Vl (sn_iconst (n := 2) dl_307 (by first | decide | (show _ < 9; decide))))))) (mt_Vn (mt_Vn (mt_Vl (sn_iadd dl_308)) (mt_Vn (mt_Vl (sn_sld dl_309 (fun _ _ _ h => h))) (mt_Vl (sn_aload_n (k := 0) dl_310 rfl)))) (mt_Vn (mt_Vl (sn_iload dl_311)) (mt_Vn (mt_Vl (sn_iconst (n := 3) dl_313 (by first | decide | (show _ < 9; decide)))) (mt_Vl (sn_iadd dl_314)))))) (mt_Vn (mt_Vn (mt_Vn (mt_Vl (sn_sld dl_315 (fun _ _ _ h => h))) (mt_Vn (mt_Vl (sn_aload_n (k := 3) dl_316 rfl)) (mt_Vl (sn_csW dl_317 rfl gw_544 gw_542 gw_543 gw_53 (by decide +kernel) (by first | decide | (show _ < 9; decide)))))) (mt_Vn (mt_Vl (sn_istore dl_320 (by first | decide | (show _ < 9; decide)))) (mt_Vn (mt_Vl (sn_aload_n (k := 2) dl_322 rfl)) (mt_Vl (sn_aload_n (k := 0) dl_323 rfl))))) (mt_Vn (mt_Vn (mt_Vl (sn_iload dl_324)) (mt_Vn (mt_Vl (sn_iconst (n := 1) dl_326 (by first | decide | (show _ < 9; decide)))) (mt_Vl (sn_iadd dl_327)))) (mt_Vn (mt_Vl (sn_sld dl_328 (fun _ _ _ h => h))) (mt_Vn (mt_Vl (sn_if_eq (off := 7) dl_329 (by first | decide | (show _ < 9; decide)))) (mt_Vl (sn_iconst (n := 1) dl_332 (by first | decide | (show _ < 9; decide))))))))) (mt_Vn (mt_Vn (mt_Vn (mt_Vn (mt_Vl (sn_goto (off := 4) dl_333 (by first | decide | (show _ < 9; decide)))) (mt_Vn (mt_Vl (sn_iconst (n := 0) dl_336 (by first | decide | (show _ < 9; decide)))) (mt_Vl (sn_aload_n (k := 0) dl_337 rfl)))) (mt_Vn (mt_Vl (sn_iload dl_338)) (mt_Vn (mt_Vl (sn_iconst (n := 2) dl_340 (by first | decide | (show _ < 9; decide)))) (mt_Vl (sn_iadd dl_341))))) (mt_Vn (mt_Vn (mt_Vl (sn_sld dl_342 (fun _ _ _ h => h))) (mt_Vn (mt_Vl (sn_aload_n (k := 0) dl_343 rfl)) (mt_Vl (sn_iload dl_344)))) (mt_Vn (mt_Vl (sn_iconst (n := 3) dl_346 (by first | decide | (show _ < 9; decide)))) (mt_Vn (mt_Vl (sn_iadd dl_347)) (mt_Vl (sn_sld dl_348 (fun _ _ _ h => h))))))) (mt_Vn (mt_Vn (mt_Vn (mt_Vl (sn_cv dl_349 rfl gw_1098 gw_1095 gw_1096 gw_1097 gw_65 rfl (by decide +kernel) (by first | decide | (show _ < 9; decide)) (Or.inl ⟨rfl, rfl⟩))) (mt_Vn (mt_Vl (sn_istore dl_352 (by first | decide | (show _ < 9; decide)))) (mt_Vl (sn_aload_n (k := 2) dl_354 rfl)))) (mt_Vn (mt_Vl (sn_cv dl_355 rfl gw_1065 gw_1062 gw_1063 gw_1064 gw_65 rfl (by decide +kernel) (by first | decide | (show _ < 9; decide)) (Or.inl ⟨rfl, rfl⟩))) (mt_Vn (mt_Vl (sn_iload dl_358)) (mt_Vl (sn_icmp_eq (off := 5) dl_360 (by first | decide | (show _ < 9; decide))))))) (mt_Vn (mt_Vn (mt_Vl (sn_iconst (n := 0) dl_363 (by first | decide | (show _ < 9; decide)))) (mt_Vn (mt_Vl (sn_zreturn dl_364 rfl)) (mt_Vl (sn_iload dl_365)))) (mt_Vn (mt_Vl (sn_if_ne (off := 15) dl_367 (by first | decide | (show _ < 9; decide)))) (mt_Vn (mt_Vl (sn_aload_n (k := 3) dl_370 rfl)) (mt_Vl (sn_iconst (n := 0) dl_371 (by first | decide | (show _ < 9; decide)))))))))
def tb_law_4 (L : Nat) (xs : Nat → Int32) : Nat → Option mm_O := mt_n 414 (mt_n 390 (mt_n 380 (mt_n 375 (mt_n 372 (mt_l 372 (mo_aldl)) (mt_n 373 (mt_l 373 (mo_ldi 2 6)) (mt_l 375 (mo_i2l)))) (mt_n 376 (mt_l 376 (mo_lcmp)) (mt_n 377 (mt_l 377 (mo_if_eq 382)) (mt_l 380 (mo_push 1 (.int 0)))))) (mt_n 385 (mt_n 381 (mt_l 381 (mo_zret)) (mt_n 382 (mt_l 382 (mo_go 1156)) (mt_l 385 (mo_lda 1 1)))) (mt_n 386 (mt_l 386 (mo_lda 1 3)) (mt_n 387 (mt_l 387 (mo_sn 152 2)) (mt_l 390 (mo_sti 2 5)))))) (mt_n 402 (mt_n 396 (mt_n 392 (mt_l 392 (mo_lda 1 2)) (mt_n 393 (mt_l 393 (mo_cv 106 1 11 [])) (mt_l 396 (mo_sti 2 6)))) (mt_n 398 (mt_l 398 (mo_lda 1 2)) (mt_n 399 (mt_l 399 (mo_cv 96 1 11 [])) (mt_l 402 (mo_ldi 2 5))))) (mt_n 408 (mt_n 404 (mt_l 404 (mo_icmp_eq 409)) (mt_n 407 (mt_l 407 (mo_push 1 (.int 0))) (mt_l 408 (mo_zret)))) (mt_n 409 (mt_l 409 (mo_ldi 2 5)) (mt_n 411 (mt_l 411 (mo_if_ne 426)) (mt_l 414 (mo_lda 1 3))))))) (mt_n 433 (mt_n 421 (mt_n 417 (mt_n 415 (mt_l 415 (mo_push 1 (.int 0))) (mt_n 416 (mt_l 416 (mo_aldl)) (mt_l 417 (mo_ldi 2 6)))) (mt_n 419 (mt_l 419 (mo_i2l)) (mt_n 420 (mt_l 420 (mo_lcmp)) (mt_l 421 (mo_if_eq 426))))) (mt_n 426 (mt_n 424 (mt_l 424 (mo_push 1 (.int 0))) (mt_n 425 (mt_l 425 (mo_zret)) (mt_l 426 (mo_go 1156)))) (mt_n 429 (mt_l 429 (mo_lda 1 1)) (mt_n 430 (mt_l 430 (mo_cv 74 1 10 [])) (mt_l 433 (mo_lda 1 2)))))) (mt_n 443 (mt_n 440 (mt_n 434 (mt_l 434 (mo_cv 107 1 11 [])) (mt_n 437 (mt_l 437 (mo_icmp_eq 1156)) (mt_l 440 (mo_push 1 (.int 0))))) (mt_n 441 (mt_l 441 (mo_zret)) (mt_n 442 (mt_l 442 (mo_lda 1 1)) (mt_l 443 (mo_cv 75 1 10 []))))) (mt_n 450 (mt_n 446 (mt_l 446 (mo_lda 1 2)) (mt_n 447 (mt_l 447 (mo_cv 119 1 11 [])) (mt_l 450 (mo_icmp_eq 1156)))) (mt_n 453 (mt_l 453 (mo_push 1 (.int 0))) (mt_n 454 (mt_l 454 (mo_zret)) (mt_l 455 (mo_lda 1 1)))))))
set_option maxRecDepth 20000 in
theorem vb_law_4 (L : Nat) (xs : Nat → Int32) : mt_V (mi_L_law L xs) (tb_law_4 L xs) := mt_Vn (mt_Vn (mt_Vn (mt_Vn (mt_Vn (mt_Vl (sn_laload dl_372)) (mt_Vn (mt_Vl (sn_iload dl_373)) (mt_Vl (sn_i2l dl_375)))) (mt_Vn (mt_Vl (sn_lcmp dl_376)) (mt_Vn (mt_Vl (sn_if_eq (off := 5) dl_377 (by first | decide | (show _ < 9; decide)))) (mt_Vl (sn_iconst (n := 0) dl_380 (by first | decide | (show _ < 9; decide))))))) (mt_Vn (mt_Vn (mt_Vl (sn_zreturn dl_381 rfl)) (mt_Vn (mt_Vl (sn_goto (off := 774) dl_382 (by first | decide | (show _ < 9; decide)))) (mt_Vl (sn_aload_n (k := 1) dl_385 rfl)))) (mt_Vn (mt_Vl (sn_aload_n (k := 3) dl_386 rfl)) (mt_Vn (mt_Vl (sn_csW dl_387 rfl gw_561 gw_559 gw_560 gw_53 (by decide +kernel) (by first | decide | (show _ < 9; decide)))) (mt_Vl (sn_istore dl_390 (by first | decide | (show _ < 9; decide)))))))) (mt_Vn (mt_Vn (mt_Vn (mt_Vl (sn_aload_n (k := 2) dl_392 rfl)) (mt_Vn (mt_Vl (sn_cv dl_393 rfl gw_1102 gw_1099 gw_1100 gw_1101 gw_65 rfl (by decide +kernel) (by first | decide | (show _ < 9; decide)) (Or.inl ⟨rfl, rfl⟩))) (mt_Vl (sn_istore dl_396 (by first | decide | (show _ < 9; decide)))))) (mt_Vn (mt_Vl (sn_aload_n (k := 2) dl_398 rfl)) (mt_Vn (mt_Vl (sn_cv dl_399 rfl gw_1065 gw_1062 gw_1063 gw_1064 gw_65 rfl (by decide +kernel) (by first | decide | (show _ < 9; decide)) (Or.inl ⟨rfl, rfl⟩))) (mt_Vl (sn_iload dl_402))))) (mt_Vn (mt_Vn (mt_Vl (sn_icmp_eq (off := 5) dl_404 (by first | decide | (show _ < 9; decide)))) (mt_Vn (mt_Vl (sn_iconst (n := 0) dl_407 (by first | decide | (show _ < 9; decide)))) (mt_Vl (sn_zreturn dl_408 rfl)))) (mt_Vn (mt_Vl (sn_iload dl_409)) (mt_Vn (mt_Vl (sn_if_ne (off := 15) dl_411 (by first | decide | (show _ < 9; decide)))) (mt_Vl (sn_aload_n (k := 3) dl_414 rfl))))))) (mt_Vn (mt_Vn (mt_Vn (mt_Vn (mt_Vl (sn_iconst (n := 0) dl_415 (by first | decide | (show _ < 9; decide)))) (mt_Vn (mt_Vl (sn_laload dl_416)) (mt_Vl (sn_iload dl_417)))) (mt_Vn (mt_Vl (sn_i2l dl_419)) (mt_Vn (mt_Vl (sn_lcmp dl_420)) (mt_Vl (sn_if_eq (off := 5) dl_421 (by first | decide | (show _ < 9; decide))))))) (mt_Vn (mt_Vn (mt_Vl (sn_iconst (n := 0) dl_424 (by first | decide | (show _ < 9; decide)))) (mt_Vn (mt_Vl (sn_zreturn dl_425 rfl)) (mt_Vl (sn_goto (off := 730) dl_426 (by first | decide | (show _ < 9; decide)))))) (mt_Vn (mt_Vl (sn_aload_n (k := 1) dl_429 rfl)) (mt_Vn (mt_Vl (sn_cv dl_430 rfl gw_393 gw_390 gw_391 gw_392 gw_54 rfl (by decide +kernel) (by first | decide | (show _ < 9; decide)) (Or.inl ⟨rfl, rfl⟩))) (mt_Vl (sn_aload_n (k := 2) dl_433 rfl)))))) (mt_Vn (mt_Vn (mt_Vn (mt_Vl (sn_cv dl_434 rfl gw_1106 gw_1103 gw_1104 gw_1105 gw_65 rfl (by decide +kernel) (by first | decide | (show _ < 9; decide)) (Or.inl ⟨rfl, rfl⟩))) (mt_Vn (mt_Vl (sn_icmp_eq (off := 719) dl_437 (by first | decide | (show _ < 9; decide)))) (mt_Vl (sn_iconst (n := 0) dl_440 (by first | decide | (show _ < 9; decide)))))) (mt_Vn (mt_Vl (sn_zreturn dl_441 rfl)) (mt_Vn (mt_Vl (sn_aload_n (k := 1) dl_442 rfl)) (mt_Vl (sn_cv dl_443 rfl gw_405 gw_402 gw_403 gw_404 gw_54 rfl (by decide +kernel) (by first | decide | (show _ < 9; decide)) (Or.inl ⟨rfl, rfl⟩)))))) (mt_Vn (mt_Vn (mt_Vl (sn_aload_n (k := 2) dl_446 rfl)) (mt_Vn (mt_Vl (sn_cv dl_447 rfl gw_1140 gw_1137 gw_1138 gw_1139 gw_65 rfl (by decide +kernel) (by first | decide | (show _ < 9; decide)) (Or.inl ⟨rfl, rfl⟩))) (mt_Vl (sn_icmp_eq (off := 706) dl_450 (by first | decide | (show _ < 9; decide)))))) (mt_Vn (mt_Vl (sn_iconst (n := 0) dl_453 (by first | decide | (show _ < 9; decide)))) (mt_Vn (mt_Vl (sn_zreturn dl_454 rfl)) (mt_Vl (sn_aload_n (k := 1) dl_455 rfl)))))))
def tb_law_5 (L : Nat) (xs : Nat → Int32) : Nat → Option mm_O := mt_n 493 (mt_n 472 (mt_n 462 (mt_n 459 (mt_n 456 (mt_l 456 (mo_lda 1 0)) (mt_n 457 (mt_l 457 (mo_ldi 2 4)) (mt_l 459 (mo_push 1 (.int 1))))) (mt_n 460 (mt_l 460 (mo_iadd)) (mt_n 461 (mt_l 461 (mo_sld L xs)) (mt_l 462 (mo_lda 1 3))))) (mt_n 468 (mt_n 463 (mt_l 463 (mo_sn 153 3)) (mt_n 466 (mt_l 466 (mo_sti 2 5)) (mt_l 468 (mo_lda 1 2)))) (mt_n 469 (mt_l 469 (mo_lda 1 0)) (mt_n 470 (mt_l 470 (mo_ldi 2 4)) (mt_l 472 (mo_push 1 (.int 1))))))) (mt_n 481 (mt_n 475 (mt_n 473 (mt_l 473 (mo_iadd)) (mt_n 474 (mt_l 474 (mo_sld L xs)) (mt_l 475 (mo_cv 120 2 11 [])))) (mt_n 478 (mt_l 478 (mo_sti 2 6)) (mt_n 480 (mt_l 480 (mo_lda 1 2)) (mt_l 481 (mo_cv 96 1 11 []))))) (mt_n 489 (mt_n 484 (mt_l 484 (mo_ldi 2 5)) (mt_n 486 (mt_l 486 (mo_icmp_eq 491)) (mt_l 489 (mo_push 1 (.int 0))))) (mt_n 490 (mt_l 490 (mo_zret)) (mt_n 491 (mt_l 491 (mo_ldi 2 5)) (mt_l 493 (mo_if_ne 508))))))) (mt_n 512 (mt_n 502 (mt_n 498 (mt_n 496 (mt_l 496 (mo_lda 1 3)) (mt_n 497 (mt_l 497 (mo_push 1 (.int 0))) (mt_l 498 (mo_aldl)))) (mt_n 499 (mt_l 499 (mo_ldi 2 6)) (mt_n 501 (mt_l 501 (mo_i2l)) (mt_l 502 (mo_lcmp))))) (mt_n 507 (mt_n 503 (mt_l 503 (mo_if_eq 508)) (mt_n 506 (mt_l 506 (mo_push 1 (.int 0))) (mt_l 507 (mo_zret)))) (mt_n 508 (mt_l 508 (mo_go 1156)) (mt_n 511 (mt_l 511 (mo_lda 1 1)) (mt_l 512 (mo_lda 1 0)))))) (mt_n 519 (mt_n 516 (mt_n 513 (mt_l 513 (mo_ldi 2 4)) (mt_n 515 (mt_l 515 (mo_push 1 (.int 1))) (mt_l 516 (mo_iadd)))) (mt_n 517 (mt_l 517 (mo_sld L xs)) (mt_n 518 (mt_l 518 (mo_lda 1 0)) (mt_l 519 (mo_ldi 2 4))))) (mt_n 523 (mt_n 521 (mt_l 521 (mo_push 1 (.int 2))) (mt_n 522 (mt_l 522 (mo_iadd)) (mt_l 523 (mo_sld L xs)))) (mt_n 524 (mt_l 524 (mo_lda 1 3)) (mt_n 525 (mt_l 525 (mo_sn 154 4)) (mt_l 528 (mo_sti 2 5)))))))
set_option maxRecDepth 20000 in
theorem vb_law_5 (L : Nat) (xs : Nat → Int32) : mt_V (mi_L_law L xs) (tb_law_5 L xs) := mt_Vn (mt_Vn (mt_Vn (mt_Vn (mt_Vn (mt_Vl (sn_aload_n (k := 0) dl_456 rfl)) (mt_Vn (mt_Vl (sn_iload dl_457)) (mt_Vl (sn_iconst (n := 1) dl_459 (by first | decide | (show _ < 9; decide)))))) (mt_Vn (mt_Vl (sn_iadd dl_460)) (mt_Vn (mt_Vl (sn_sld dl_461 (fun _ _ _ h => h))) (mt_Vl (sn_aload_n (k := 3) dl_462 rfl))))) (mt_Vn (mt_Vn (mt_Vl (sn_csW dl_463 rfl gw_582 gw_580 gw_581 gw_53 (by decide +kernel) (by first | decide | (show _ < 9; decide)))) (mt_Vn (mt_Vl (sn_istore dl_466 (by first | decide | (show _ < 9; decide)))) (mt_Vl (sn_aload_n (k := 2) dl_468 rfl)))) (mt_Vn (mt_Vl (sn_aload_n (k := 0) dl_469 rfl)) (mt_Vn (mt_Vl (sn_iload dl_470)) (mt_Vl (sn_iconst (n := 1) dl_472 (by first | decide | (show _ < 9; decide)))))))) (mt_Vn (mt_Vn (mt_Vn (mt_Vl (sn_iadd dl_473)) (mt_Vn (mt_Vl (sn_sld dl_474 (fun _ _ _ h => h))) (mt_Vl (sn_cv dl_475 rfl gw_1148 gw_1145 gw_1146 gw_1147 gw_65 rfl (by decide +kernel) (by first | decide | (show _ < 9; decide)) (Or.inl ⟨rfl, rfl⟩))))) (mt_Vn (mt_Vl (sn_istore dl_478 (by first | decide | (show _ < 9; decide)))) (mt_Vn (mt_Vl (sn_aload_n (k := 2) dl_480 rfl)) (mt_Vl (sn_cv dl_481 rfl gw_1065 gw_1062 gw_1063 gw_1064 gw_65 rfl (by decide +kernel) (by first | decide | (show _ < 9; decide)) (Or.inl ⟨rfl, rfl⟩)))))) (mt_Vn (mt_Vn (mt_Vl (sn_iload dl_484)) (mt_Vn (mt_Vl (sn_icmp_eq (off := 5) dl_486 (by first | decide | (show _ < 9; decide)))) (mt_Vl (sn_iconst (n := 0) dl_489 (by first | decide | (show _ < 9; decide)))))) (mt_Vn (mt_Vl (sn_zreturn dl_490 rfl)) (mt_Vn (mt_Vl (sn_iload dl_491)) (mt_Vl (sn_if_ne (off := 15) dl_493 (by first | decide | (show _ < 9; decide))))))))) (mt_Vn (mt_Vn (mt_Vn (mt_Vn (mt_Vl (sn_aload_n (k := 3) dl_496 rfl)) (mt_Vn (mt_Vl (sn_iconst (n := 0) dl_497 (by first | decide | (show _ < 9; decide)))) (mt_Vl (sn_laload dl_498)))) (mt_Vn (mt_Vl (sn_iload dl_499)) (mt_Vn (mt_Vl (sn_i2l dl_501)) (mt_Vl (sn_lcmp dl_502))))) (mt_Vn (mt_Vn (mt_Vl (sn_if_eq (off := 5) dl_503 (by first | decide | (show _ < 9; decide)))) (mt_Vn (mt_Vl (sn_iconst (n := 0) dl_506 (by first | decide | (show _ < 9; decide)))) (mt_Vl (sn_zreturn dl_507 rfl)))) (mt_Vn (mt_Vl (sn_goto (off := 648) dl_508 (by first | decide | (show _ < 9; decide)))) (mt_Vn (mt_Vl (sn_aload_n (k := 1) dl_511 rfl)) (mt_Vl (sn_aload_n (k := 0) dl_512 rfl)))))) (mt_Vn (mt_Vn (mt_Vn (mt_Vl (sn_iload dl_513)) (mt_Vn (mt_Vl (sn_iconst (n := 1) dl_515 (by first | decide | (show _ < 9; decide)))) (mt_Vl (sn_iadd dl_516)))) (mt_Vn (mt_Vl (sn_sld dl_517 (fun _ _ _ h => h))) (mt_Vn (mt_Vl (sn_aload_n (k := 0) dl_518 rfl)) (mt_Vl (sn_iload dl_519))))) (mt_Vn (mt_Vn (mt_Vl (sn_iconst (n := 2) dl_521 (by first | decide | (show _ < 9; decide)))) (mt_Vn (mt_Vl (sn_iadd dl_522)) (mt_Vl (sn_sld dl_523 (fun _ _ _ h => h))))) (mt_Vn (mt_Vl (sn_aload_n (k := 3) dl_524 rfl)) (mt_Vn (mt_Vl (sn_csW dl_525 rfl gw_638 gw_636 gw_637 gw_53 (by decide +kernel) (by first | decide | (show _ < 9; decide)))) (mt_Vl (sn_istore dl_528 (by first | decide | (show _ < 9; decide)))))))))
def tb_law_6 (L : Nat) (xs : Nat → Int32) : Nat → Option mm_O := mt_n 566 (mt_n 543 (mt_n 536 (mt_n 532 (mt_n 530 (mt_l 530 (mo_lda 1 2)) (mt_n 531 (mt_l 531 (mo_lda 1 0)) (mt_l 532 (mo_ldi 2 4)))) (mt_n 534 (mt_l 534 (mo_push 1 (.int 1))) (mt_n 535 (mt_l 535 (mo_iadd)) (mt_l 536 (mo_sld L xs))))) (mt_n 540 (mt_n 537 (mt_l 537 (mo_lda 1 0)) (mt_n 538 (mt_l 538 (mo_ldi 2 4)) (mt_l 540 (mo_push 1 (.int 2))))) (mt_n 541 (mt_l 541 (mo_iadd)) (mt_n 542 (mt_l 542 (mo_sld L xs)) (mt_l 543 (mo_cv 136 3 11 [])))))) (mt_n 557 (mt_n 549 (mt_n 546 (mt_l 546 (mo_sti 2 6)) (mt_n 548 (mt_l 548 (mo_lda 1 2)) (mt_l 549 (mo_cv 96 1 11 [])))) (mt_n 552 (mt_l 552 (mo_ldi 2 5)) (mt_n 554 (mt_l 554 (mo_icmp_eq 559)) (mt_l 557 (mo_push 1 (.int 0)))))) (mt_n 561 (mt_n 558 (mt_l 558 (mo_zret)) (mt_n 559 (mt_l 559 (mo_ldi 2 5)) (mt_l 561 (mo_if_ne 583)))) (mt_n 564 (mt_l 564 (mo_lda 1 3)) (mt_n 565 (mt_l 565 (mo_push 1 (.int 0))) (mt_l 566 (mo_aldl))))))) (mt_n 587 (mt_n 577 (mt_n 572 (mt_n 567 (mt_l 567 (mo_ldi 2 6)) (mt_n 569 (mt_l 569 (mo_if_eq 576)) (mt_l 572 (mo_push 1 (.long 1))))) (mt_n 573 (mt_l 573 (mo_go 577)) (mt_n 576 (mt_l 576 (mo_push 1 (.long 0))) (mt_l 577 (mo_lcmp))))) (mt_n 582 (mt_n 578 (mt_l 578 (mo_if_eq 583)) (mt_n 581 (mt_l 581 (mo_push 1 (.int 0))) (mt_l 582 (mo_zret)))) (mt_n 583 (mt_l 583 (mo_go 1156)) (mt_n 586 (mt_l 586 (mo_lda 1 1)) (mt_l 587 (mo_lda 1 0)))))) (mt_n 594 (mt_n 591 (mt_n 588 (mt_l 588 (mo_ldi 2 4)) (mt_n 590 (mt_l 590 (mo_push 1 (.int 1))) (mt_l 591 (mo_iadd)))) (mt_n 592 (mt_l 592 (mo_sld L xs)) (mt_n 593 (mt_l 593 (mo_lda 1 0)) (mt_l 594 (mo_ldi 2 4))))) (mt_n 598 (mt_n 596 (mt_l 596 (mo_push 1 (.int 2))) (mt_n 597 (mt_l 597 (mo_iadd)) (mt_l 598 (mo_sld L xs)))) (mt_n 599 (mt_l 599 (mo_lda 1 3)) (mt_n 600 (mt_l 600 (mo_sn 155 4)) (mt_l 603 (mo_sti 2 5)))))))
set_option maxRecDepth 20000 in
theorem vb_law_6 (L : Nat) (xs : Nat → Int32) : mt_V (mi_L_law L xs) (tb_law_6 L xs) := mt_Vn (mt_Vn (mt_Vn (mt_Vn (mt_Vn (mt_Vl (sn_aload_n (k := 2) dl_530 rfl)) (mt_Vn (mt_Vl (sn_aload_n (k := 0) dl_531 rfl)) (mt_Vl (sn_iload dl_532)))) (mt_Vn (mt_Vl (sn_iconst (n := 1) dl_534 (by first | decide | (show _ < 9; decide)))) (mt_Vn (mt_Vl (sn_iadd dl_535)) (mt_Vl (sn_sld dl_536 (fun _ _ _ h => h)))))) (mt_Vn (mt_Vn (mt_Vl (sn_aload_n (k := 0) dl_537 rfl)) (mt_Vn (mt_Vl (sn_iload dl_538)) (mt_Vl (sn_iconst (n := 2) dl_540 (by first | decide | (show _ < 9; decide)))))) (mt_Vn (mt_Vl (sn_iadd dl_541)) (mt_Vn (mt_Vl (sn_sld dl_542 (fun _ _ _ h => h))) (mt_Vl (sn_cv dl_543 rfl gw_1156 gw_1153 gw_1154 gw_1155 gw_65 rfl (by decide +kernel) (by first | decide | (show _ < 9; decide)) (Or.inl ⟨rfl, rfl⟩))))))) (mt_Vn (mt_Vn (mt_Vn (mt_Vl (sn_istore dl_546 (by first | decide | (show _ < 9; decide)))) (mt_Vn (mt_Vl (sn_aload_n (k := 2) dl_548 rfl)) (mt_Vl (sn_cv dl_549 rfl gw_1065 gw_1062 gw_1063 gw_1064 gw_65 rfl (by decide +kernel) (by first | decide | (show _ < 9; decide)) (Or.inl ⟨rfl, rfl⟩))))) (mt_Vn (mt_Vl (sn_iload dl_552)) (mt_Vn (mt_Vl (sn_icmp_eq (off := 5) dl_554 (by first | decide | (show _ < 9; decide)))) (mt_Vl (sn_iconst (n := 0) dl_557 (by first | decide | (show _ < 9; decide))))))) (mt_Vn (mt_Vn (mt_Vl (sn_zreturn dl_558 rfl)) (mt_Vn (mt_Vl (sn_iload dl_559)) (mt_Vl (sn_if_ne (off := 22) dl_561 (by first | decide | (show _ < 9; decide)))))) (mt_Vn (mt_Vl (sn_aload_n (k := 3) dl_564 rfl)) (mt_Vn (mt_Vl (sn_iconst (n := 0) dl_565 (by first | decide | (show _ < 9; decide)))) (mt_Vl (sn_laload dl_566))))))) (mt_Vn (mt_Vn (mt_Vn (mt_Vn (mt_Vl (sn_iload dl_567)) (mt_Vn (mt_Vl (sn_if_eq (off := 7) dl_569 (by first | decide | (show _ < 9; decide)))) (mt_Vl (sn_lconst (n := 1) dl_572 (by first | decide | (show _ < 9; decide)))))) (mt_Vn (mt_Vl (sn_goto (off := 4) dl_573 (by first | decide | (show _ < 9; decide)))) (mt_Vn (mt_Vl (sn_lconst (n := 0) dl_576 (by first | decide | (show _ < 9; decide)))) (mt_Vl (sn_lcmp dl_577))))) (mt_Vn (mt_Vn (mt_Vl (sn_if_eq (off := 5) dl_578 (by first | decide | (show _ < 9; decide)))) (mt_Vn (mt_Vl (sn_iconst (n := 0) dl_581 (by first | decide | (show _ < 9; decide)))) (mt_Vl (sn_zreturn dl_582 rfl)))) (mt_Vn (mt_Vl (sn_goto (off := 573) dl_583 (by first | decide | (show _ < 9; decide)))) (mt_Vn (mt_Vl (sn_aload_n (k := 1) dl_586 rfl)) (mt_Vl (sn_aload_n (k := 0) dl_587 rfl)))))) (mt_Vn (mt_Vn (mt_Vn (mt_Vl (sn_iload dl_588)) (mt_Vn (mt_Vl (sn_iconst (n := 1) dl_590 (by first | decide | (show _ < 9; decide)))) (mt_Vl (sn_iadd dl_591)))) (mt_Vn (mt_Vl (sn_sld dl_592 (fun _ _ _ h => h))) (mt_Vn (mt_Vl (sn_aload_n (k := 0) dl_593 rfl)) (mt_Vl (sn_iload dl_594))))) (mt_Vn (mt_Vn (mt_Vl (sn_iconst (n := 2) dl_596 (by first | decide | (show _ < 9; decide)))) (mt_Vn (mt_Vl (sn_iadd dl_597)) (mt_Vl (sn_sld dl_598 (fun _ _ _ h => h))))) (mt_Vn (mt_Vl (sn_aload_n (k := 3) dl_599 rfl)) (mt_Vn (mt_Vl (sn_csW dl_600 rfl gw_842 gw_840 gw_841 gw_53 (by decide +kernel) (by first | decide | (show _ < 9; decide)))) (mt_Vl (sn_istore dl_603 (by first | decide | (show _ < 9; decide)))))))))
def tb_law_7 (L : Nat) (xs : Nat → Int32) : Nat → Option mm_O := mt_n 641 (mt_n 618 (mt_n 611 (mt_n 607 (mt_n 605 (mt_l 605 (mo_lda 1 2)) (mt_n 606 (mt_l 606 (mo_lda 1 0)) (mt_l 607 (mo_ldi 2 4)))) (mt_n 609 (mt_l 609 (mo_push 1 (.int 1))) (mt_n 610 (mt_l 610 (mo_iadd)) (mt_l 611 (mo_sld L xs))))) (mt_n 615 (mt_n 612 (mt_l 612 (mo_lda 1 0)) (mt_n 613 (mt_l 613 (mo_ldi 2 4)) (mt_l 615 (mo_push 1 (.int 2))))) (mt_n 616 (mt_l 616 (mo_iadd)) (mt_n 617 (mt_l 617 (mo_sld L xs)) (mt_l 618 (mo_cv 137 3 11 [])))))) (mt_n 632 (mt_n 624 (mt_n 621 (mt_l 621 (mo_sti 2 6)) (mt_n 623 (mt_l 623 (mo_lda 1 2)) (mt_l 624 (mo_cv 96 1 11 [])))) (mt_n 627 (mt_l 627 (mo_ldi 2 5)) (mt_n 629 (mt_l 629 (mo_icmp_eq 634)) (mt_l 632 (mo_push 1 (.int 0)))))) (mt_n 636 (mt_n 633 (mt_l 633 (mo_zret)) (mt_n 634 (mt_l 634 (mo_ldi 2 5)) (mt_l 636 (mo_if_ne 658)))) (mt_n 639 (mt_l 639 (mo_lda 1 3)) (mt_n 640 (mt_l 640 (mo_push 1 (.int 0))) (mt_l 641 (mo_aldl))))))) (mt_n 662 (mt_n 652 (mt_n 647 (mt_n 642 (mt_l 642 (mo_ldi 2 6)) (mt_n 644 (mt_l 644 (mo_if_eq 651)) (mt_l 647 (mo_push 1 (.long 1))))) (mt_n 648 (mt_l 648 (mo_go 652)) (mt_n 651 (mt_l 651 (mo_push 1 (.long 0))) (mt_l 652 (mo_lcmp))))) (mt_n 657 (mt_n 653 (mt_l 653 (mo_if_eq 658)) (mt_n 656 (mt_l 656 (mo_push 1 (.int 0))) (mt_l 657 (mo_zret)))) (mt_n 658 (mt_l 658 (mo_go 1156)) (mt_n 661 (mt_l 661 (mo_lda 1 1)) (mt_l 662 (mo_lda 1 0)))))) (mt_n 669 (mt_n 666 (mt_n 663 (mt_l 663 (mo_ldi 2 4)) (mt_n 665 (mt_l 665 (mo_push 1 (.int 1))) (mt_l 666 (mo_iadd)))) (mt_n 667 (mt_l 667 (mo_sld L xs)) (mt_n 668 (mt_l 668 (mo_lda 1 0)) (mt_l 669 (mo_ldi 2 4))))) (mt_n 673 (mt_n 671 (mt_l 671 (mo_push 1 (.int 2))) (mt_n 672 (mt_l 672 (mo_iadd)) (mt_l 673 (mo_sld L xs)))) (mt_n 674 (mt_l 674 (mo_if_eq 681)) (mt_n 677 (mt_l 677 (mo_push 1 (.int 1))) (mt_l 678 (mo_go 682)))))))
set_option maxRecDepth 20000 in
theorem vb_law_7 (L : Nat) (xs : Nat → Int32) : mt_V (mi_L_law L xs) (tb_law_7 L xs) := mt_Vn (mt_Vn (mt_Vn (mt_Vn (mt_Vn (mt_Vl (sn_aload_n (k := 2) dl_605 rfl)) (mt_Vn (mt_Vl (sn_aload_n (k := 0) dl_606 rfl)) (mt_Vl (sn_iload dl_607)))) (mt_Vn (mt_Vl (sn_iconst (n := 1) dl_609 (by first | decide | (show _ < 9; decide)))) (mt_Vn (mt_Vl (sn_iadd dl_610)) (mt_Vl (sn_sld dl_611 (fun _ _ _ h => h)))))) (mt_Vn (mt_Vn (mt_Vl (sn_aload_n (k := 0) dl_612 rfl)) (mt_Vn (mt_Vl (sn_iload dl_613)) (mt_Vl (sn_iconst (n := 2) dl_615 (by first | decide | (show _ < 9; decide)))))) (mt_Vn (mt_Vl (sn_iadd dl_616)) (mt_Vn (mt_Vl (sn_sld dl_617 (fun _ _ _ h => h))) (mt_Vl (sn_cv dl_618 rfl gw_1224 gw_1221 gw_1222 gw_1223 gw_65 rfl (by decide +kernel) (by first | decide | (show _ < 9; decide)) (Or.inl ⟨rfl, rfl⟩))))))) (mt_Vn (mt_Vn (mt_Vn (mt_Vl (sn_istore dl_621 (by first | decide | (show _ < 9; decide)))) (mt_Vn (mt_Vl (sn_aload_n (k := 2) dl_623 rfl)) (mt_Vl (sn_cv dl_624 rfl gw_1065 gw_1062 gw_1063 gw_1064 gw_65 rfl (by decide +kernel) (by first | decide | (show _ < 9; decide)) (Or.inl ⟨rfl, rfl⟩))))) (mt_Vn (mt_Vl (sn_iload dl_627)) (mt_Vn (mt_Vl (sn_icmp_eq (off := 5) dl_629 (by first | decide | (show _ < 9; decide)))) (mt_Vl (sn_iconst (n := 0) dl_632 (by first | decide | (show _ < 9; decide))))))) (mt_Vn (mt_Vn (mt_Vl (sn_zreturn dl_633 rfl)) (mt_Vn (mt_Vl (sn_iload dl_634)) (mt_Vl (sn_if_ne (off := 22) dl_636 (by first | decide | (show _ < 9; decide)))))) (mt_Vn (mt_Vl (sn_aload_n (k := 3) dl_639 rfl)) (mt_Vn (mt_Vl (sn_iconst (n := 0) dl_640 (by first | decide | (show _ < 9; decide)))) (mt_Vl (sn_laload dl_641))))))) (mt_Vn (mt_Vn (mt_Vn (mt_Vn (mt_Vl (sn_iload dl_642)) (mt_Vn (mt_Vl (sn_if_eq (off := 7) dl_644 (by first | decide | (show _ < 9; decide)))) (mt_Vl (sn_lconst (n := 1) dl_647 (by first | decide | (show _ < 9; decide)))))) (mt_Vn (mt_Vl (sn_goto (off := 4) dl_648 (by first | decide | (show _ < 9; decide)))) (mt_Vn (mt_Vl (sn_lconst (n := 0) dl_651 (by first | decide | (show _ < 9; decide)))) (mt_Vl (sn_lcmp dl_652))))) (mt_Vn (mt_Vn (mt_Vl (sn_if_eq (off := 5) dl_653 (by first | decide | (show _ < 9; decide)))) (mt_Vn (mt_Vl (sn_iconst (n := 0) dl_656 (by first | decide | (show _ < 9; decide)))) (mt_Vl (sn_zreturn dl_657 rfl)))) (mt_Vn (mt_Vl (sn_goto (off := 498) dl_658 (by first | decide | (show _ < 9; decide)))) (mt_Vn (mt_Vl (sn_aload_n (k := 1) dl_661 rfl)) (mt_Vl (sn_aload_n (k := 0) dl_662 rfl)))))) (mt_Vn (mt_Vn (mt_Vn (mt_Vl (sn_iload dl_663)) (mt_Vn (mt_Vl (sn_iconst (n := 1) dl_665 (by first | decide | (show _ < 9; decide)))) (mt_Vl (sn_iadd dl_666)))) (mt_Vn (mt_Vl (sn_sld dl_667 (fun _ _ _ h => h))) (mt_Vn (mt_Vl (sn_aload_n (k := 0) dl_668 rfl)) (mt_Vl (sn_iload dl_669))))) (mt_Vn (mt_Vn (mt_Vl (sn_iconst (n := 2) dl_671 (by first | decide | (show _ < 9; decide)))) (mt_Vn (mt_Vl (sn_iadd dl_672)) (mt_Vl (sn_sld dl_673 (fun _ _ _ h => h))))) (mt_Vn (mt_Vl (sn_if_eq (off := 7) dl_674 (by first | decide | (show _ < 9; decide)))) (mt_Vn (mt_Vl (sn_iconst (n := 1) dl_677 (by first | decide | (show _ < 9; decide)))) (mt_Vl (sn_goto (off := 4) dl_678 (by first | decide | (show _ < 9; decide)))))))))
def tb_law_8 (L : Nat) (xs : Nat → Int32) : Nat → Option mm_O := mt_n 720 (mt_n 697 (mt_n 689 (mt_n 685 (mt_n 681 (mt_l 681 (mo_push 1 (.int 0))) (mt_n 682 (mt_l 682 (mo_sn 156 3)) (mt_l 685 (mo_sti 2 5)))) (mt_n 687 (mt_l 687 (mo_lda 1 2)) (mt_n 688 (mt_l 688 (mo_lda 1 0)) (mt_l 689 (mo_ldi 2 4))))) (mt_n 693 (mt_n 691 (mt_l 691 (mo_push 1 (.int 1))) (mt_n 692 (mt_l 692 (mo_iadd)) (mt_l 693 (mo_sld L xs)))) (mt_n 694 (mt_l 694 (mo_lda 1 0)) (mt_n 695 (mt_l 695 (mo_ldi 2 4)) (mt_l 697 (mo_push 1 (.int 2))))))) (mt_n 707 (mt_n 700 (mt_n 698 (mt_l 698 (mo_iadd)) (mt_n 699 (mt_l 699 (mo_sld L xs)) (mt_l 700 (mo_if_eq 707)))) (mt_n 703 (mt_l 703 (mo_push 1 (.int 1))) (mt_n 704 (mt_l 704 (mo_go 708)) (mt_l 707 (mo_push 1 (.int 0)))))) (mt_n 712 (mt_n 708 (mt_l 708 (mo_cv 138 3 11 [])) (mt_n 711 (mt_l 711 (mo_lda 1 2)) (mt_l 712 (mo_cv 96 1 11 [])))) (mt_n 715 (mt_l 715 (mo_ldi 2 5)) (mt_n 717 (mt_l 717 (mo_icmp_eq 722)) (mt_l 720 (mo_push 1 (.int 0)))))))) (mt_n 738 (mt_n 729 (mt_n 725 (mt_n 721 (mt_l 721 (mo_zret)) (mt_n 722 (mt_l 722 (mo_go 1156)) (mt_l 725 (mo_lda 1 1)))) (mt_n 726 (mt_l 726 (mo_lda 1 0)) (mt_n 727 (mt_l 727 (mo_ldi 2 4)) (mt_l 729 (mo_push 1 (.int 1)))))) (mt_n 732 (mt_n 730 (mt_l 730 (mo_iadd)) (mt_n 731 (mt_l 731 (mo_sld L xs)) (mt_l 732 (mo_lda 1 3)))) (mt_n 733 (mt_l 733 (mo_sn 157 3)) (mt_n 736 (mt_l 736 (mo_sti 2 5)) (mt_l 738 (mo_lda 1 2)))))) (mt_n 745 (mt_n 742 (mt_n 739 (mt_l 739 (mo_lda 1 0)) (mt_n 740 (mt_l 740 (mo_ldi 2 4)) (mt_l 742 (mo_push 1 (.int 1))))) (mt_n 743 (mt_l 743 (mo_iadd)) (mt_n 744 (mt_l 744 (mo_sld L xs)) (mt_l 745 (mo_cv 142 2 11 []))))) (mt_n 751 (mt_n 748 (mt_l 748 (mo_sti 2 6)) (mt_n 750 (mt_l 750 (mo_lda 1 2)) (mt_l 751 (mo_cv 96 1 11 [])))) (mt_n 754 (mt_l 754 (mo_ldi 2 5)) (mt_n 756 (mt_l 756 (mo_icmp_eq 761)) (mt_l 759 (mo_push 1 (.int 0))))))))
set_option maxRecDepth 20000 in
theorem vb_law_8 (L : Nat) (xs : Nat → Int32) : mt_V (mi_L_law L xs) (tb_law_8 L xs) := mt_Vn (mt_Vn (mt_Vn (mt_Vn (mt_Vn (mt_Vl (sn_iconst (n := 0) dl_681 (by first | decide | (show _ < 9; decide)))) (mt_Vn (mt_Vl (sn_csW dl_682 rfl gw_854 gw_852 gw_853 gw_53 (by decide +kernel) (by first | decide | (show _ < 9; decide)))) (mt_Vl (sn_istore dl_685 (by first | decide | (show _ < 9; decide)))))) (mt_Vn (mt_Vl (sn_aload_n (k := 2) dl_687 rfl)) (mt_Vn (mt_Vl (sn_aload_n (k := 0) dl_688 rfl)) (mt_Vl (sn_iload dl_689))))) (mt_Vn (mt_Vn (mt_Vl (sn_iconst (n := 1) dl_691 (by first | decide | (show _ < 9; decide)))) (mt_Vn (mt_Vl (sn_iadd dl_692)) (mt_Vl (sn_sld dl_693 (fun _ _ _ h => h))))) (mt_Vn (mt_Vl (sn_aload_n (k := 0) dl_694 rfl)) (mt_Vn (mt_Vl (sn_iload dl_695)) (mt_Vl (sn_iconst (n := 2) dl_697 (by first | decide | (show _ < 9; decide)))))))) (mt_Vn (mt_Vn (mt_Vn (mt_Vl (sn_iadd dl_698)) (mt_Vn (mt_Vl (sn_sld dl_699 (fun _ _ _ h => h))) (mt_Vl (sn_if_eq (off := 7) dl_700 (by first | decide | (show _ < 9; decide)))))) (mt_Vn (mt_Vl (sn_iconst (n := 1) dl_703 (by first | decide | (show _ < 9; decide)))) (mt_Vn (mt_Vl (sn_goto (off := 4) dl_704 (by first | decide | (show _ < 9; decide)))) (mt_Vl (sn_iconst (n := 0) dl_707 (by first | decide | (show _ < 9; decide))))))) (mt_Vn (mt_Vn (mt_Vl (sn_cv dl_708 rfl gw_1228 gw_1225 gw_1226 gw_1227 gw_65 rfl (by decide +kernel) (by first | decide | (show _ < 9; decide)) (Or.inl ⟨rfl, rfl⟩))) (mt_Vn (mt_Vl (sn_aload_n (k := 2) dl_711 rfl)) (mt_Vl (sn_cv dl_712 rfl gw_1065 gw_1062 gw_1063 gw_1064 gw_65 rfl (by decide +kernel) (by first | decide | (show _ < 9; decide)) (Or.inl ⟨rfl, rfl⟩))))) (mt_Vn (mt_Vl (sn_iload dl_715)) (mt_Vn (mt_Vl (sn_icmp_eq (off := 5) dl_717 (by first | decide | (show _ < 9; decide)))) (mt_Vl (sn_iconst (n := 0) dl_720 (by first | decide | (show _ < 9; decide))))))))) (mt_Vn (mt_Vn (mt_Vn (mt_Vn (mt_Vl (sn_zreturn dl_721 rfl)) (mt_Vn (mt_Vl (sn_goto (off := 434) dl_722 (by first | decide | (show _ < 9; decide)))) (mt_Vl (sn_aload_n (k := 1) dl_725 rfl)))) (mt_Vn (mt_Vl (sn_aload_n (k := 0) dl_726 rfl)) (mt_Vn (mt_Vl (sn_iload dl_727)) (mt_Vl (sn_iconst (n := 1) dl_729 (by first | decide | (show _ < 9; decide))))))) (mt_Vn (mt_Vn (mt_Vl (sn_iadd dl_730)) (mt_Vn (mt_Vl (sn_sld dl_731 (fun _ _ _ h => h))) (mt_Vl (sn_aload_n (k := 3) dl_732 rfl)))) (mt_Vn (mt_Vl (sn_csW dl_733 rfl gw_866 gw_864 gw_865 gw_53 (by decide +kernel) (by first | decide | (show _ < 9; decide)))) (mt_Vn (mt_Vl (sn_istore dl_736 (by first | decide | (show _ < 9; decide)))) (mt_Vl (sn_aload_n (k := 2) dl_738 rfl)))))) (mt_Vn (mt_Vn (mt_Vn (mt_Vl (sn_aload_n (k := 0) dl_739 rfl)) (mt_Vn (mt_Vl (sn_iload dl_740)) (mt_Vl (sn_iconst (n := 1) dl_742 (by first | decide | (show _ < 9; decide)))))) (mt_Vn (mt_Vl (sn_iadd dl_743)) (mt_Vn (mt_Vl (sn_sld dl_744 (fun _ _ _ h => h))) (mt_Vl (sn_cv dl_745 rfl gw_1236 gw_1233 gw_1234 gw_1235 gw_65 rfl (by decide +kernel) (by first | decide | (show _ < 9; decide)) (Or.inl ⟨rfl, rfl⟩)))))) (mt_Vn (mt_Vn (mt_Vl (sn_istore dl_748 (by first | decide | (show _ < 9; decide)))) (mt_Vn (mt_Vl (sn_aload_n (k := 2) dl_750 rfl)) (mt_Vl (sn_cv dl_751 rfl gw_1065 gw_1062 gw_1063 gw_1064 gw_65 rfl (by decide +kernel) (by first | decide | (show _ < 9; decide)) (Or.inl ⟨rfl, rfl⟩))))) (mt_Vn (mt_Vl (sn_iload dl_754)) (mt_Vn (mt_Vl (sn_icmp_eq (off := 5) dl_756 (by first | decide | (show _ < 9; decide)))) (mt_Vl (sn_iconst (n := 0) dl_759 (by first | decide | (show _ < 9; decide)))))))))
def tb_law_9 (L : Nat) (xs : Nat → Int32) : Nat → Option mm_O := mt_n 795 (mt_n 777 (mt_n 768 (mt_n 763 (mt_n 760 (mt_l 760 (mo_zret)) (mt_n 761 (mt_l 761 (mo_ldi 2 5)) (mt_l 763 (mo_if_ne 778)))) (mt_n 766 (mt_l 766 (mo_lda 1 3)) (mt_n 767 (mt_l 767 (mo_push 1 (.int 0))) (mt_l 768 (mo_aldl))))) (mt_n 772 (mt_n 769 (mt_l 769 (mo_ldi 2 6)) (mt_n 771 (mt_l 771 (mo_i2l)) (mt_l 772 (mo_lcmp)))) (mt_n 773 (mt_l 773 (mo_if_eq 778)) (mt_n 776 (mt_l 776 (mo_push 1 (.int 0))) (mt_l 777 (mo_zret)))))) (mt_n 786 (mt_n 782 (mt_n 778 (mt_l 778 (mo_go 1156)) (mt_n 781 (mt_l 781 (mo_lda 1 1)) (mt_l 782 (mo_lda 1 0)))) (mt_n 783 (mt_l 783 (mo_ldi 2 4)) (mt_n 785 (mt_l 785 (mo_push 1 (.int 1))) (mt_l 786 (mo_iadd))))) (mt_n 789 (mt_n 787 (mt_l 787 (mo_sld L xs)) (mt_n 788 (mt_l 788 (mo_lda 1 3)) (mt_l 789 (mo_sn 158 3)))) (mt_n 792 (mt_l 792 (mo_sti 2 5)) (mt_n 794 (mt_l 794 (mo_lda 1 2)) (mt_l 795 (mo_lda 1 0))))))) (mt_n 816 (mt_n 804 (mt_n 799 (mt_n 796 (mt_l 796 (mo_ldi 2 4)) (mt_n 798 (mt_l 798 (mo_push 1 (.int 1))) (mt_l 799 (mo_iadd)))) (mt_n 800 (mt_l 800 (mo_sld L xs)) (mt_n 801 (mt_l 801 (mo_cv 143 2 11 [])) (mt_l 804 (mo_sti 2 6))))) (mt_n 810 (mt_n 806 (mt_l 806 (mo_lda 1 2)) (mt_n 807 (mt_l 807 (mo_cv 96 1 11 [])) (mt_l 810 (mo_ldi 2 5)))) (mt_n 812 (mt_l 812 (mo_icmp_eq 817)) (mt_n 815 (mt_l 815 (mo_push 1 (.int 0))) (mt_l 816 (mo_zret)))))) (mt_n 825 (mt_n 822 (mt_n 817 (mt_l 817 (mo_ldi 2 5)) (mt_n 819 (mt_l 819 (mo_if_ne 834)) (mt_l 822 (mo_lda 1 3)))) (mt_n 823 (mt_l 823 (mo_push 1 (.int 0))) (mt_n 824 (mt_l 824 (mo_aldl)) (mt_l 825 (mo_ldi 2 6))))) (mt_n 829 (mt_n 827 (mt_l 827 (mo_i2l)) (mt_n 828 (mt_l 828 (mo_lcmp)) (mt_l 829 (mo_if_eq 834)))) (mt_n 832 (mt_l 832 (mo_push 1 (.int 0))) (mt_n 833 (mt_l 833 (mo_zret)) (mt_l 834 (mo_go 1156)))))))
set_option maxRecDepth 20000 in
theorem vb_law_9 (L : Nat) (xs : Nat → Int32) : mt_V (mi_L_law L xs) (tb_law_9 L xs) := mt_Vn (mt_Vn (mt_Vn (mt_Vn (mt_Vn (mt_Vl (sn_zreturn dl_760 rfl)) (mt_Vn (mt_Vl (sn_iload dl_761)) (mt_Vl (sn_if_ne (off := 15) dl_763 (by first | decide | (show _ < 9; decide)))))) (mt_Vn (mt_Vl (sn_aload_n (k := 3) dl_766 rfl)) (mt_Vn (mt_Vl (sn_iconst (n := 0) dl_767 (by first | decide | (show _ < 9; decide)))) (mt_Vl (sn_laload dl_768))))) (mt_Vn (mt_Vn (mt_Vl (sn_iload dl_769)) (mt_Vn (mt_Vl (sn_i2l dl_771)) (mt_Vl (sn_lcmp dl_772)))) (mt_Vn (mt_Vl (sn_if_eq (off := 5) dl_773 (by first | decide | (show _ < 9; decide)))) (mt_Vn (mt_Vl (sn_iconst (n := 0) dl_776 (by first | decide | (show _ < 9; decide)))) (mt_Vl (sn_zreturn dl_777 rfl)))))) (mt_Vn (mt_Vn (mt_Vn (mt_Vl (sn_goto (off := 378) dl_778 (by first | decide | (show _ < 9; decide)))) (mt_Vn (mt_Vl (sn_aload_n (k := 1) dl_781 rfl)) (mt_Vl (sn_aload_n (k := 0) dl_782 rfl)))) (mt_Vn (mt_Vl (sn_iload dl_783)) (mt_Vn (mt_Vl (sn_iconst (n := 1) dl_785 (by first | decide | (show _ < 9; decide)))) (mt_Vl (sn_iadd dl_786))))) (mt_Vn (mt_Vn (mt_Vl (sn_sld dl_787 (fun _ _ _ h => h))) (mt_Vn (mt_Vl (sn_aload_n (k := 3) dl_788 rfl)) (mt_Vl (sn_csW dl_789 rfl gw_889 gw_887 gw_888 gw_53 (by decide +kernel) (by first | decide | (show _ < 9; decide)))))) (mt_Vn (mt_Vl (sn_istore dl_792 (by first | decide | (show _ < 9; decide)))) (mt_Vn (mt_Vl (sn_aload_n (k := 2) dl_794 rfl)) (mt_Vl (sn_aload_n (k := 0) dl_795 rfl))))))) (mt_Vn (mt_Vn (mt_Vn (mt_Vn (mt_Vl (sn_iload dl_796)) (mt_Vn (mt_Vl (sn_iconst (n := 1) dl_798 (by first | decide | (show _ < 9; decide)))) (mt_Vl (sn_iadd dl_799)))) (mt_Vn (mt_Vl (sn_sld dl_800 (fun _ _ _ h => h))) (mt_Vn (mt_Vl (sn_cv dl_801 rfl gw_1252 gw_1249 gw_1250 gw_1251 gw_65 rfl (by decide +kernel) (by first | decide | (show _ < 9; decide)) (Or.inl ⟨rfl, rfl⟩))) (mt_Vl (sn_istore dl_804 (by first | decide | (show _ < 9; decide))))))) (mt_Vn (mt_Vn (mt_Vl (sn_aload_n (k := 2) dl_806 rfl)) (mt_Vn (mt_Vl (sn_cv dl_807 rfl gw_1065 gw_1062 gw_1063 gw_1064 gw_65 rfl (by decide +kernel) (by first | decide | (show _ < 9; decide)) (Or.inl ⟨rfl, rfl⟩))) (mt_Vl (sn_iload dl_810)))) (mt_Vn (mt_Vl (sn_icmp_eq (off := 5) dl_812 (by first | decide | (show _ < 9; decide)))) (mt_Vn (mt_Vl (sn_iconst (n := 0) dl_815 (by first | decide | (show _ < 9; decide)))) (mt_Vl (sn_zreturn dl_816 rfl)))))) (mt_Vn (mt_Vn (mt_Vn (mt_Vl (sn_iload dl_817)) (mt_Vn (mt_Vl (sn_if_ne (off := 15) dl_819 (by first | decide | (show _ < 9; decide)))) (mt_Vl (sn_aload_n (k := 3) dl_822 rfl)))) (mt_Vn (mt_Vl (sn_iconst (n := 0) dl_823 (by first | decide | (show _ < 9; decide)))) (mt_Vn (mt_Vl (sn_laload dl_824)) (mt_Vl (sn_iload dl_825))))) (mt_Vn (mt_Vn (mt_Vl (sn_i2l dl_827)) (mt_Vn (mt_Vl (sn_lcmp dl_828)) (mt_Vl (sn_if_eq (off := 5) dl_829 (by first | decide | (show _ < 9; decide)))))) (mt_Vn (mt_Vl (sn_iconst (n := 0) dl_832 (by first | decide | (show _ < 9; decide)))) (mt_Vn (mt_Vl (sn_zreturn dl_833 rfl)) (mt_Vl (sn_goto (off := 322) dl_834 (by first | decide | (show _ < 9; decide)))))))))
def tb_law_10 (L : Nat) (xs : Nat → Int32) : Nat → Option mm_O := mt_n 870 (mt_n 850 (mt_n 843 (mt_n 839 (mt_n 837 (mt_l 837 (mo_lda 1 1)) (mt_n 838 (mt_l 838 (mo_lda 1 0)) (mt_l 839 (mo_ldi 2 4)))) (mt_n 841 (mt_l 841 (mo_push 1 (.int 1))) (mt_n 842 (mt_l 842 (mo_iadd)) (mt_l 843 (mo_sld L xs))))) (mt_n 847 (mt_n 844 (mt_l 844 (mo_lda 1 0)) (mt_n 845 (mt_l 845 (mo_ldi 2 4)) (mt_l 847 (mo_push 1 (.int 2))))) (mt_n 848 (mt_l 848 (mo_iadd)) (mt_n 849 (mt_l 849 (mo_sld L xs)) (mt_l 850 (mo_if_eq 857)))))) (mt_n 863 (mt_n 857 (mt_n 853 (mt_l 853 (mo_push 1 (.int 1))) (mt_n 854 (mt_l 854 (mo_go 858)) (mt_l 857 (mo_push 1 (.int 0))))) (mt_n 858 (mt_l 858 (mo_sn 159 3)) (mt_n 861 (mt_l 861 (mo_sti 2 5)) (mt_l 863 (mo_lda 1 2))))) (mt_n 867 (mt_n 864 (mt_l 864 (mo_lda 1 0)) (mt_n 865 (mt_l 865 (mo_ldi 2 4)) (mt_l 867 (mo_push 1 (.int 1))))) (mt_n 868 (mt_l 868 (mo_iadd)) (mt_n 869 (mt_l 869 (mo_sld L xs)) (mt_l 870 (mo_lda 1 0))))))) (mt_n 891 (mt_n 879 (mt_n 874 (mt_n 871 (mt_l 871 (mo_ldi 2 4)) (mt_n 873 (mt_l 873 (mo_push 1 (.int 2))) (mt_l 874 (mo_iadd)))) (mt_n 875 (mt_l 875 (mo_sld L xs)) (mt_n 876 (mt_l 876 (mo_if_eq 883)) (mt_l 879 (mo_push 1 (.int 1)))))) (mt_n 884 (mt_n 880 (mt_l 880 (mo_go 884)) (mt_n 883 (mt_l 883 (mo_push 1 (.int 0))) (mt_l 884 (mo_cv 144 3 11 [])))) (mt_n 887 (mt_l 887 (mo_lda 1 2)) (mt_n 888 (mt_l 888 (mo_cv 96 1 11 [])) (mt_l 891 (mo_ldi 2 5)))))) (mt_n 902 (mt_n 897 (mt_n 893 (mt_l 893 (mo_icmp_eq 898)) (mt_n 896 (mt_l 896 (mo_push 1 (.int 0))) (mt_l 897 (mo_zret)))) (mt_n 898 (mt_l 898 (mo_go 1156)) (mt_n 901 (mt_l 901 (mo_lda 1 1)) (mt_l 902 (mo_cv 83 1 10 []))))) (mt_n 909 (mt_n 905 (mt_l 905 (mo_lda 1 2)) (mt_n 906 (mt_l 906 (mo_cv 145 1 11 [])) (mt_l 909 (mo_icmp_eq 1156)))) (mt_n 912 (mt_l 912 (mo_push 1 (.int 0))) (mt_n 913 (mt_l 913 (mo_zret)) (mt_l 914 (mo_lda 1 1)))))))
set_option maxRecDepth 20000 in
theorem vb_law_10 (L : Nat) (xs : Nat → Int32) : mt_V (mi_L_law L xs) (tb_law_10 L xs) := mt_Vn (mt_Vn (mt_Vn (mt_Vn (mt_Vn (mt_Vl (sn_aload_n (k := 1) dl_837 rfl)) (mt_Vn (mt_Vl (sn_aload_n (k := 0) dl_838 rfl)) (mt_Vl (sn_iload dl_839)))) (mt_Vn (mt_Vl (sn_iconst (n := 1) dl_841 (by first | decide | (show _ < 9; decide)))) (mt_Vn (mt_Vl (sn_iadd dl_842)) (mt_Vl (sn_sld dl_843 (fun _ _ _ h => h)))))) (mt_Vn (mt_Vn (mt_Vl (sn_aload_n (k := 0) dl_844 rfl)) (mt_Vn (mt_Vl (sn_iload dl_845)) (mt_Vl (sn_iconst (n := 2) dl_847 (by first | decide | (show _ < 9; decide)))))) (mt_Vn (mt_Vl (sn_iadd dl_848)) (mt_Vn (mt_Vl (sn_sld dl_849 (fun _ _ _ h => h))) (mt_Vl (sn_if_eq (off := 7) dl_850 (by first | decide | (show _ < 9; decide)))))))) (mt_Vn (mt_Vn (mt_Vn (mt_Vl (sn_iconst (n := 1) dl_853 (by first | decide | (show _ < 9; decide)))) (mt_Vn (mt_Vl (sn_goto (off := 4) dl_854 (by first | decide | (show _ < 9; decide)))) (mt_Vl (sn_iconst (n := 0) dl_857 (by first | decide | (show _ < 9; decide)))))) (mt_Vn (mt_Vl (sn_csW dl_858 rfl gw_900 gw_898 gw_899 gw_53 (by decide +kernel) (by first | decide | (show _ < 9; decide)))) (mt_Vn (mt_Vl (sn_istore dl_861 (by first | decide | (show _ < 9; decide)))) (mt_Vl (sn_aload_n (k := 2) dl_863 rfl))))) (mt_Vn (mt_Vn (mt_Vl (sn_aload_n (k := 0) dl_864 rfl)) (mt_Vn (mt_Vl (sn_iload dl_865)) (mt_Vl (sn_iconst (n := 1) dl_867 (by first | decide | (show _ < 9; decide)))))) (mt_Vn (mt_Vl (sn_iadd dl_868)) (mt_Vn (mt_Vl (sn_sld dl_869 (fun _ _ _ h => h))) (mt_Vl (sn_aload_n (k := 0) dl_870 rfl))))))) (mt_Vn (mt_Vn (mt_Vn (mt_Vn (mt_Vl (sn_iload dl_871)) (mt_Vn (mt_Vl (sn_iconst (n := 2) dl_873 (by first | decide | (show _ < 9; decide)))) (mt_Vl (sn_iadd dl_874)))) (mt_Vn (mt_Vl (sn_sld dl_875 (fun _ _ _ h => h))) (mt_Vn (mt_Vl (sn_if_eq (off := 7) dl_876 (by first | decide | (show _ < 9; decide)))) (mt_Vl (sn_iconst (n := 1) dl_879 (by first | decide | (show _ < 9; decide))))))) (mt_Vn (mt_Vn (mt_Vl (sn_goto (off := 4) dl_880 (by first | decide | (show _ < 9; decide)))) (mt_Vn (mt_Vl (sn_iconst (n := 0) dl_883 (by first | decide | (show _ < 9; decide)))) (mt_Vl (sn_cv dl_884 rfl gw_1256 gw_1253 gw_1254 gw_1255 gw_65 rfl (by decide +kernel) (by first | decide | (show _ < 9; decide)) (Or.inl ⟨rfl, rfl⟩))))) (mt_Vn (mt_Vl (sn_aload_n (k := 2) dl_887 rfl)) (mt_Vn (mt_Vl (sn_cv dl_888 rfl gw_1065 gw_1062 gw_1063 gw_1064 gw_65 rfl (by decide +kernel) (by first | decide | (show _ < 9; decide)) (Or.inl ⟨rfl, rfl⟩))) (mt_Vl (sn_iload dl_891)))))) (mt_Vn (mt_Vn (mt_Vn (mt_Vl (sn_icmp_eq (off := 5) dl_893 (by first | decide | (show _ < 9; decide)))) (mt_Vn (mt_Vl (sn_iconst (n := 0) dl_896 (by first | decide | (show _ < 9; decide)))) (mt_Vl (sn_zreturn dl_897 rfl)))) (mt_Vn (mt_Vl (sn_goto (off := 258) dl_898 (by first | decide | (show _ < 9; decide)))) (mt_Vn (mt_Vl (sn_aload_n (k := 1) dl_901 rfl)) (mt_Vl (sn_cv dl_902 rfl gw_417 gw_414 gw_415 gw_416 gw_54 rfl (by decide +kernel) (by first | decide | (show _ < 9; decide)) (Or.inl ⟨rfl, rfl⟩)))))) (mt_Vn (mt_Vn (mt_Vl (sn_aload_n (k := 2) dl_905 rfl)) (mt_Vn (mt_Vl (sn_cv dl_906 rfl gw_1260 gw_1257 gw_1258 gw_1259 gw_65 rfl (by decide +kernel) (by first | decide | (show _ < 9; decide)) (Or.inl ⟨rfl, rfl⟩))) (mt_Vl (sn_icmp_eq (off := 247) dl_909 (by first | decide | (show _ < 9; decide)))))) (mt_Vn (mt_Vl (sn_iconst (n := 0) dl_912 (by first | decide | (show _ < 9; decide)))) (mt_Vn (mt_Vl (sn_zreturn dl_913 rfl)) (mt_Vl (sn_aload_n (k := 1) dl_914 rfl)))))))
def tb_law_11 (L : Nat) (xs : Nat → Int32) : Nat → Option mm_O := mt_n 945 (mt_n 928 (mt_n 921 (mt_n 918 (mt_n 915 (mt_l 915 (mo_lda 1 0)) (mt_n 916 (mt_l 916 (mo_ldi 2 4)) (mt_l 918 (mo_push 1 (.int 1))))) (mt_n 919 (mt_l 919 (mo_iadd)) (mt_n 920 (mt_l 920 (mo_sld L xs)) (mt_l 921 (mo_lda 1 0))))) (mt_n 925 (mt_n 922 (mt_l 922 (mo_ldi 2 4)) (mt_n 924 (mt_l 924 (mo_push 1 (.int 2))) (mt_l 925 (mo_iadd)))) (mt_n 926 (mt_l 926 (mo_sld L xs)) (mt_n 927 (mt_l 927 (mo_lda 1 3)) (mt_l 928 (mo_sn 160 4)))))) (mt_n 938 (mt_n 934 (mt_n 931 (mt_l 931 (mo_sti 2 5)) (mt_n 933 (mt_l 933 (mo_lda 1 2)) (mt_l 934 (mo_lda 1 0)))) (mt_n 935 (mt_l 935 (mo_ldi 2 4)) (mt_n 937 (mt_l 937 (mo_push 1 (.int 1))) (mt_l 938 (mo_iadd))))) (mt_n 941 (mt_n 939 (mt_l 939 (mo_sld L xs)) (mt_n 940 (mt_l 940 (mo_lda 1 0)) (mt_l 941 (mo_ldi 2 4)))) (mt_n 943 (mt_l 943 (mo_push 1 (.int 2))) (mt_n 944 (mt_l 944 (mo_iadd)) (mt_l 945 (mo_sld L xs))))))) (mt_n 968 (mt_n 957 (mt_n 951 (mt_n 946 (mt_l 946 (mo_cv 146 3 11 [])) (mt_n 949 (mt_l 949 (mo_sti 2 6)) (mt_l 951 (mo_lda 1 2)))) (mt_n 952 (mt_l 952 (mo_cv 96 1 11 [])) (mt_n 955 (mt_l 955 (mo_ldi 2 5)) (mt_l 957 (mo_icmp_eq 962))))) (mt_n 962 (mt_n 960 (mt_l 960 (mo_push 1 (.int 0))) (mt_n 961 (mt_l 961 (mo_zret)) (mt_l 962 (mo_ldi 2 5)))) (mt_n 964 (mt_l 964 (mo_if_ne 979)) (mt_n 967 (mt_l 967 (mo_lda 1 3)) (mt_l 968 (mo_push 1 (.int 0))))))) (mt_n 977 (mt_n 972 (mt_n 969 (mt_l 969 (mo_aldl)) (mt_n 970 (mt_l 970 (mo_ldi 2 6)) (mt_l 972 (mo_i2l)))) (mt_n 973 (mt_l 973 (mo_lcmp)) (mt_n 974 (mt_l 974 (mo_if_eq 979)) (mt_l 977 (mo_push 1 (.int 0)))))) (mt_n 982 (mt_n 978 (mt_l 978 (mo_zret)) (mt_n 979 (mt_l 979 (mo_go 1156)) (mt_l 982 (mo_lda 1 1)))) (mt_n 983 (mt_l 983 (mo_lda 1 0)) (mt_n 984 (mt_l 984 (mo_ldi 2 4)) (mt_l 986 (mo_push 1 (.int 1))))))))
set_option maxRecDepth 20000 in
theorem vb_law_11 (L : Nat) (xs : Nat → Int32) : mt_V (mi_L_law L xs) (tb_law_11 L xs) := mt_Vn (mt_Vn (mt_Vn (mt_Vn (mt_Vn (mt_Vl (sn_aload_n (k := 0) dl_915 rfl)) (mt_Vn (mt_Vl (sn_iload dl_916)) (mt_Vl (sn_iconst (n := 1) dl_918 (by first | decide | (show _ < 9; decide)))))) (mt_Vn (mt_Vl (sn_iadd dl_919)) (mt_Vn (mt_Vl (sn_sld dl_920 (fun _ _ _ h => h))) (mt_Vl (sn_aload_n (k := 0) dl_921 rfl))))) (mt_Vn (mt_Vn (mt_Vl (sn_iload dl_922)) (mt_Vn (mt_Vl (sn_iconst (n := 2) dl_924 (by first | decide | (show _ < 9; decide)))) (mt_Vl (sn_iadd dl_925)))) (mt_Vn (mt_Vl (sn_sld dl_926 (fun _ _ _ h => h))) (mt_Vn (mt_Vl (sn_aload_n (k := 3) dl_927 rfl)) (mt_Vl (sn_csW dl_928 rfl gw_914 gw_912 gw_913 gw_53 (by decide +kernel) (by first | decide | (show _ < 9; decide)))))))) (mt_Vn (mt_Vn (mt_Vn (mt_Vl (sn_istore dl_931 (by first | decide | (show _ < 9; decide)))) (mt_Vn (mt_Vl (sn_aload_n (k := 2) dl_933 rfl)) (mt_Vl (sn_aload_n (k := 0) dl_934 rfl)))) (mt_Vn (mt_Vl (sn_iload dl_935)) (mt_Vn (mt_Vl (sn_iconst (n := 1) dl_937 (by first | decide | (show _ < 9; decide)))) (mt_Vl (sn_iadd dl_938))))) (mt_Vn (mt_Vn (mt_Vl (sn_sld dl_939 (fun _ _ _ h => h))) (mt_Vn (mt_Vl (sn_aload_n (k := 0) dl_940 rfl)) (mt_Vl (sn_iload dl_941)))) (mt_Vn (mt_Vl (sn_iconst (n := 2) dl_943 (by first | decide | (show _ < 9; decide)))) (mt_Vn (mt_Vl (sn_iadd dl_944)) (mt_Vl (sn_sld dl_945 (fun _ _ _ h => h)))))))) (mt_Vn (mt_Vn (mt_Vn (mt_Vn (mt_Vl (sn_cv dl_946 rfl gw_1264 gw_1261 gw_1262 gw_1263 gw_65 rfl (by decide +kernel) (by first | decide | (show _ < 9; decide)) (Or.inl ⟨rfl, rfl⟩))) (mt_Vn (mt_Vl (sn_istore dl_949 (by first | decide | (show _ < 9; decide)))) (mt_Vl (sn_aload_n (k := 2) dl_951 rfl)))) (mt_Vn (mt_Vl (sn_cv dl_952 rfl gw_1065 gw_1062 gw_1063 gw_1064 gw_65 rfl (by decide +kernel) (by first | decide | (show _ < 9; decide)) (Or.inl ⟨rfl, rfl⟩))) (mt_Vn (mt_Vl (sn_iload dl_955)) (mt_Vl (sn_icmp_eq (off := 5) dl_957 (by first | decide | (show _ < 9; decide))))))) (mt_Vn (mt_Vn (mt_Vl (sn_iconst (n := 0) dl_960 (by first | decide | (show _ < 9; decide)))) (mt_Vn (mt_Vl (sn_zreturn dl_961 rfl)) (mt_Vl (sn_iload dl_962)))) (mt_Vn (mt_Vl (sn_if_ne (off := 15) dl_964 (by first | decide | (show _ < 9; decide)))) (mt_Vn (mt_Vl (sn_aload_n (k := 3) dl_967 rfl)) (mt_Vl (sn_iconst (n := 0) dl_968 (by first | decide | (show _ < 9; decide)))))))) (mt_Vn (mt_Vn (mt_Vn (mt_Vl (sn_laload dl_969)) (mt_Vn (mt_Vl (sn_iload dl_970)) (mt_Vl (sn_i2l dl_972)))) (mt_Vn (mt_Vl (sn_lcmp dl_973)) (mt_Vn (mt_Vl (sn_if_eq (off := 5) dl_974 (by first | decide | (show _ < 9; decide)))) (mt_Vl (sn_iconst (n := 0) dl_977 (by first | decide | (show _ < 9; decide))))))) (mt_Vn (mt_Vn (mt_Vl (sn_zreturn dl_978 rfl)) (mt_Vn (mt_Vl (sn_goto (off := 177) dl_979 (by first | decide | (show _ < 9; decide)))) (mt_Vl (sn_aload_n (k := 1) dl_982 rfl)))) (mt_Vn (mt_Vl (sn_aload_n (k := 0) dl_983 rfl)) (mt_Vn (mt_Vl (sn_iload dl_984)) (mt_Vl (sn_iconst (n := 1) dl_986 (by first | decide | (show _ < 9; decide)))))))))
def tb_law_12 (L : Nat) (xs : Nat → Int32) : Nat → Option mm_O := mt_n 1019 (mt_n 1002 (mt_n 993 (mt_n 989 (mt_n 987 (mt_l 987 (mo_iadd)) (mt_n 988 (mt_l 988 (mo_sld L xs)) (mt_l 989 (mo_lda 1 0)))) (mt_n 990 (mt_l 990 (mo_ldi 2 4)) (mt_n 992 (mt_l 992 (mo_push 1 (.int 2))) (mt_l 993 (mo_iadd))))) (mt_n 996 (mt_n 994 (mt_l 994 (mo_sld L xs)) (mt_n 995 (mt_l 995 (mo_lda 1 3)) (mt_l 996 (mo_sn 161 4)))) (mt_n 999 (mt_l 999 (mo_sti 2 5)) (mt_n 1001 (mt_l 1001 (mo_lda 1 2)) (mt_l 1002 (mo_lda 1 0)))))) (mt_n 1009 (mt_n 1006 (mt_n 1003 (mt_l 1003 (mo_ldi 2 4)) (mt_n 1005 (mt_l 1005 (mo_push 1 (.int 1))) (mt_l 1006 (mo_iadd)))) (mt_n 1007 (mt_l 1007 (mo_sld L xs)) (mt_n 1008 (mt_l 1008 (mo_lda 1 0)) (mt_l 1009 (mo_ldi 2 4))))) (mt_n 1013 (mt_n 1011 (mt_l 1011 (mo_push 1 (.int 2))) (mt_n 1012 (mt_l 1012 (mo_iadd)) (mt_l 1013 (mo_sld L xs)))) (mt_n 1014 (mt_l 1014 (mo_cv 114 3 11 [])) (mt_n 1017 (mt_l 1017 (mo_sti 2 6)) (mt_l 1019 (mo_lda 1 2))))))) (mt_n 1040 (mt_n 1030 (mt_n 1025 (mt_n 1020 (mt_l 1020 (mo_cv 96 1 11 [])) (mt_n 1023 (mt_l 1023 (mo_ldi 2 5)) (mt_l 1025 (mo_icmp_eq 1030)))) (mt_n 1028 (mt_l 1028 (mo_push 1 (.int 0))) (mt_n 1029 (mt_l 1029 (mo_zret)) (mt_l 1030 (mo_ldi 2 5))))) (mt_n 1036 (mt_n 1032 (mt_l 1032 (mo_if_ne 1054)) (mt_n 1035 (mt_l 1035 (mo_lda 1 3)) (mt_l 1036 (mo_push 1 (.int 0))))) (mt_n 1037 (mt_l 1037 (mo_aldl)) (mt_n 1038 (mt_l 1038 (mo_ldi 2 6)) (mt_l 1040 (mo_if_eq 1047)))))) (mt_n 1052 (mt_n 1047 (mt_n 1043 (mt_l 1043 (mo_push 1 (.long 1))) (mt_n 1044 (mt_l 1044 (mo_go 1048)) (mt_l 1047 (mo_push 1 (.long 0))))) (mt_n 1048 (mt_l 1048 (mo_lcmp)) (mt_n 1049 (mt_l 1049 (mo_if_eq 1054)) (mt_l 1052 (mo_push 1 (.int 0)))))) (mt_n 1057 (mt_n 1053 (mt_l 1053 (mo_zret)) (mt_n 1054 (mt_l 1054 (mo_go 1156)) (mt_l 1057 (mo_lda 1 1)))) (mt_n 1058 (mt_l 1058 (mo_cv 86 1 10 [])) (mt_n 1061 (mt_l 1061 (mo_f2d)) (mt_l 1062 (mo_std 2 5)))))))
set_option maxRecDepth 20000 in
theorem vb_law_12 (L : Nat) (xs : Nat → Int32) : mt_V (mi_L_law L xs) (tb_law_12 L xs) := mt_Vn (mt_Vn (mt_Vn (mt_Vn (mt_Vn (mt_Vl (sn_iadd dl_987)) (mt_Vn (mt_Vl (sn_sld dl_988 (fun _ _ _ h => h))) (mt_Vl (sn_aload_n (k := 0) dl_989 rfl)))) (mt_Vn (mt_Vl (sn_iload dl_990)) (mt_Vn (mt_Vl (sn_iconst (n := 2) dl_992 (by first | decide | (show _ < 9; decide)))) (mt_Vl (sn_iadd dl_993))))) (mt_Vn (mt_Vn (mt_Vl (sn_sld dl_994 (fun _ _ _ h => h))) (mt_Vn (mt_Vl (sn_aload_n (k := 3) dl_995 rfl)) (mt_Vl (sn_csW dl_996 rfl gw_923 gw_921 gw_922 gw_53 (by decide +kernel) (by first | decide | (show _ < 9; decide)))))) (mt_Vn (mt_Vl (sn_istore dl_999 (by first | decide | (show _ < 9; decide)))) (mt_Vn (mt_Vl (sn_aload_n (k := 2) dl_1001 rfl)) (mt_Vl (sn_aload_n (k := 0) dl_1002 rfl)))))) (mt_Vn (mt_Vn (mt_Vn (mt_Vl (sn_iload dl_1003)) (mt_Vn (mt_Vl (sn_iconst (n := 1) dl_1005 (by first | decide | (show _ < 9; decide)))) (mt_Vl (sn_iadd dl_1006)))) (mt_Vn (mt_Vl (sn_sld dl_1007 (fun _ _ _ h => h))) (mt_Vn (mt_Vl (sn_aload_n (k := 0) dl_1008 rfl)) (mt_Vl (sn_iload dl_1009))))) (mt_Vn (mt_Vn (mt_Vl (sn_iconst (n := 2) dl_1011 (by first | decide | (show _ < 9; decide)))) (mt_Vn (mt_Vl (sn_iadd dl_1012)) (mt_Vl (sn_sld dl_1013 (fun _ _ _ h => h))))) (mt_Vn (mt_Vl (sn_cv dl_1014 rfl gw_1110 gw_1107 gw_1108 gw_1109 gw_65 rfl (by decide +kernel) (by first | decide | (show _ < 9; decide)) (Or.inl ⟨rfl, rfl⟩))) (mt_Vn (mt_Vl (sn_istore dl_1017 (by first | decide | (show _ < 9; decide)))) (mt_Vl (sn_aload_n (k := 2) dl_1019 rfl))))))) (mt_Vn (mt_Vn (mt_Vn (mt_Vn (mt_Vl (sn_cv dl_1020 rfl gw_1065 gw_1062 gw_1063 gw_1064 gw_65 rfl (by decide +kernel) (by first | decide | (show _ < 9; decide)) (Or.inl ⟨rfl, rfl⟩))) (mt_Vn (mt_Vl (sn_iload dl_1023)) (mt_Vl (sn_icmp_eq (off := 5) dl_1025 (by first | decide | (show _ < 9; decide)))))) (mt_Vn (mt_Vl (sn_iconst (n := 0) dl_1028 (by first | decide | (show _ < 9; decide)))) (mt_Vn (mt_Vl (sn_zreturn dl_1029 rfl)) (mt_Vl (sn_iload dl_1030))))) (mt_Vn (mt_Vn (mt_Vl (sn_if_ne (off := 22) dl_1032 (by first | decide | (show _ < 9; decide)))) (mt_Vn (mt_Vl (sn_aload_n (k := 3) dl_1035 rfl)) (mt_Vl (sn_iconst (n := 0) dl_1036 (by first | decide | (show _ < 9; decide)))))) (mt_Vn (mt_Vl (sn_laload dl_1037)) (mt_Vn (mt_Vl (sn_iload dl_1038)) (mt_Vl (sn_if_eq (off := 7) dl_1040 (by first | decide | (show _ < 9; decide)))))))) (mt_Vn (mt_Vn (mt_Vn (mt_Vl (sn_lconst (n := 1) dl_1043 (by first | decide | (show _ < 9; decide)))) (mt_Vn (mt_Vl (sn_goto (off := 4) dl_1044 (by first | decide | (show _ < 9; decide)))) (mt_Vl (sn_lconst (n := 0) dl_1047 (by first | decide | (show _ < 9; decide)))))) (mt_Vn (mt_Vl (sn_lcmp dl_1048)) (mt_Vn (mt_Vl (sn_if_eq (off := 5) dl_1049 (by first | decide | (show _ < 9; decide)))) (mt_Vl (sn_iconst (n := 0) dl_1052 (by first | decide | (show _ < 9; decide))))))) (mt_Vn (mt_Vn (mt_Vl (sn_zreturn dl_1053 rfl)) (mt_Vn (mt_Vl (sn_goto (off := 102) dl_1054 (by first | decide | (show _ < 9; decide)))) (mt_Vl (sn_aload_n (k := 1) dl_1057 rfl)))) (mt_Vn (mt_Vl (sn_cv dl_1058 rfl gw_430 gw_427 gw_428 gw_429 gw_54 rfl (by decide +kernel) (by first | decide | (show _ < 9; decide)) (Or.inl ⟨rfl, rfl⟩))) (mt_Vn (mt_Vl (sn_f2d dl_1061)) (mt_Vl (sn_dstore dl_1062 (by first | decide | (show _ < 9; decide)))))))))
def tb_law_13 (L : Nat) (xs : Nat → Int32) : Nat → Option mm_O := mt_n 1105 (mt_n 1084 (mt_n 1073 (mt_n 1068 (mt_n 1064 (mt_l 1064 (mo_lda 1 2)) (mt_n 1065 (mt_l 1065 (mo_cv 148 1 11 [])) (mt_l 1068 (mo_f2d)))) (mt_n 1069 (mt_l 1069 (mo_std 2 7)) (mt_n 1071 (mt_l 1071 (mo_ldd 2 5)) (mt_l 1073 (mo_ldd 2 7))))) (mt_n 1079 (mt_n 1075 (mt_l 1075 (mo_dcmp .l)) (mt_n 1076 (mt_l 1076 (mo_if_eq 1097)) (mt_l 1079 (mo_ldd 2 5)))) (mt_n 1081 (mt_l 1081 (mo_ldd 2 5)) (mt_n 1083 (mt_l 1083 (mo_dcmp .l)) (mt_l 1084 (mo_if_eq 1095)))))) (mt_n 1096 (mt_n 1091 (mt_n 1087 (mt_l 1087 (mo_ldd 2 7)) (mt_n 1089 (mt_l 1089 (mo_ldd 2 7)) (mt_l 1091 (mo_dcmp .l)))) (mt_n 1092 (mt_l 1092 (mo_if_ne 1097)) (mt_n 1095 (mt_l 1095 (mo_push 1 (.int 0))) (mt_l 1096 (mo_zret))))) (mt_n 1101 (mt_n 1097 (mt_l 1097 (mo_go 1156)) (mt_n 1100 (mt_l 1100 (mo_lda 1 1)) (mt_l 1101 (mo_lda 1 0)))) (mt_n 1102 (mt_l 1102 (mo_ldi 2 4)) (mt_n 1104 (mt_l 1104 (mo_push 1 (.int 1))) (mt_l 1105 (mo_iadd))))))) (mt_n 1123 (mt_n 1114 (mt_n 1108 (mt_n 1106 (mt_l 1106 (mo_sld L xs)) (mt_n 1107 (mt_l 1107 (mo_lda 1 3)) (mt_l 1108 (mo_sn 162 3)))) (mt_n 1111 (mt_l 1111 (mo_sti 2 5)) (mt_n 1113 (mt_l 1113 (mo_lda 1 2)) (mt_l 1114 (mo_lda 1 0))))) (mt_n 1118 (mt_n 1115 (mt_l 1115 (mo_ldi 2 4)) (mt_n 1117 (mt_l 1117 (mo_push 1 (.int 1))) (mt_l 1118 (mo_iadd)))) (mt_n 1119 (mt_l 1119 (mo_sld L xs)) (mt_n 1120 (mt_l 1120 (mo_cv 149 2 11 [])) (mt_l 1123 (mo_sti 2 6)))))) (mt_n 1135 (mt_n 1129 (mt_n 1125 (mt_l 1125 (mo_lda 1 2)) (mt_n 1126 (mt_l 1126 (mo_cv 96 1 11 [])) (mt_l 1129 (mo_ldi 2 5)))) (mt_n 1131 (mt_l 1131 (mo_icmp_eq 1136)) (mt_n 1134 (mt_l 1134 (mo_push 1 (.int 0))) (mt_l 1135 (mo_zret))))) (mt_n 1141 (mt_n 1136 (mt_l 1136 (mo_ldi 2 5)) (mt_n 1138 (mt_l 1138 (mo_if_ne 1153)) (mt_l 1141 (mo_lda 1 3)))) (mt_n 1142 (mt_l 1142 (mo_push 1 (.int 0))) (mt_n 1143 (mt_l 1143 (mo_aldl)) (mt_l 1144 (mo_ldi 2 6)))))))
set_option maxRecDepth 20000 in
theorem vb_law_13 (L : Nat) (xs : Nat → Int32) : mt_V (mi_L_law L xs) (tb_law_13 L xs) := mt_Vn (mt_Vn (mt_Vn (mt_Vn (mt_Vn (mt_Vl (sn_aload_n (k := 2) dl_1064 rfl)) (mt_Vn (mt_Vl (sn_cv dl_1065 rfl gw_1268 gw_1265 gw_1266 gw_1267 gw_65 rfl (by decide +kernel) (by first | decide | (show _ < 9; decide)) (Or.inl ⟨rfl, rfl⟩))) (mt_Vl (sn_f2d dl_1068)))) (mt_Vn (mt_Vl (sn_dstore dl_1069 (by first | decide | (show _ < 9; decide)))) (mt_Vn (mt_Vl (sn_dload dl_1071)) (mt_Vl (sn_dload dl_1073))))) (mt_Vn (mt_Vn (mt_Vl (sn_dcmp dl_1075)) (mt_Vn (mt_Vl (sn_if_eq (off := 21) dl_1076 (by first | decide | (show _ < 9; decide)))) (mt_Vl (sn_dload dl_1079)))) (mt_Vn (mt_Vl (sn_dload dl_1081)) (mt_Vn (mt_Vl (sn_dcmp dl_1083)) (mt_Vl (sn_if_eq (off := 11) dl_1084 (by first | decide | (show _ < 9; decide)))))))) (mt_Vn (mt_Vn (mt_Vn (mt_Vl (sn_dload dl_1087)) (mt_Vn (mt_Vl (sn_dload dl_1089)) (mt_Vl (sn_dcmp dl_1091)))) (mt_Vn (mt_Vl (sn_if_ne (off := 5) dl_1092 (by first | decide | (show _ < 9; decide)))) (mt_Vn (mt_Vl (sn_iconst (n := 0) dl_1095 (by first | decide | (show _ < 9; decide)))) (mt_Vl (sn_zreturn dl_1096 rfl))))) (mt_Vn (mt_Vn (mt_Vl (sn_goto (off := 59) dl_1097 (by first | decide | (show _ < 9; decide)))) (mt_Vn (mt_Vl (sn_aload_n (k := 1) dl_1100 rfl)) (mt_Vl (sn_aload_n (k := 0) dl_1101 rfl)))) (mt_Vn (mt_Vl (sn_iload dl_1102)) (mt_Vn (mt_Vl (sn_iconst (n := 1) dl_1104 (by first | decide | (show _ < 9; decide)))) (mt_Vl (sn_iadd dl_1105))))))) (mt_Vn (mt_Vn (mt_Vn (mt_Vn (mt_Vl (sn_sld dl_1106 (fun _ _ _ h => h))) (mt_Vn (mt_Vl (sn_aload_n (k := 3) dl_1107 rfl)) (mt_Vl (sn_csW dl_1108 rfl gw_933 gw_931 gw_932 gw_53 (by decide +kernel) (by first | decide | (show _ < 9; decide)))))) (mt_Vn (mt_Vl (sn_istore dl_1111 (by first | decide | (show _ < 9; decide)))) (mt_Vn (mt_Vl (sn_aload_n (k := 2) dl_1113 rfl)) (mt_Vl (sn_aload_n (k := 0) dl_1114 rfl))))) (mt_Vn (mt_Vn (mt_Vl (sn_iload dl_1115)) (mt_Vn (mt_Vl (sn_iconst (n := 1) dl_1117 (by first | decide | (show _ < 9; decide)))) (mt_Vl (sn_iadd dl_1118)))) (mt_Vn (mt_Vl (sn_sld dl_1119 (fun _ _ _ h => h))) (mt_Vn (mt_Vl (sn_cv dl_1120 rfl gw_1276 gw_1273 gw_1274 gw_1275 gw_65 rfl (by decide +kernel) (by first | decide | (show _ < 9; decide)) (Or.inl ⟨rfl, rfl⟩))) (mt_Vl (sn_istore dl_1123 (by first | decide | (show _ < 9; decide)))))))) (mt_Vn (mt_Vn (mt_Vn (mt_Vl (sn_aload_n (k := 2) dl_1125 rfl)) (mt_Vn (mt_Vl (sn_cv dl_1126 rfl gw_1065 gw_1062 gw_1063 gw_1064 gw_65 rfl (by decide +kernel) (by first | decide | (show _ < 9; decide)) (Or.inl ⟨rfl, rfl⟩))) (mt_Vl (sn_iload dl_1129)))) (mt_Vn (mt_Vl (sn_icmp_eq (off := 5) dl_1131 (by first | decide | (show _ < 9; decide)))) (mt_Vn (mt_Vl (sn_iconst (n := 0) dl_1134 (by first | decide | (show _ < 9; decide)))) (mt_Vl (sn_zreturn dl_1135 rfl))))) (mt_Vn (mt_Vn (mt_Vl (sn_iload dl_1136)) (mt_Vn (mt_Vl (sn_if_ne (off := 15) dl_1138 (by first | decide | (show _ < 9; decide)))) (mt_Vl (sn_aload_n (k := 3) dl_1141 rfl)))) (mt_Vn (mt_Vl (sn_iconst (n := 0) dl_1142 (by first | decide | (show _ < 9; decide)))) (mt_Vn (mt_Vl (sn_laload dl_1143)) (mt_Vl (sn_iload dl_1144)))))))
def tb_law_14 (L : Nat) (xs : Nat → Int32) : Nat → Option mm_O := mt_n 1152 (mt_n 1147 (mt_n 1146 (mt_l 1146 (mo_i2l)) (mt_l 1147 (mo_lcmp))) (mt_n 1148 (mt_l 1148 (mo_if_eq 1153)) (mt_n 1151 (mt_l 1151 (mo_push 1 (.int 0))) (mt_l 1152 (mo_zret))))) (mt_n 1156 (mt_n 1153 (mt_l 1153 (mo_go 1156)) (mt_l 1156 (mo_inc 4 7))) (mt_n 1159 (mt_l 1159 (mo_go 23)) (mt_n 1162 (mt_l 1162 (mo_push 1 (.int 1))) (mt_l 1163 (mo_zret)))))
set_option maxRecDepth 20000 in
theorem vb_law_14 (L : Nat) (xs : Nat → Int32) : mt_V (mi_L_law L xs) (tb_law_14 L xs) := mt_Vn (mt_Vn (mt_Vn (mt_Vl (sn_i2l dl_1146)) (mt_Vl (sn_lcmp dl_1147))) (mt_Vn (mt_Vl (sn_if_eq (off := 5) dl_1148 (by first | decide | (show _ < 9; decide)))) (mt_Vn (mt_Vl (sn_iconst (n := 0) dl_1151 (by first | decide | (show _ < 9; decide)))) (mt_Vl (sn_zreturn dl_1152 rfl))))) (mt_Vn (mt_Vn (mt_Vl (sn_goto (off := 3) dl_1153 (by first | decide | (show _ < 9; decide)))) (mt_Vl (sn_iinc (n := 7) dl_1156 (by first | decide | (show _ < 9; decide)) (by first | decide | (show _ < 9; decide))))) (mt_Vn (mt_Vl (sn_goto (off := (-1136)) dl_1159 (by first | decide | (show _ < 9; decide)))) (mt_Vn (mt_Vl (sn_iconst (n := 1) dl_1162 (by first | decide | (show _ < 9; decide)))) (mt_Vl (sn_zreturn dl_1163 rfl)))))
def tb_L_law (L : Nat) (xs : Nat → Int32) : Nat → Option mm_O := mt_n 603 (mt_n 296 (mt_n 159 (tb_law_0 L xs) (mt_n 226 (tb_law_1 L xs) (tb_law_2 L xs))) (mt_n 455 (mt_n 371 (tb_law_3 L xs) (tb_law_4 L xs)) (mt_n 528 (tb_law_5 L xs) (tb_law_6 L xs)))) (mt_n 914 (mt_n 759 (mt_n 678 (tb_law_7 L xs) (tb_law_8 L xs)) (mt_n 834 (tb_law_9 L xs) (tb_law_10 L xs))) (mt_n 1062 (mt_n 986 (tb_law_11 L xs) (tb_law_12 L xs)) (mt_n 1144 (tb_law_13 L xs) (tb_law_14 L xs))))
theorem vb_L_law (L : Nat) (xs : Nat → Int32) : mt_V (mi_L_law L xs) (tb_L_law L xs) := mt_Vn (mt_Vn (mt_Vn (vb_law_0 L xs) (mt_Vn (vb_law_1 L xs) (vb_law_2 L xs))) (mt_Vn (mt_Vn (vb_law_3 L xs) (vb_law_4 L xs)) (mt_Vn (vb_law_5 L xs) (vb_law_6 L xs)))) (mt_Vn (mt_Vn (mt_Vn (vb_law_7 L xs) (vb_law_8 L xs)) (mt_Vn (vb_law_9 L xs) (vb_law_10 L xs))) (mt_Vn (mt_Vn (vb_law_11 L xs) (vb_law_12 L xs)) (mt_Vn (vb_law_13 L xs) (vb_law_14 L xs))))
def md : Nat → mm_I × (Nat → Option mm_O) := md_n 83 (md_n 41 (md_n 20 (md_n 9 (md_n 4 (md_n 1 (md_n 0 (md_l (mi_X0_init, tb_X0_init)) (md_l (mi_X0_clear, tb_X0_clear))) (md_n 2 (md_l (mi_X0_nextRule, tb_X0_nextRule)) (md_n 3 (md_l (mi_X0_addAccount, tb_X0_addAccount)) (md_l (mi_X0_hasAccount, tb_X0_hasAccount))))) (md_n 6 (md_n 5 (md_l (mi_X0_letsThrough, tb_X0_letsThrough)) (md_l (mi_X1_init, tb_X1_init))) (md_n 7 (md_l (mi_X1_clear, tb_X1_clear)) (md_n 8 (md_l (mi_X1_enter, tb_X1_enter)) (md_l (mi_X1_hearClient, tb_X1_hearClient)))))) (md_n 14 (md_n 11 (md_n 10 (md_l (mi_X1_hearTarget, tb_X1_hearTarget)) (md_l (mi_X1_relay, tb_X1_relay))) (md_n 12 (md_l (mi_X1_begin, tb_X1_begin)) (md_n 13 (md_l (mi_X1_hearGreeting, tb_X1_hearGreeting)) (md_l (mi_X1_answerGreeting, tb_X1_answerGreeting))))) (md_n 17 (md_n 15 (md_l (mi_X1_hearLogin, tb_X1_hearLogin)) (md_n 16 (md_l (mi_X1_hearRequest, tb_X1_hearRequest)) (md_l (mi_X1_judgeRequest, tb_X1_judgeRequest)))) (md_n 18 (md_l (mi_X1_reply, tb_X1_reply)) (md_n 19 (md_l (mi_X1_hearLine, tb_X1_hearLine)) (md_l (mi_X1_judgeLine, tb_X1_judgeLine))))))) (md_n 30 (md_n 25 (md_n 22 (md_n 21 (md_l (mi_X1_tellStatus, tb_X1_tellStatus)) (md_l (mi_X1_endConnecting, tb_X1_endConnecting))) (md_n 23 (md_l (mi_X1_takeForTarget, tb_X1_takeForTarget)) (md_n 24 (md_l (mi_X1_takeForClient, tb_X1_takeForClient)) (md_l (mi_X1_takeFrom, tb_X1_takeFrom))))) (md_n 27 (md_n 26 (md_l (mi_X1_finishSide, tb_X1_finishSide)) (md_l (mi_X1_endIfAllIsDone, tb_X1_endIfAllIsDone))) (md_n 28 (md_l (mi_X1_endsByTick, tb_X1_endsByTick)) (md_n 29 (md_l (mi_X1_mostTicks, tb_X1_mostTicks)) (md_l (mi_X2_init, tb_X2_init)))))) (md_n 35 (md_n 32 (md_n 31 (md_l (mi_X2_clear, tb_X2_clear)) (md_l (mi_X2_aim, tb_X2_aim))) (md_n 33 (md_l (mi_X3_init, tb_X3_init)) (md_n 34 (md_l (mi_X3_clear, tb_X3_clear)) (md_l (mi_X3_read, tb_X3_read))))) (md_n 38 (md_n 36 (md_l (mi_X3_offers, tb_X3_offers)) (md_n 37 (md_l (mi_X4_init, tb_X4_init)) (md_l (mi_X4_clear, tb_X4_clear)))) (md_n 39 (md_l (mi_X4_read, tb_X4_read)) (md_n 40 (md_l (mi_X4_readWord, tb_X4_readWord)) (md_l (mi_X4_readName, tb_X4_readName)))))))) (md_n 62 (md_n 51 (md_n 46 (md_n 43 (md_n 42 (md_l (mi_X4_readPort, tb_X4_readPort)) (md_l (mi_X5_init, tb_X5_init))) (md_n 44 (md_l (mi_X5_clear, tb_X5_clear)) (md_n 45 (md_l (mi_X5_read, tb_X5_read)) (md_l (mi_X6_init, tb_X6_init))))) (md_n 48 (md_n 47 (md_l (mi_X6_clear, tb_X6_clear)) (md_l (mi_X6_isToConnect, tb_X6_isToConnect))) (md_n 49 (md_l (mi_X6_read, tb_X6_read)) (md_n 50 (md_l (mi_X6_readType, tb_X6_readType)) (md_l (mi_X6_goOnToPort, tb_X6_goOnToPort)))))) (md_n 56 (md_n 53 (md_n 52 (md_l (mi_X7_init, tb_X7_init)) (md_l (mi_X7_clear, tb_X7_clear))) (md_n 54 (md_l (mi_X7_put, tb_X7_put)) (md_n 55 (md_l (mi_X7_take, tb_X7_take)) (md_l (mi_X8_init, tb_X8_init))))) (md_n 59 (md_n 57 (md_l (mi_X8_decide, tb_X8_decide)) (md_n 58 (md_l (mi_X8_cover, tb_X8_cover)) (md_l (mi_X8_isMeantFor, tb_X8_isMeantFor)))) (md_n 60 (md_l (mi_X9_init, tb_X9_init)) (md_n 61 (md_l (mi_X9_clear, tb_X9_clear)) (md_l (mi_X9_put, tb_X9_put))))))) (md_n 72 (md_n 67 (md_n 64 (md_n 63 (md_l (mi_X9_copy, tb_X9_copy)) (md_l (mi_X9_firstDot, tb_X9_firstDot))) (md_n 65 (md_l (mi_X9_isSame, tb_X9_isSame)) (md_n 66 (md_l (mi_X9_isOrEndsByDotAnd, tb_X9_isOrEndsByDotAnd)) (md_l (mi_X9_hasOnlyNameParts, tb_X9_hasOnlyNameParts))))) (md_n 69 (md_n 68 (md_l (mi_X9_dottedAddress, tb_X9_dottedAddress)) (md_l (mi_X10_init, tb_X10_init))) (md_n 70 (md_l (mi_X10_type, tb_X10_type)) (md_n 71 (md_l (mi_X10_rule, tb_X10_rule)) (md_l (mi_X10_named, tb_X10_named)))))) (md_n 77 (md_n 74 (md_n 73 (md_l (mi_X10_account, tb_X10_account)) (md_l (mi_X10_forget, tb_X10_forget))) (md_n 75 (md_l (mi_X10_open, tb_X10_open)) (md_n 76 (md_l (mi_X10_free, tb_X10_free)) (md_l (mi_X10_send, tb_X10_send))))) (md_n 80 (md_n 78 (md_l (mi_X10_give, tb_X10_give)) (md_n 79 (md_l (mi_X10_connected, tb_X10_connected)) (md_l (mi_X10_up, tb_X10_up)))) (md_n 81 (md_l (mi_X10_down, tb_X10_down)) (md_n 82 (md_l (mi_X10_finish, tb_X10_finish)) (md_l (mi_X10_tick, tb_X10_tick))))))))) (md_n 125 (md_n 104 (md_n 93 (md_n 88 (md_n 85 (md_n 84 (md_l (mi_X10_about, tb_X10_about)) (md_l (mi_X10_lets, tb_X10_lets))) (md_n 86 (md_l (mi_X10_full, tb_X10_full)) (md_n 87 (md_l (mi_X10_count, tb_X10_count)) (md_l (mi_X10_usedConnections, tb_X10_usedConnections))))) (md_n 90 (md_n 89 (md_l (mi_X10_usedConnection, tb_X10_usedConnection)) (md_l (mi_X10_requireByte, tb_X10_requireByte))) (md_n 91 (md_l (mi_X10_requirePorts, tb_X10_requirePorts)) (md_n 92 (md_l (mi_X10_isSecretLength, tb_X10_isSecretLength)) (md_l (mi_X10_isDigit, tb_X10_isDigit)))))) (md_n 98 (md_n 95 (md_n 94 (md_l (mi_X10_isNamePart, tb_X10_isNamePart)) (md_l (mi_X11_init, tb_X11_init))) (md_n 96 (md_l (mi_X11_thrown, tb_X11_thrown)) (md_n 97 (md_l (mi_X11_refuse, tb_X11_refuse)) (md_l (mi_X11_in, tb_X11_in))))) (md_n 101 (md_n 99 (md_l (mi_X11_isDigit, tb_X11_isDigit)) (md_n 100 (md_l (mi_X11_isNameCharacter, tb_X11_isNameCharacter)) (md_l (mi_X11_type, tb_X11_type)))) (md_n 102 (md_l (mi_X11_isRange, tb_X11_isRange)) (md_n 103 (md_l (mi_X11_addRule, tb_X11_addRule)) (md_l (mi_X11_rule, tb_X11_rule))))))) (md_n 114 (md_n 109 (md_n 106 (md_n 105 (md_l (mi_X11_named, tb_X11_named)) (md_l (mi_X11_account, tb_X11_account))) (md_n 107 (md_l (mi_X11_forget, tb_X11_forget)) (md_n 108 (md_l (mi_X11_nameAt, tb_X11_nameAt)) (md_l (mi_X11_asAddress, tb_X11_asAddress))))) (md_n 111 (md_n 110 (md_l (mi_X11_endsBy, tb_X11_endsBy)) (md_l (mi_X11_meant, tb_X11_meant))) (md_n 112 (md_l (mi_X11_allowed, tb_X11_allowed)) (md_n 113 (md_l (mi_X11_allowedName, tb_X11_allowedName)) (md_l (mi_X11_lets, tb_X11_lets)))))) (md_n 119 (md_n 116 (md_n 115 (md_l (mi_X11_lookAtGoal, tb_X11_lookAtGoal)) (md_l (mi_X11_goalOf, tb_X11_goalOf))) (md_n 117 (md_l (mi_X11_become, tb_X11_become)) (md_n 118 (md_l (mi_X11_isOpen, tb_X11_isOpen)) (md_l (mi_X11_open, tb_X11_open))))) (md_n 122 (md_n 120 (md_l (mi_X11_free, tb_X11_free)) (md_n 121 (md_l (mi_X11_put, tb_X11_put)) (md_l (mi_X11_take, tb_X11_take)))) (md_n 123 (md_l (mi_X11_lay, tb_X11_lay)) (md_n 124 (md_l (mi_X11_reply, tb_X11_reply)) (md_l (mi_X11_status, tb_X11_status)))))))) (md_n 146 (md_n 135 (md_n 130 (md_n 127 (md_n 126 (md_l (mi_X11_keep, tb_X11_keep)) (md_l (mi_X11_greeting, tb_X11_greeting))) (md_n 128 (md_l (mi_X11_choose, tb_X11_choose)) (md_n 129 (md_l (mi_X11_password, tb_X11_password)) (md_l (mi_X11_isAccount, tb_X11_isAccount))))) (md_n 132 (md_n 131 (md_l (mi_X11_enter, tb_X11_enter)) (md_l (mi_X11_request, tb_X11_request))) (md_n 133 (md_l (mi_X11_requested, tb_X11_requested)) (md_n 134 (md_l (mi_X11_text, tb_X11_text)) (md_l (mi_X11_texted, tb_X11_texted)))))) (md_n 140 (md_n 137 (md_n 136 (md_l (mi_X11_send, tb_X11_send)) (md_l (mi_X11_give, tb_X11_give))) (md_n 138 (md_l (mi_X11_connected, tb_X11_connected)) (md_n 139 (md_l (mi_X11_answer, tb_X11_answer)) (md_l (mi_X11_settle, tb_X11_settle))))) (md_n 143 (md_n 141 (md_l (mi_X11_out, tb_X11_out)) (md_n 142 (md_l (mi_X11_up, tb_X11_up)) (md_l (mi_X11_down, tb_X11_down)))) (md_n 144 (md_l (mi_X11_finish, tb_X11_finish)) (md_n 145 (md_l (mi_X11_tick, tb_X11_tick)) (md_l (mi_X11_about, tb_X11_about))))))) (md_n 156 (md_n 151 (md_n 148 (md_n 147 (md_l (mi_X11_opened, tb_X11_opened)) (md_l (mi_X11_full, tb_X11_full))) (md_n 149 (md_l (mi_X11_count, tb_X11_count)) (md_n 150 (md_l (mi_L_rule, tb_L_rule)) (md_l (mi_L_named, tb_L_named))))) (md_n 153 (md_n 152 (md_l (mi_L_account, tb_L_account)) (md_l (mi_L_free, tb_L_free))) (md_n 154 (md_l (mi_L_send, tb_L_send)) (md_n 155 (md_l (mi_L_give, tb_L_give)) (md_l (mi_L_connected, tb_L_connected)))))) (md_n 161 (md_n 158 (md_n 157 (md_l (mi_L_up, tb_L_up)) (md_l (mi_L_down, tb_L_down))) (md_n 159 (md_l (mi_L_finish, tb_L_finish)) (md_n 160 (md_l (mi_L_about, tb_L_about)) (md_l (mi_L_lets, tb_L_lets))))) (md_n 164 (md_n 162 (md_l (mi_L_count, tb_L_count)) (md_n 163 (md_l (mi_J0_length_8abf5, tb_J0_length_8abf5)) (md_l (mi_J0_charAt_5068e, tb_J0_charAt_5068e)))) (md_n 165 (md_l (mi_J0_coder_7d493, tb_J0_coder_7d493)) (md_n 166 (md_l (mi_J0_isLatin1_aae02, tb_J0_isLatin1_aae02)) (md_l (mi_J1_charAt_3b067, tb_J1_charAt_3b067)))))))))
theorem vd_X0_init : mm_Vd (yX0_init, .code yX0_init cX0_init 2 none) (mi_X0_init, tb_X0_init) := ⟨gw_89, by decide +kernel, rfl, rfl, fun _ _ _ => trivial, Or.inl ⟨rfl, rfl⟩, vb_X0_init⟩
theorem vd_X0_clear : mm_Vd (yX0_clear, .code yX0_clear cX0_clear 1 none) (mi_X0_clear, tb_X0_clear) := ⟨gw_397, by decide +kernel, rfl, rfl, fun _ _ _ => trivial, Or.inl ⟨rfl, rfl⟩, vb_X0_clear⟩
theorem vd_X0_nextRule : mm_Vd (yX0_nextRule, .code yX0_nextRule cX0_nextRule 2 (some (.object "TunnelDesk$Rule"))) (mi_X0_nextRule, tb_X0_nextRule) := ⟨gw_517, by decide +kernel, rfl, rfl, fun _ _ _ => trivial, Or.inl ⟨rfl, rfl⟩, vb_X0_nextRule⟩
theorem vd_X0_addAccount : mm_Vd (yX0_addAccount, .code yX0_addAccount cX0_addAccount 3 none) (mi_X0_addAccount, tb_X0_addAccount) := ⟨gw_577, by decide +kernel, rfl, rfl, fun _ _ _ => trivial, Or.inl ⟨rfl, rfl⟩, vb_X0_addAccount⟩
theorem vd_X0_hasAccount : mm_Vd (yX0_hasAccount, .code yX0_hasAccount cX0_hasAccount 4 (some .boolean)) (mi_X0_hasAccount, tb_X0_hasAccount) := ⟨gw_800, by decide +kernel, rfl, rfl, fun _ _ _ => trivial, Or.inl ⟨rfl, rfl⟩, vb_X0_hasAccount⟩
theorem vd_X0_letsThrough : mm_Vd (yX0_letsThrough, .code yX0_letsThrough cX0_letsThrough 3 (some .boolean)) (mi_X0_letsThrough, tb_X0_letsThrough) := ⟨gw_762, by decide +kernel, rfl, rfl, fun _ _ _ => trivial, Or.inl ⟨rfl, rfl⟩, vb_X0_letsThrough⟩
theorem vd_X1_init : mm_Vd (yX1_init, .code yX1_init cX1_init 2 none) (mi_X1_init, tb_X1_init) := ⟨gw_194, by decide +kernel, rfl, rfl, fun _ _ _ => trivial, Or.inl ⟨rfl, rfl⟩, vb_X1_init⟩
theorem vd_X1_clear : mm_Vd (yX1_clear, .code yX1_clear cX1_clear 1 none) (mi_X1_clear, tb_X1_clear) := ⟨gw_611, by decide +kernel, rfl, rfl, fun _ _ _ => trivial, Or.inl ⟨rfl, rfl⟩, vb_X1_clear⟩
theorem vd_X1_enter : mm_Vd (yX1_enter, .code yX1_enter cX1_enter 2 none) (mi_X1_enter, tb_X1_enter) := ⟨gw_409, by decide +kernel, rfl, rfl, fun _ _ _ => trivial, Or.inl ⟨rfl, rfl⟩, vb_X1_enter⟩
theorem vd_X1_hearClient : mm_Vd (yX1_hearClient, .code yX1_hearClient cX1_hearClient 2 (some .boolean)) (mi_X1_hearClient, tb_X1_hearClient) := ⟨gw_653, by decide +kernel, rfl, rfl, fun _ _ _ => trivial, Or.inl ⟨rfl, rfl⟩, vb_X1_hearClient⟩
theorem vd_X1_hearTarget : mm_Vd (yX1_hearTarget, .code yX1_hearTarget cX1_hearTarget 2 (some .boolean)) (mi_X1_hearTarget, tb_X1_hearTarget) := ⟨gw_851, by decide +kernel, rfl, rfl, fun _ _ _ => trivial, Or.inl ⟨rfl, rfl⟩, vb_X1_hearTarget⟩
theorem vd_X1_relay : mm_Vd (yX1_relay, .code yX1_relay cX1_relay 3 (some .boolean)) (mi_X1_relay, tb_X1_relay) := ⟨gw_657, by decide +kernel, rfl, rfl, fun _ _ _ => trivial, Or.inl ⟨rfl, rfl⟩, vb_X1_relay⟩
theorem vd_X1_begin : mm_Vd (yX1_begin, .code yX1_begin cX1_begin 2 none) (mi_X1_begin, tb_X1_begin) := ⟨gw_665, by decide +kernel, rfl, rfl, fun _ _ _ => trivial, Or.inl ⟨rfl, rfl⟩, vb_X1_begin⟩
theorem vd_X1_hearGreeting : mm_Vd (yX1_hearGreeting, .code yX1_hearGreeting cX1_hearGreeting 3 none) (mi_X1_hearGreeting, tb_X1_hearGreeting) := ⟨gw_774, by decide +kernel, rfl, rfl, fun _ _ _ => trivial, Or.inl ⟨rfl, rfl⟩, vb_X1_hearGreeting⟩
theorem vd_X1_answerGreeting : mm_Vd (yX1_answerGreeting, .code yX1_answerGreeting cX1_answerGreeting 3 none) (mi_X1_answerGreeting, tb_X1_answerGreeting) := ⟨gw_782, by decide +kernel, rfl, rfl, fun _ _ _ => trivial, Or.inl ⟨rfl, rfl⟩, vb_X1_answerGreeting⟩
theorem vd_X1_hearLogin : mm_Vd (yX1_hearLogin, .code yX1_hearLogin cX1_hearLogin 4 none) (mi_X1_hearLogin, tb_X1_hearLogin) := ⟨gw_790, by decide +kernel, rfl, rfl, fun _ _ _ => trivial, Or.inl ⟨rfl, rfl⟩, vb_X1_hearLogin⟩
theorem vd_X1_hearRequest : mm_Vd (yX1_hearRequest, .code yX1_hearRequest cX1_hearRequest 3 none) (mi_X1_hearRequest, tb_X1_hearRequest) := ⟨gw_809, by decide +kernel, rfl, rfl, fun _ _ _ => trivial, Or.inl ⟨rfl, rfl⟩, vb_X1_hearRequest⟩
theorem vd_X1_judgeRequest : mm_Vd (yX1_judgeRequest, .code yX1_judgeRequest cX1_judgeRequest 1 none) (mi_X1_judgeRequest, tb_X1_judgeRequest) := ⟨gw_830, by decide +kernel, rfl, rfl, fun _ _ _ => trivial, Or.inl ⟨rfl, rfl⟩, vb_X1_judgeRequest⟩
theorem vd_X1_reply : mm_Vd (yX1_reply, .code yX1_reply cX1_reply 3 none) (mi_X1_reply, tb_X1_reply) := ⟨gw_826, by decide +kernel, rfl, rfl, fun _ _ _ => trivial, Or.inl ⟨rfl, rfl⟩, vb_X1_reply⟩
theorem vd_X1_hearLine : mm_Vd (yX1_hearLine, .code yX1_hearLine cX1_hearLine 3 none) (mi_X1_hearLine, tb_X1_hearLine) := ⟨gw_669, by decide +kernel, rfl, rfl, fun _ _ _ => trivial, Or.inl ⟨rfl, rfl⟩, vb_X1_hearLine⟩
theorem vd_X1_judgeLine : mm_Vd (yX1_judgeLine, .code yX1_judgeLine cX1_judgeLine 1 none) (mi_X1_judgeLine, tb_X1_judgeLine) := ⟨gw_746, by decide +kernel, rfl, rfl, fun _ _ _ => trivial, Or.inl ⟨rfl, rfl⟩, vb_X1_judgeLine⟩
theorem vd_X1_tellStatus : mm_Vd (yX1_tellStatus, .code yX1_tellStatus cX1_tellStatus 2 none) (mi_X1_tellStatus, tb_X1_tellStatus) := ⟨gw_742, by decide +kernel, rfl, rfl, fun _ _ _ => trivial, Or.inl ⟨rfl, rfl⟩, vb_X1_tellStatus⟩
theorem vd_X1_endConnecting : mm_Vd (yX1_endConnecting, .code yX1_endConnecting cX1_endConnecting 2 none) (mi_X1_endConnecting, tb_X1_endConnecting) := ⟨gw_863, by decide +kernel, rfl, rfl, fun _ _ _ => trivial, Or.inl ⟨rfl, rfl⟩, vb_X1_endConnecting⟩
theorem vd_X1_takeForTarget : mm_Vd (yX1_takeForTarget, .code yX1_takeForTarget cX1_takeForTarget 1 (some .int)) (mi_X1_takeForTarget, tb_X1_takeForTarget) := ⟨gw_874, by decide +kernel, rfl, rfl, fun _ _ _ => trivial, Or.inl ⟨rfl, rfl⟩, vb_X1_takeForTarget⟩
theorem vd_X1_takeForClient : mm_Vd (yX1_takeForClient, .code yX1_takeForClient cX1_takeForClient 1 (some .int)) (mi_X1_takeForClient, tb_X1_takeForClient) := ⟨gw_897, by decide +kernel, rfl, rfl, fun _ _ _ => trivial, Or.inl ⟨rfl, rfl⟩, vb_X1_takeForClient⟩
theorem vd_X1_takeFrom : mm_Vd (yX1_takeFrom, .code yX1_takeFrom cX1_takeFrom 4 (some .int)) (mi_X1_takeFrom, tb_X1_takeFrom) := ⟨gw_878, by decide +kernel, rfl, rfl, fun _ _ _ => trivial, Or.inl ⟨rfl, rfl⟩, vb_X1_takeFrom⟩
theorem vd_X1_finishSide : mm_Vd (yX1_finishSide, .code yX1_finishSide cX1_finishSide 2 none) (mi_X1_finishSide, tb_X1_finishSide) := ⟨gw_911, by decide +kernel, rfl, rfl, fun _ _ _ => trivial, Or.inl ⟨rfl, rfl⟩, vb_X1_finishSide⟩
theorem vd_X1_endIfAllIsDone : mm_Vd (yX1_endIfAllIsDone, .code yX1_endIfAllIsDone cX1_endIfAllIsDone 2 none) (mi_X1_endIfAllIsDone, tb_X1_endIfAllIsDone) := ⟨gw_886, by decide +kernel, rfl, rfl, fun _ _ _ => trivial, Or.inl ⟨rfl, rfl⟩, vb_X1_endIfAllIsDone⟩
theorem vd_X1_endsByTick : mm_Vd (yX1_endsByTick, .code yX1_endsByTick cX1_endsByTick 1 (some .boolean)) (mi_X1_endsByTick, tb_X1_endsByTick) := ⟨gw_421, by decide +kernel, rfl, rfl, fun _ _ _ => trivial, Or.inl ⟨rfl, rfl⟩, vb_X1_endsByTick⟩
theorem vd_X1_mostTicks : mm_Vd (yX1_mostTicks, .code yX1_mostTicks cX1_mostTicks 1 (some .int)) (mi_X1_mostTicks, tb_X1_mostTicks) := ⟨gw_425, by decide +kernel, rfl, rfl, fun _ _ _ => trivial, Or.inl ⟨rfl, rfl⟩, vb_X1_mostTicks⟩
theorem vd_X2_init : mm_Vd (yX2_init, .code yX2_init cX2_init 1 none) (mi_X2_init, tb_X2_init) := ⟨gw_169, by decide +kernel, rfl, rfl, fun _ _ _ => trivial, Or.inl ⟨rfl, rfl⟩, vb_X2_init⟩
theorem vd_X2_clear : mm_Vd (yX2_clear, .code yX2_clear cX2_clear 1 none) (mi_X2_clear, tb_X2_clear) := ⟨gw_615, by decide +kernel, rfl, rfl, fun _ _ _ => trivial, Or.inl ⟨rfl, rfl⟩, vb_X2_clear⟩
theorem vd_X2_aim : mm_Vd (yX2_aim, .code yX2_aim cX2_aim 6 none) (mi_X2_aim, tb_X2_aim) := ⟨gw_750, by decide +kernel, rfl, rfl, fun _ _ _ => trivial, Or.inl ⟨rfl, rfl⟩, vb_X2_aim⟩
theorem vd_X3_init : mm_Vd (yX3_init, .code yX3_init cX3_init 1 none) (mi_X3_init, tb_X3_init) := ⟨gw_221, by decide +kernel, rfl, rfl, fun _ _ _ => trivial, Or.inl ⟨rfl, rfl⟩, vb_X3_init⟩
theorem vd_X3_clear : mm_Vd (yX3_clear, .code yX3_clear cX3_clear 1 none) (mi_X3_clear, tb_X3_clear) := ⟨gw_620, by decide +kernel, rfl, rfl, fun _ _ _ => trivial, Or.inl ⟨rfl, rfl⟩, vb_X3_clear⟩
theorem vd_X3_read : mm_Vd (yX3_read, .code yX3_read cX3_read 2 (some .int)) (mi_X3_read, tb_X3_read) := ⟨gw_778, by decide +kernel, rfl, rfl, fun _ _ _ => trivial, Or.inl ⟨rfl, rfl⟩, vb_X3_read⟩
theorem vd_X3_offers : mm_Vd (yX3_offers, .code yX3_offers cX3_offers 2 (some .boolean)) (mi_X3_offers, tb_X3_offers) := ⟨gw_786, by decide +kernel, rfl, rfl, fun _ _ _ => trivial, Or.inl ⟨rfl, rfl⟩, vb_X3_offers⟩
theorem vd_X4_init : mm_Vd (yX4_init, .code yX4_init cX4_init 1 none) (mi_X4_init, tb_X4_init) := ⟨gw_290, by decide +kernel, rfl, rfl, fun _ _ _ => trivial, Or.inl ⟨rfl, rfl⟩, vb_X4_init⟩
theorem vd_X4_clear : mm_Vd (yX4_clear, .code yX4_clear cX4_clear 1 none) (mi_X4_clear, tb_X4_clear) := ⟨gw_634, by decide +kernel, rfl, rfl, fun _ _ _ => trivial, Or.inl ⟨rfl, rfl⟩, vb_X4_clear⟩
theorem vd_X4_read : mm_Vd (yX4_read, .code yX4_read cX4_read 2 (some .int)) (mi_X4_read, tb_X4_read) := ⟨gw_673, by decide +kernel, rfl, rfl, fun _ _ _ => trivial, Or.inl ⟨rfl, rfl⟩, vb_X4_read⟩
theorem vd_X4_readWord : mm_Vd (yX4_readWord, .code yX4_readWord cX4_readWord 2 (some .int)) (mi_X4_readWord, tb_X4_readWord) := ⟨gw_677, by decide +kernel, rfl, rfl, fun _ _ _ => trivial, Or.inl ⟨rfl, rfl⟩, vb_X4_readWord⟩
theorem vd_X4_readName : mm_Vd (yX4_readName, .code yX4_readName cX4_readName 2 (some .int)) (mi_X4_readName, tb_X4_readName) := ⟨gw_730, by decide +kernel, rfl, rfl, fun _ _ _ => trivial, Or.inl ⟨rfl, rfl⟩, vb_X4_readName⟩
theorem vd_X4_readPort : mm_Vd (yX4_readPort, .code yX4_readPort cX4_readPort 2 (some .int)) (mi_X4_readPort, tb_X4_readPort) := ⟨gw_736, by decide +kernel, rfl, rfl, fun _ _ _ => trivial, Or.inl ⟨rfl, rfl⟩, vb_X4_readPort⟩
theorem vd_X5_init : mm_Vd (yX5_init, .code yX5_init cX5_init 1 none) (mi_X5_init, tb_X5_init) := ⟨gw_237, by decide +kernel, rfl, rfl, fun _ _ _ => trivial, Or.inl ⟨rfl, rfl⟩, vb_X5_init⟩
theorem vd_X5_clear : mm_Vd (yX5_clear, .code yX5_clear cX5_clear 1 none) (mi_X5_clear, tb_X5_clear) := ⟨gw_624, by decide +kernel, rfl, rfl, fun _ _ _ => trivial, Or.inl ⟨rfl, rfl⟩, vb_X5_clear⟩
theorem vd_X5_read : mm_Vd (yX5_read, .code yX5_read cX5_read 2 (some .int)) (mi_X5_read, tb_X5_read) := ⟨gw_794, by decide +kernel, rfl, rfl, fun _ _ _ => trivial, Or.inl ⟨rfl, rfl⟩, vb_X5_read⟩
theorem vd_X6_init : mm_Vd (yX6_init, .code yX6_init cX6_init 1 none) (mi_X6_init, tb_X6_init) := ⟨gw_260, by decide +kernel, rfl, rfl, fun _ _ _ => trivial, Or.inl ⟨rfl, rfl⟩, vb_X6_init⟩
theorem vd_X6_clear : mm_Vd (yX6_clear, .code yX6_clear cX6_clear 1 none) (mi_X6_clear, tb_X6_clear) := ⟨gw_629, by decide +kernel, rfl, rfl, fun _ _ _ => trivial, Or.inl ⟨rfl, rfl⟩, vb_X6_clear⟩
theorem vd_X6_isToConnect : mm_Vd (yX6_isToConnect, .code yX6_isToConnect cX6_isToConnect 1 (some .boolean)) (mi_X6_isToConnect, tb_X6_isToConnect) := ⟨gw_839, by decide +kernel, rfl, rfl, fun _ _ _ => trivial, Or.inl ⟨rfl, rfl⟩, vb_X6_isToConnect⟩
theorem vd_X6_read : mm_Vd (yX6_read, .code yX6_read cX6_read 2 (some .int)) (mi_X6_read, tb_X6_read) := ⟨gw_813, by decide +kernel, rfl, rfl, fun _ _ _ => trivial, Or.inl ⟨rfl, rfl⟩, vb_X6_read⟩
theorem vd_X6_readType : mm_Vd (yX6_readType, .code yX6_readType cX6_readType 2 (some .int)) (mi_X6_readType, tb_X6_readType) := ⟨gw_817, by decide +kernel, rfl, rfl, fun _ _ _ => trivial, Or.inl ⟨rfl, rfl⟩, vb_X6_readType⟩
theorem vd_X6_goOnToPort : mm_Vd (yX6_goOnToPort, .code yX6_goOnToPort cX6_goOnToPort 1 (some .int)) (mi_X6_goOnToPort, tb_X6_goOnToPort) := ⟨gw_821, by decide +kernel, rfl, rfl, fun _ _ _ => trivial, Or.inl ⟨rfl, rfl⟩, vb_X6_goOnToPort⟩
theorem vd_X7_init : mm_Vd (yX7_init, .code yX7_init cX7_init 1 none) (mi_X7_init, tb_X7_init) := ⟨gw_200, by decide +kernel, rfl, rfl, fun _ _ _ => trivial, Or.inl ⟨rfl, rfl⟩, vb_X7_init⟩
theorem vd_X7_clear : mm_Vd (yX7_clear, .code yX7_clear cX7_clear 1 none) (mi_X7_clear, tb_X7_clear) := ⟨gw_413, by decide +kernel, rfl, rfl, fun _ _ _ => trivial, Or.inl ⟨rfl, rfl⟩, vb_X7_clear⟩
theorem vd_X7_put : mm_Vd (yX7_put, .code yX7_put cX7_put 2 (some .boolean)) (mi_X7_put, tb_X7_put) := ⟨gw_661, by decide +kernel, rfl, rfl, fun _ _ _ => trivial, Or.inl ⟨rfl, rfl⟩, vb_X7_put⟩
theorem vd_X7_take : mm_Vd (yX7_take, .code yX7_take cX7_take 2 (some .int)) (mi_X7_take, tb_X7_take) := ⟨gw_882, by decide +kernel, rfl, rfl, fun _ _ _ => trivial, Or.inl ⟨rfl, rfl⟩, vb_X7_take⟩
theorem vd_X8_init : mm_Vd (yX8_init, .code yX8_init cX8_init 1 none) (mi_X8_init, tb_X8_init) := ⟨gw_98, by decide +kernel, rfl, rfl, fun _ _ _ => trivial, Or.inl ⟨rfl, rfl⟩, vb_X8_init⟩
theorem vd_X8_decide : mm_Vd (yX8_decide, .code yX8_decide cX8_decide 5 none) (mi_X8_decide, tb_X8_decide) := ⟨gw_537, by decide +kernel, rfl, rfl, fun _ _ _ => trivial, Or.inl ⟨rfl, rfl⟩, vb_X8_decide⟩
theorem vd_X8_cover : mm_Vd (yX8_cover, .code yX8_cover cX8_cover 3 none) (mi_X8_cover, tb_X8_cover) := ⟨gw_541, by decide +kernel, rfl, rfl, fun _ _ _ => trivial, Or.inl ⟨rfl, rfl⟩, vb_X8_cover⟩
theorem vd_X8_isMeantFor : mm_Vd (yX8_isMeantFor, .code yX8_isMeantFor cX8_isMeantFor 3 (some .boolean)) (mi_X8_isMeantFor, tb_X8_isMeantFor) := ⟨gw_766, by decide +kernel, rfl, rfl, fun _ _ _ => trivial, Or.inl ⟨rfl, rfl⟩, vb_X8_isMeantFor⟩
theorem vd_X9_init : mm_Vd (yX9_init, .code yX9_init cX9_init 1 none) (mi_X9_init, tb_X9_init) := ⟨gw_104, by decide +kernel, rfl, rfl, fun _ _ _ => trivial, Or.inl ⟨rfl, rfl⟩, vb_X9_init⟩
theorem vd_X9_clear : mm_Vd (yX9_clear, .code yX9_clear cX9_clear 1 none) (mi_X9_clear, tb_X9_clear) := ⟨gw_401, by decide +kernel, rfl, rfl, fun _ _ _ => trivial, Or.inl ⟨rfl, rfl⟩, vb_X9_clear⟩
theorem vd_X9_put : mm_Vd (yX9_put, .code yX9_put cX9_put 2 (some .boolean)) (mi_X9_put, tb_X9_put) := ⟨gw_389, by decide +kernel, rfl, rfl, fun _ _ _ => trivial, Or.inl ⟨rfl, rfl⟩, vb_X9_put⟩
theorem vd_X9_copy : mm_Vd (yX9_copy, .code yX9_copy cX9_copy 5 none) (mi_X9_copy, tb_X9_copy) := ⟨gw_553, by decide +kernel, rfl, rfl, fun _ _ _ => trivial, Or.inl ⟨rfl, rfl⟩, vb_X9_copy⟩
theorem vd_X9_firstDot : mm_Vd (yX9_firstDot, .code yX9_firstDot cX9_firstDot 2 (some .int)) (mi_X9_firstDot, tb_X9_firstDot) := ⟨gw_569, by decide +kernel, rfl, rfl, fun _ _ _ => trivial, Or.inl ⟨rfl, rfl⟩, vb_X9_firstDot⟩
theorem vd_X9_isSame : mm_Vd (yX9_isSame, .code yX9_isSame cX9_isSame 2 (some .boolean)) (mi_X9_isSame, tb_X9_isSame) := ⟨gw_804, by decide +kernel, rfl, rfl, fun _ _ _ => trivial, Or.inl ⟨rfl, rfl⟩, vb_X9_isSame⟩
theorem vd_X9_isOrEndsByDotAnd : mm_Vd (yX9_isOrEndsByDotAnd, .code yX9_isOrEndsByDotAnd cX9_isOrEndsByDotAnd 4 (some .boolean)) (mi_X9_isOrEndsByDotAnd, tb_X9_isOrEndsByDotAnd) := ⟨gw_770, by decide +kernel, rfl, rfl, fun _ _ _ => trivial, Or.inl ⟨rfl, rfl⟩, vb_X9_isOrEndsByDotAnd⟩
theorem vd_X9_hasOnlyNameParts : mm_Vd (yX9_hasOnlyNameParts, .code yX9_hasOnlyNameParts cX9_hasOnlyNameParts 2 (some .boolean)) (mi_X9_hasOnlyNameParts, tb_X9_hasOnlyNameParts) := ⟨gw_834, by decide +kernel, rfl, rfl, fun _ _ _ => trivial, Or.inl ⟨rfl, rfl⟩, vb_X9_hasOnlyNameParts⟩
theorem vd_X9_dottedAddress : mm_Vd (yX9_dottedAddress, .code yX9_dottedAddress cX9_dottedAddress 8 (some .long)) (mi_X9_dottedAddress, tb_X9_dottedAddress) := ⟨gw_754, by decide +kernel, rfl, rfl, fun _ _ _ => trivial, Or.inl ⟨rfl, rfl⟩, vb_X9_dottedAddress⟩
theorem vd_X10_init : mm_Vd (yX10_init, .code yX10_init cX10_init 2 none) (mi_X10_init, tb_X10_init) := ⟨gw_81, by decide +kernel, rfl, rfl, fun _ _ _ => trivial, Or.inl ⟨rfl, rfl⟩, vb_X10_init⟩
theorem vd_X10_type : mm_Vd (yX10_type, .code yX10_type cX10_type 2 (some .boolean)) (mi_X10_type, tb_X10_type) := ⟨gw_379, by decide +kernel, rfl, rfl, fun _ _ _ => trivial, Or.inl ⟨rfl, rfl⟩, vb_X10_type⟩
theorem vd_X10_rule : mm_Vd (yX10_rule, .code yX10_rule cX10_rule 8 (some .int)) (mi_X10_rule, tb_X10_rule) := ⟨gw_439, by decide +kernel, rfl, rfl, fun _ _ _ => trivial, Or.inl ⟨rfl, rfl⟩, vb_X10_rule⟩
theorem vd_X10_named : mm_Vd (yX10_named, .code yX10_named cX10_named 5 (some .int)) (mi_X10_named, tb_X10_named) := ⟨gw_548, by decide +kernel, rfl, rfl, fun _ _ _ => trivial, Or.inl ⟨rfl, rfl⟩, vb_X10_named⟩
theorem vd_X10_account : mm_Vd (yX10_account, .code yX10_account cX10_account 2 (some .int)) (mi_X10_account, tb_X10_account) := ⟨gw_565, by decide +kernel, rfl, rfl, fun _ _ _ => trivial, Or.inl ⟨rfl, rfl⟩, vb_X10_account⟩
theorem vd_X10_forget : mm_Vd (yX10_forget, .code yX10_forget cX10_forget 2 (some .int)) (mi_X10_forget, tb_X10_forget) := ⟨gw_393, by decide +kernel, rfl, rfl, fun _ _ _ => trivial, Or.inl ⟨rfl, rfl⟩, vb_X10_forget⟩
theorem vd_X10_open : mm_Vd (yX10_open, .code yX10_open cX10_open 2 (some .int)) (mi_X10_open, tb_X10_open) := ⟨gw_405, by decide +kernel, rfl, rfl, fun _ _ _ => trivial, Or.inl ⟨rfl, rfl⟩, vb_X10_open⟩
theorem vd_X10_free : mm_Vd (yX10_free, .code yX10_free cX10_free 4 (some .int)) (mi_X10_free, tb_X10_free) := ⟨gw_587, by decide +kernel, rfl, rfl, fun _ _ _ => trivial, Or.inl ⟨rfl, rfl⟩, vb_X10_free⟩
theorem vd_X10_send : mm_Vd (yX10_send, .code yX10_send cX10_send 4 (some .boolean)) (mi_X10_send, tb_X10_send) := ⟨gw_642, by decide +kernel, rfl, rfl, fun _ _ _ => trivial, Or.inl ⟨rfl, rfl⟩, vb_X10_send⟩
theorem vd_X10_give : mm_Vd (yX10_give, .code yX10_give cX10_give 4 (some .boolean)) (mi_X10_give, tb_X10_give) := ⟨gw_846, by decide +kernel, rfl, rfl, fun _ _ _ => trivial, Or.inl ⟨rfl, rfl⟩, vb_X10_give⟩
theorem vd_X10_connected : mm_Vd (yX10_connected, .code yX10_connected cX10_connected 4 none) (mi_X10_connected, tb_X10_connected) := ⟨gw_858, by decide +kernel, rfl, rfl, fun _ _ _ => trivial, Or.inl ⟨rfl, rfl⟩, vb_X10_connected⟩
theorem vd_X10_up : mm_Vd (yX10_up, .code yX10_up cX10_up 2 (some .int)) (mi_X10_up, tb_X10_up) := ⟨gw_870, by decide +kernel, rfl, rfl, fun _ _ _ => trivial, Or.inl ⟨rfl, rfl⟩, vb_X10_up⟩
theorem vd_X10_down : mm_Vd (yX10_down, .code yX10_down cX10_down 2 (some .int)) (mi_X10_down, tb_X10_down) := ⟨gw_893, by decide +kernel, rfl, rfl, fun _ _ _ => trivial, Or.inl ⟨rfl, rfl⟩, vb_X10_down⟩
theorem vd_X10_finish : mm_Vd (yX10_finish, .code yX10_finish cX10_finish 4 none) (mi_X10_finish, tb_X10_finish) := ⟨gw_904, by decide +kernel, rfl, rfl, fun _ _ _ => trivial, Or.inl ⟨rfl, rfl⟩, vb_X10_finish⟩
theorem vd_X10_tick : mm_Vd (yX10_tick, .code yX10_tick cX10_tick 3 (some .int)) (mi_X10_tick, tb_X10_tick) := ⟨gw_417, by decide +kernel, rfl, rfl, fun _ _ _ => trivial, Or.inl ⟨rfl, rfl⟩, vb_X10_tick⟩
theorem vd_X10_about : mm_Vd (yX10_about, .code yX10_about cX10_about 4 (some .int)) (mi_X10_about, tb_X10_about) := ⟨gw_918, by decide +kernel, rfl, rfl, fun _ _ _ => trivial, Or.inl ⟨rfl, rfl⟩, vb_X10_about⟩
theorem vd_X10_lets : mm_Vd (yX10_lets, .code yX10_lets cX10_lets 3 (some .boolean)) (mi_X10_lets, tb_X10_lets) := ⟨gw_927, by decide +kernel, rfl, rfl, fun _ _ _ => trivial, Or.inl ⟨rfl, rfl⟩, vb_X10_lets⟩
theorem vd_X10_full : mm_Vd (yX10_full, .code yX10_full cX10_full 4 (some .float)) (mi_X10_full, tb_X10_full) := ⟨gw_430, by decide +kernel, rfl, rfl, fun _ _ _ => trivial, Or.inl ⟨rfl, rfl⟩, vb_X10_full⟩
theorem vd_X10_count : mm_Vd (yX10_count, .code yX10_count cX10_count 2 (some .int)) (mi_X10_count, tb_X10_count) := ⟨gw_937, by decide +kernel, rfl, rfl, fun _ _ _ => trivial, Or.inl ⟨rfl, rfl⟩, vb_X10_count⟩
theorem vd_X10_usedConnections : mm_Vd (yX10_usedConnections, .code yX10_usedConnections cX10_usedConnections 3 (some .int)) (mi_X10_usedConnections, tb_X10_usedConnections) := ⟨gw_941, by decide +kernel, rfl, rfl, fun _ _ _ => trivial, Or.inl ⟨rfl, rfl⟩, vb_X10_usedConnections⟩
theorem vd_X10_usedConnection : mm_Vd (yX10_usedConnection, .code yX10_usedConnection cX10_usedConnection 2 (some (.object "TunnelDesk$Connection"))) (mi_X10_usedConnection, tb_X10_usedConnection) := ⟨gw_591, by decide +kernel, rfl, rfl, fun _ _ _ => trivial, Or.inl ⟨rfl, rfl⟩, vb_X10_usedConnection⟩
theorem vd_X10_requireByte : mm_Vd (yX10_requireByte, .code yX10_requireByte cX10_requireByte 1 none) (mi_X10_requireByte, tb_X10_requireByte) := ⟨gw_645, by decide +kernel, rfl, rfl, fun _ _ _ => trivial, Or.inl ⟨rfl, rfl⟩, vb_X10_requireByte⟩
theorem vd_X10_requirePorts : mm_Vd (yX10_requirePorts, .code yX10_requirePorts cX10_requirePorts 2 none) (mi_X10_requirePorts, tb_X10_requirePorts) := ⟨gw_511, by decide +kernel, rfl, rfl, fun _ _ _ => trivial, Or.inl ⟨rfl, rfl⟩, vb_X10_requirePorts⟩
theorem vd_X10_isSecretLength : mm_Vd (yX10_isSecretLength, .code yX10_isSecretLength cX10_isSecretLength 1 (some .boolean)) (mi_X10_isSecretLength, tb_X10_isSecretLength) := ⟨gw_572, by decide +kernel, rfl, rfl, fun _ _ _ => trivial, Or.inl ⟨rfl, rfl⟩, vb_X10_isSecretLength⟩
theorem vd_X10_isDigit : mm_Vd (yX10_isDigit, .code yX10_isDigit cX10_isDigit 1 (some .boolean)) (mi_X10_isDigit, tb_X10_isDigit) := ⟨gw_385, by decide +kernel, rfl, rfl, fun _ _ _ => trivial, Or.inl ⟨rfl, rfl⟩, vb_X10_isDigit⟩
theorem vd_X10_isNamePart : mm_Vd (yX10_isNamePart, .code yX10_isNamePart cX10_isNamePart 1 (some .boolean)) (mi_X10_isNamePart, tb_X10_isNamePart) := ⟨gw_382, by decide +kernel, rfl, rfl, fun _ _ _ => trivial, Or.inl ⟨rfl, rfl⟩, vb_X10_isNamePart⟩
theorem vd_X11_init : mm_Vd (yX11_init, .code yX11_init cX11_init 1 none) (mi_X11_init, tb_X11_init) := ⟨gw_947, by decide +kernel, rfl, rfl, fun _ _ _ => trivial, Or.inl ⟨rfl, rfl⟩, vb_X11_init⟩
theorem vd_X11_thrown : mm_Vd (yX11_thrown, .code yX11_thrown cX11_thrown 1 (some .int)) (mi_X11_thrown, tb_X11_thrown) := ⟨gw_1065, by decide +kernel, rfl, rfl, fun _ _ _ => trivial, Or.inl ⟨rfl, rfl⟩, vb_X11_thrown⟩
theorem vd_X11_refuse : mm_Vd (yX11_refuse, .code yX11_refuse cX11_refuse 2 (some .int)) (mi_X11_refuse, tb_X11_refuse) := ⟨gw_1090, by decide +kernel, rfl, rfl, fun _ _ _ => trivial, Or.inl ⟨rfl, rfl⟩, vb_X11_refuse⟩
theorem vd_X11_in : mm_Vd (yX11_in, .code yX11_in cX11_in 3 (some .boolean)) (mi_X11_in, tb_X11_in) := ⟨gw_1075, by decide +kernel, rfl, rfl, fun _ _ _ => trivial, Or.inl ⟨rfl, rfl⟩, vb_X11_in⟩
theorem vd_X11_isDigit : mm_Vd (yX11_isDigit, .code yX11_isDigit cX11_isDigit 1 (some .boolean)) (mi_X11_isDigit, tb_X11_isDigit) := ⟨gw_1078, by decide +kernel, rfl, rfl, fun _ _ _ => trivial, Or.inl ⟨rfl, rfl⟩, vb_X11_isDigit⟩
theorem vd_X11_isNameCharacter : mm_Vd (yX11_isNameCharacter, .code yX11_isNameCharacter cX11_isNameCharacter 1 (some .boolean)) (mi_X11_isNameCharacter, tb_X11_isNameCharacter) := ⟨gw_1072, by decide +kernel, rfl, rfl, fun _ _ _ => trivial, Or.inl ⟨rfl, rfl⟩, vb_X11_isNameCharacter⟩
theorem vd_X11_type : mm_Vd (yX11_type, .code yX11_type cX11_type 2 (some .boolean)) (mi_X11_type, tb_X11_type) := ⟨gw_1069, by decide +kernel, rfl, rfl, fun _ _ _ => trivial, Or.inl ⟨rfl, rfl⟩, vb_X11_type⟩
theorem vd_X11_isRange : mm_Vd (yX11_isRange, .code yX11_isRange cX11_isRange 2 (some .boolean)) (mi_X11_isRange, tb_X11_isRange) := ⟨gw_1085, by decide +kernel, rfl, rfl, fun _ _ _ => trivial, Or.inl ⟨rfl, rfl⟩, vb_X11_isRange⟩
theorem vd_X11_addRule : mm_Vd (yX11_addRule, .code yX11_addRule cX11_addRule 5 (some .int)) (mi_X11_addRule, tb_X11_addRule) := ⟨gw_1094, by decide +kernel, rfl, rfl, fun _ _ _ => trivial, Or.inl ⟨rfl, rfl⟩, vb_X11_addRule⟩
theorem vd_X11_rule : mm_Vd (yX11_rule, .code yX11_rule cX11_rule 7 (some .int)) (mi_X11_rule, tb_X11_rule) := ⟨gw_1082, by decide +kernel, rfl, rfl, fun _ _ _ => trivial, Or.inl ⟨rfl, rfl⟩, vb_X11_rule⟩
theorem vd_X11_named : mm_Vd (yX11_named, .code yX11_named cX11_named 5 (some .int)) (mi_X11_named, tb_X11_named) := ⟨gw_1098, by decide +kernel, rfl, rfl, fun _ _ _ => trivial, Or.inl ⟨rfl, rfl⟩, vb_X11_named⟩
theorem vd_X11_account : mm_Vd (yX11_account, .code yX11_account cX11_account 3 (some .int)) (mi_X11_account, tb_X11_account) := ⟨gw_1102, by decide +kernel, rfl, rfl, fun _ _ _ => trivial, Or.inl ⟨rfl, rfl⟩, vb_X11_account⟩
theorem vd_X11_forget : mm_Vd (yX11_forget, .code yX11_forget cX11_forget 2 (some .int)) (mi_X11_forget, tb_X11_forget) := ⟨gw_1106, by decide +kernel, rfl, rfl, fun _ _ _ => trivial, Or.inl ⟨rfl, rfl⟩, vb_X11_forget⟩
theorem vd_X11_nameAt : mm_Vd (yX11_nameAt, .code yX11_nameAt cX11_nameAt 3 (some .int)) (mi_X11_nameAt, tb_X11_nameAt) := ⟨gw_1122, by decide +kernel, rfl, rfl, fun _ _ _ => trivial, Or.inl ⟨rfl, rfl⟩, vb_X11_nameAt⟩
theorem vd_X11_asAddress : mm_Vd (yX11_asAddress, .code yX11_asAddress cX11_asAddress 11 (some .long)) (mi_X11_asAddress, tb_X11_asAddress) := ⟨gw_1118, by decide +kernel, rfl, rfl, fun _ _ _ => trivial, Or.inl ⟨rfl, rfl⟩, vb_X11_asAddress⟩
theorem vd_X11_endsBy : mm_Vd (yX11_endsBy, .code yX11_endsBy cX11_endsBy 7 (some .boolean)) (mi_X11_endsBy, tb_X11_endsBy) := ⟨gw_1136, by decide +kernel, rfl, rfl, fun _ _ _ => trivial, Or.inl ⟨rfl, rfl⟩, vb_X11_endsBy⟩
theorem vd_X11_meant : mm_Vd (yX11_meant, .code yX11_meant cX11_meant 7 (some .boolean)) (mi_X11_meant, tb_X11_meant) := ⟨gw_1132, by decide +kernel, rfl, rfl, fun _ _ _ => trivial, Or.inl ⟨rfl, rfl⟩, vb_X11_meant⟩
theorem vd_X11_allowed : mm_Vd (yX11_allowed, .code yX11_allowed cX11_allowed 6 (some .boolean)) (mi_X11_allowed, tb_X11_allowed) := ⟨gw_1128, by decide +kernel, rfl, rfl, fun _ _ _ => trivial, Or.inl ⟨rfl, rfl⟩, vb_X11_allowed⟩
theorem vd_X11_allowedName : mm_Vd (yX11_allowedName, .code yX11_allowedName cX11_allowedName 6 (some .boolean)) (mi_X11_allowedName, tb_X11_allowedName) := ⟨gw_1114, by decide +kernel, rfl, rfl, fun _ _ _ => trivial, Or.inl ⟨rfl, rfl⟩, vb_X11_allowedName⟩
theorem vd_X11_lets : mm_Vd (yX11_lets, .code yX11_lets cX11_lets 3 (some .boolean)) (mi_X11_lets, tb_X11_lets) := ⟨gw_1110, by decide +kernel, rfl, rfl, fun _ _ _ => trivial, Or.inl ⟨rfl, rfl⟩, vb_X11_lets⟩
theorem vd_X11_lookAtGoal : mm_Vd (yX11_lookAtGoal, .code yX11_lookAtGoal cX11_lookAtGoal 4 (some .boolean)) (mi_X11_lookAtGoal, tb_X11_lookAtGoal) := ⟨gw_1188, by decide +kernel, rfl, rfl, fun _ _ _ => trivial, Or.inl ⟨rfl, rfl⟩, vb_X11_lookAtGoal⟩
theorem vd_X11_goalOf : mm_Vd (yX11_goalOf, .code yX11_goalOf cX11_goalOf 5 (some .long)) (mi_X11_goalOf, tb_X11_goalOf) := ⟨gw_1192, by decide +kernel, rfl, rfl, fun _ _ _ => trivial, Or.inl ⟨rfl, rfl⟩, vb_X11_goalOf⟩
theorem vd_X11_become : mm_Vd (yX11_become, .code yX11_become cX11_become 3 none) (mi_X11_become, tb_X11_become) := ⟨gw_1144, by decide +kernel, rfl, rfl, fun _ _ _ => trivial, Or.inl ⟨rfl, rfl⟩, vb_X11_become⟩
theorem vd_X11_isOpen : mm_Vd (yX11_isOpen, .code yX11_isOpen cX11_isOpen 2 (some .boolean)) (mi_X11_isOpen, tb_X11_isOpen) := ⟨gw_1152, by decide +kernel, rfl, rfl, fun _ _ _ => trivial, Or.inl ⟨rfl, rfl⟩, vb_X11_isOpen⟩
theorem vd_X11_open : mm_Vd (yX11_open, .code yX11_open cX11_open 2 (some .int)) (mi_X11_open, tb_X11_open) := ⟨gw_1140, by decide +kernel, rfl, rfl, fun _ _ _ => trivial, Or.inl ⟨rfl, rfl⟩, vb_X11_open⟩
theorem vd_X11_free : mm_Vd (yX11_free, .code yX11_free cX11_free 3 (some .int)) (mi_X11_free, tb_X11_free) := ⟨gw_1148, by decide +kernel, rfl, rfl, fun _ _ _ => trivial, Or.inl ⟨rfl, rfl⟩, vb_X11_free⟩
theorem vd_X11_put : mm_Vd (yX11_put, .code yX11_put cX11_put 3 none) (mi_X11_put, tb_X11_put) := ⟨gw_1176, by decide +kernel, rfl, rfl, fun _ _ _ => trivial, Or.inl ⟨rfl, rfl⟩, vb_X11_put⟩
theorem vd_X11_take : mm_Vd (yX11_take, .code yX11_take cX11_take 4 (some .int)) (mi_X11_take, tb_X11_take) := ⟨gw_1244, by decide +kernel, rfl, rfl, fun _ _ _ => trivial, Or.inl ⟨rfl, rfl⟩, vb_X11_take⟩
theorem vd_X11_lay : mm_Vd (yX11_lay, .code yX11_lay cX11_lay 4 none) (mi_X11_lay, tb_X11_lay) := ⟨gw_1172, by decide +kernel, rfl, rfl, fun _ _ _ => trivial, Or.inl ⟨rfl, rfl⟩, vb_X11_lay⟩
theorem vd_X11_reply : mm_Vd (yX11_reply, .code yX11_reply cX11_reply 4 none) (mi_X11_reply, tb_X11_reply) := ⟨gw_1216, by decide +kernel, rfl, rfl, fun _ _ _ => trivial, Or.inl ⟨rfl, rfl⟩, vb_X11_reply⟩
theorem vd_X11_status : mm_Vd (yX11_status, .code yX11_status cX11_status 3 none) (mi_X11_status, tb_X11_status) := ⟨gw_1168, by decide +kernel, rfl, rfl, fun _ _ _ => trivial, Or.inl ⟨rfl, rfl⟩, vb_X11_status⟩
theorem vd_X11_keep : mm_Vd (yX11_keep, .code yX11_keep cX11_keep 3 none) (mi_X11_keep, tb_X11_keep) := ⟨gw_1180, by decide +kernel, rfl, rfl, fun _ _ _ => trivial, Or.inl ⟨rfl, rfl⟩, vb_X11_keep⟩
theorem vd_X11_greeting : mm_Vd (yX11_greeting, .code yX11_greeting cX11_greeting 3 none) (mi_X11_greeting, tb_X11_greeting) := ⟨gw_1160, by decide +kernel, rfl, rfl, fun _ _ _ => trivial, Or.inl ⟨rfl, rfl⟩, vb_X11_greeting⟩
theorem vd_X11_choose : mm_Vd (yX11_choose, .code yX11_choose cX11_choose 4 none) (mi_X11_choose, tb_X11_choose) := ⟨gw_1196, by decide +kernel, rfl, rfl, fun _ _ _ => trivial, Or.inl ⟨rfl, rfl⟩, vb_X11_choose⟩
theorem vd_X11_password : mm_Vd (yX11_password, .code yX11_password cX11_password 3 none) (mi_X11_password, tb_X11_password) := ⟨gw_1200, by decide +kernel, rfl, rfl, fun _ _ _ => trivial, Or.inl ⟨rfl, rfl⟩, vb_X11_password⟩
theorem vd_X11_isAccount : mm_Vd (yX11_isAccount, .code yX11_isAccount cX11_isAccount 6 (some .boolean)) (mi_X11_isAccount, tb_X11_isAccount) := ⟨gw_1208, by decide +kernel, rfl, rfl, fun _ _ _ => trivial, Or.inl ⟨rfl, rfl⟩, vb_X11_isAccount⟩
theorem vd_X11_enter : mm_Vd (yX11_enter, .code yX11_enter cX11_enter 4 none) (mi_X11_enter, tb_X11_enter) := ⟨gw_1204, by decide +kernel, rfl, rfl, fun _ _ _ => trivial, Or.inl ⟨rfl, rfl⟩, vb_X11_enter⟩
theorem vd_X11_request : mm_Vd (yX11_request, .code yX11_request cX11_request 3 none) (mi_X11_request, tb_X11_request) := ⟨gw_1212, by decide +kernel, rfl, rfl, fun _ _ _ => trivial, Or.inl ⟨rfl, rfl⟩, vb_X11_request⟩
theorem vd_X11_requested : mm_Vd (yX11_requested, .code yX11_requested cX11_requested 4 none) (mi_X11_requested, tb_X11_requested) := ⟨gw_1220, by decide +kernel, rfl, rfl, fun _ _ _ => trivial, Or.inl ⟨rfl, rfl⟩, vb_X11_requested⟩
theorem vd_X11_text : mm_Vd (yX11_text, .code yX11_text cX11_text 4 none) (mi_X11_text, tb_X11_text) := ⟨gw_1164, by decide +kernel, rfl, rfl, fun _ _ _ => trivial, Or.inl ⟨rfl, rfl⟩, vb_X11_text⟩
theorem vd_X11_texted : mm_Vd (yX11_texted, .code yX11_texted cX11_texted 2 none) (mi_X11_texted, tb_X11_texted) := ⟨gw_1184, by decide +kernel, rfl, rfl, fun _ _ _ => trivial, Or.inl ⟨rfl, rfl⟩, vb_X11_texted⟩
theorem vd_X11_send : mm_Vd (yX11_send, .code yX11_send cX11_send 3 (some .boolean)) (mi_X11_send, tb_X11_send) := ⟨gw_1156, by decide +kernel, rfl, rfl, fun _ _ _ => trivial, Or.inl ⟨rfl, rfl⟩, vb_X11_send⟩
theorem vd_X11_give : mm_Vd (yX11_give, .code yX11_give cX11_give 3 (some .boolean)) (mi_X11_give, tb_X11_give) := ⟨gw_1224, by decide +kernel, rfl, rfl, fun _ _ _ => trivial, Or.inl ⟨rfl, rfl⟩, vb_X11_give⟩
theorem vd_X11_connected : mm_Vd (yX11_connected, .code yX11_connected cX11_connected 3 none) (mi_X11_connected, tb_X11_connected) := ⟨gw_1228, by decide +kernel, rfl, rfl, fun _ _ _ => trivial, Or.inl ⟨rfl, rfl⟩, vb_X11_connected⟩
theorem vd_X11_answer : mm_Vd (yX11_answer, .code yX11_answer cX11_answer 3 none) (mi_X11_answer, tb_X11_answer) := ⟨gw_1232, by decide +kernel, rfl, rfl, fun _ _ _ => trivial, Or.inl ⟨rfl, rfl⟩, vb_X11_answer⟩
theorem vd_X11_settle : mm_Vd (yX11_settle, .code yX11_settle cX11_settle 2 none) (mi_X11_settle, tb_X11_settle) := ⟨gw_1248, by decide +kernel, rfl, rfl, fun _ _ _ => trivial, Or.inl ⟨rfl, rfl⟩, vb_X11_settle⟩
theorem vd_X11_out : mm_Vd (yX11_out, .code yX11_out cX11_out 5 (some .int)) (mi_X11_out, tb_X11_out) := ⟨gw_1240, by decide +kernel, rfl, rfl, fun _ _ _ => trivial, Or.inl ⟨rfl, rfl⟩, vb_X11_out⟩
theorem vd_X11_up : mm_Vd (yX11_up, .code yX11_up cX11_up 2 (some .int)) (mi_X11_up, tb_X11_up) := ⟨gw_1236, by decide +kernel, rfl, rfl, fun _ _ _ => trivial, Or.inl ⟨rfl, rfl⟩, vb_X11_up⟩
theorem vd_X11_down : mm_Vd (yX11_down, .code yX11_down cX11_down 2 (some .int)) (mi_X11_down, tb_X11_down) := ⟨gw_1252, by decide +kernel, rfl, rfl, fun _ _ _ => trivial, Or.inl ⟨rfl, rfl⟩, vb_X11_down⟩
theorem vd_X11_finish : mm_Vd (yX11_finish, .code yX11_finish cX11_finish 4 none) (mi_X11_finish, tb_X11_finish) := ⟨gw_1256, by decide +kernel, rfl, rfl, fun _ _ _ => trivial, Or.inl ⟨rfl, rfl⟩, vb_X11_finish⟩
theorem vd_X11_tick : mm_Vd (yX11_tick, .code yX11_tick cX11_tick 5 (some .int)) (mi_X11_tick, tb_X11_tick) := ⟨gw_1260, by decide +kernel, rfl, rfl, fun _ _ _ => trivial, Or.inl ⟨rfl, rfl⟩, vb_X11_tick⟩
theorem vd_X11_about : mm_Vd (yX11_about, .code yX11_about cX11_about 3 (some .int)) (mi_X11_about, tb_X11_about) := ⟨gw_1264, by decide +kernel, rfl, rfl, fun _ _ _ => trivial, Or.inl ⟨rfl, rfl⟩, vb_X11_about⟩
theorem vd_X11_opened : mm_Vd (yX11_opened, .code yX11_opened cX11_opened 3 (some .int)) (mi_X11_opened, tb_X11_opened) := ⟨gw_1272, by decide +kernel, rfl, rfl, fun _ _ _ => trivial, Or.inl ⟨rfl, rfl⟩, vb_X11_opened⟩
theorem vd_X11_full : mm_Vd (yX11_full, .code yX11_full cX11_full 3 (some .float)) (mi_X11_full, tb_X11_full) := ⟨gw_1268, by decide +kernel, rfl, rfl, fun _ _ _ => trivial, Or.inl ⟨rfl, rfl⟩, vb_X11_full⟩
theorem vd_X11_count : mm_Vd (yX11_count, .code yX11_count cX11_count 2 (some .int)) (mi_X11_count, tb_X11_count) := ⟨gw_1276, by decide +kernel, rfl, rfl, fun _ _ _ => trivial, Or.inl ⟨rfl, rfl⟩, vb_X11_count⟩
theorem vd_L_rule : mm_Vd (yL_rule, .codeWith yL_rule cL_rule 9 (some .int) [(0, 18, 21, 13), (0, 18, 25, 15)]) (mi_L_rule, tb_L_rule) := ⟨gw_433, by decide +kernel, rfl, rfl, fun _ _ _ => trivial, Or.inr ⟨_, rfl, rfl⟩, vb_L_rule⟩
theorem vd_L_named : mm_Vd (yL_named, .codeWith yL_named cL_named 6 (some .int) [(0, 12, 15, 13), (0, 12, 19, 15)]) (mi_L_named, tb_L_named) := ⟨gw_544, by decide +kernel, rfl, rfl, fun _ _ _ => trivial, Or.inr ⟨_, rfl, rfl⟩, vb_L_named⟩
theorem vd_L_account : mm_Vd (yL_account, .codeWith yL_account cL_account 3 (some .int) [(0, 8, 11, 13), (0, 8, 14, 15)]) (mi_L_account, tb_L_account) := ⟨gw_561, by decide +kernel, rfl, rfl, fun _ _ _ => trivial, Or.inr ⟨_, rfl, rfl⟩, vb_L_account⟩
theorem vd_L_free : mm_Vd (yL_free, .codeWith yL_free cL_free 4 (some .int) [(0, 9, 12, 29)]) (mi_L_free, tb_L_free) := ⟨gw_582, by decide +kernel, rfl, rfl, fun _ _ _ => trivial, Or.inr ⟨_, rfl, rfl⟩, vb_L_free⟩
theorem vd_L_send : mm_Vd (yL_send, .codeWith yL_send cL_send 5 (some .int) [(0, 17, 20, 29), (0, 17, 24, 13), (0, 17, 28, 15)]) (mi_L_send, tb_L_send) := ⟨gw_638, by decide +kernel, rfl, rfl, fun _ _ _ => trivial, Or.inr ⟨_, rfl, rfl⟩, vb_L_send⟩
theorem vd_L_give : mm_Vd (yL_give, .codeWith yL_give cL_give 5 (some .int) [(0, 17, 20, 29), (0, 17, 24, 13), (0, 17, 28, 15)]) (mi_L_give, tb_L_give) := ⟨gw_842, by decide +kernel, rfl, rfl, fun _ _ _ => trivial, Or.inr ⟨_, rfl, rfl⟩, vb_L_give⟩
theorem vd_L_connected : mm_Vd (yL_connected, .codeWith yL_connected cL_connected 4 (some .int) [(0, 6, 9, 29), (0, 6, 12, 15)]) (mi_L_connected, tb_L_connected) := ⟨gw_854, by decide +kernel, rfl, rfl, fun _ _ _ => trivial, Or.inr ⟨_, rfl, rfl⟩, vb_L_connected⟩
theorem vd_L_up : mm_Vd (yL_up, .codeWith yL_up cL_up 4 (some .int) [(0, 9, 12, 29)]) (mi_L_up, tb_L_up) := ⟨gw_866, by decide +kernel, rfl, rfl, fun _ _ _ => trivial, Or.inr ⟨_, rfl, rfl⟩, vb_L_up⟩
theorem vd_L_down : mm_Vd (yL_down, .codeWith yL_down cL_down 4 (some .int) [(0, 9, 12, 29)]) (mi_L_down, tb_L_down) := ⟨gw_889, by decide +kernel, rfl, rfl, fun _ _ _ => trivial, Or.inr ⟨_, rfl, rfl⟩, vb_L_down⟩
theorem vd_L_finish : mm_Vd (yL_finish, .codeWith yL_finish cL_finish 4 (some .int) [(0, 6, 9, 29), (0, 6, 12, 15)]) (mi_L_finish, tb_L_finish) := ⟨gw_900, by decide +kernel, rfl, rfl, fun _ _ _ => trivial, Or.inr ⟨_, rfl, rfl⟩, vb_L_finish⟩
theorem vd_L_about : mm_Vd (yL_about, .codeWith yL_about cL_about 5 (some .int) [(0, 10, 13, 29), (0, 10, 17, 13)]) (mi_L_about, tb_L_about) := ⟨gw_914, by decide +kernel, rfl, rfl, fun _ _ _ => trivial, Or.inr ⟨_, rfl, rfl⟩, vb_L_about⟩
theorem vd_L_lets : mm_Vd (yL_lets, .codeWith yL_lets cL_lets 5 (some .int) [(0, 17, 20, 13)]) (mi_L_lets, tb_L_lets) := ⟨gw_923, by decide +kernel, rfl, rfl, fun _ _ _ => trivial, Or.inr ⟨_, rfl, rfl⟩, vb_L_lets⟩
theorem vd_L_count : mm_Vd (yL_count, .codeWith yL_count cL_count 4 (some .int) [(0, 9, 12, 13)]) (mi_L_count, tb_L_count) := ⟨gw_933, by decide +kernel, rfl, rfl, fun _ _ _ => trivial, Or.inr ⟨_, rfl, rfl⟩, vb_L_count⟩
theorem vd_J0_length_8abf5 : mm_Vd (yJ0_length_8abf5, .code yJ0_length_8abf5 cJ0_length_8abf5 1 (some .int)) (mi_J0_length_8abf5, tb_J0_length_8abf5) := ⟨gw_682, by decide +kernel, rfl, rfl, fun _ _ _ => trivial, Or.inl ⟨rfl, rfl⟩, vb_J0_length_8abf5⟩
theorem vd_J0_charAt_5068e : mm_Vd (yJ0_charAt_5068e, .code yJ0_charAt_5068e cJ0_charAt_5068e 2 (some .char)) (mi_J0_charAt_5068e, tb_J0_charAt_5068e) := ⟨gw_692, by decide +kernel, rfl, rfl, fun _ _ _ => trivial, Or.inl ⟨rfl, rfl⟩, vb_J0_charAt_5068e⟩
theorem vd_J0_coder_7d493 : mm_Vd (yJ0_coder_7d493, .code yJ0_coder_7d493 cJ0_coder_7d493 1 (some .byte)) (mi_J0_coder_7d493, tb_J0_coder_7d493) := ⟨gw_686, by decide +kernel, rfl, rfl, fun _ _ _ => trivial, Or.inl ⟨rfl, rfl⟩, vb_J0_coder_7d493⟩
theorem vd_J0_isLatin1_aae02 : mm_Vd (yJ0_isLatin1_aae02, .code yJ0_isLatin1_aae02 cJ0_isLatin1_aae02 1 (some .boolean)) (mi_J0_isLatin1_aae02, tb_J0_isLatin1_aae02) := ⟨gw_696, by decide +kernel, rfl, rfl, fun _ _ _ => trivial, Or.inl ⟨rfl, rfl⟩, vb_J0_isLatin1_aae02⟩
theorem vd_J1_charAt_3b067 : mm_Vd (yJ1_charAt_3b067, .code yJ1_charAt_3b067 cJ1_charAt_3b067 2 (some .char)) (mi_J1_charAt_3b067, tb_J1_charAt_3b067) := ⟨gw_699, by decide +kernel, rfl, rfl, fun _ _ _ => trivial, Or.inl ⟨rfl, rfl⟩, vb_J1_charAt_3b067⟩
theorem md_Vn {p : Nat} {l r : Nat → MethodName × Cond} {l' r' : Nat → mm_I × (Nat → Option mm_O)} (h1 : ∀ k, mm_Vd (l k) (l' k)) (h2 : ∀ k, mm_Vd (r k) (r' k)) : ∀ k, mm_Vd (md_n p l r k) (md_n p l' r' k) := by
  intro k
  simp only [md_n]
  cases hb : Nat.ble k p with
  | true => exact h1 k
  | false => exact h2 k
theorem md_Vl {a : MethodName × Cond} {b : mm_I × (Nat → Option mm_O)} (h : mm_Vd a b) : ∀ k, mm_Vd (md_l a k) (md_l b k) := fun _ => h
theorem md_ok : ∀ k, mm_Vd (mm_yh k) (md k) := md_Vn (md_Vn (md_Vn (md_Vn (md_Vn (md_Vn (md_Vn (md_Vl vd_X0_init) (md_Vl vd_X0_clear)) (md_Vn (md_Vl vd_X0_nextRule) (md_Vn (md_Vl vd_X0_addAccount) (md_Vl vd_X0_hasAccount)))) (md_Vn (md_Vn (md_Vl vd_X0_letsThrough) (md_Vl vd_X1_init)) (md_Vn (md_Vl vd_X1_clear) (md_Vn (md_Vl vd_X1_enter) (md_Vl vd_X1_hearClient))))) (md_Vn (md_Vn (md_Vn (md_Vl vd_X1_hearTarget) (md_Vl vd_X1_relay)) (md_Vn (md_Vl vd_X1_begin) (md_Vn (md_Vl vd_X1_hearGreeting) (md_Vl vd_X1_answerGreeting)))) (md_Vn (md_Vn (md_Vl vd_X1_hearLogin) (md_Vn (md_Vl vd_X1_hearRequest) (md_Vl vd_X1_judgeRequest))) (md_Vn (md_Vl vd_X1_reply) (md_Vn (md_Vl vd_X1_hearLine) (md_Vl vd_X1_judgeLine)))))) (md_Vn (md_Vn (md_Vn (md_Vn (md_Vl vd_X1_tellStatus) (md_Vl vd_X1_endConnecting)) (md_Vn (md_Vl vd_X1_takeForTarget) (md_Vn (md_Vl vd_X1_takeForClient) (md_Vl vd_X1_takeFrom)))) (md_Vn (md_Vn (md_Vl vd_X1_finishSide) (md_Vl vd_X1_endIfAllIsDone)) (md_Vn (md_Vl vd_X1_endsByTick) (md_Vn (md_Vl vd_X1_mostTicks) (md_Vl vd_X2_init))))) (md_Vn (md_Vn (md_Vn (md_Vl vd_X2_clear) (md_Vl vd_X2_aim)) (md_Vn (md_Vl vd_X3_init) (md_Vn (md_Vl vd_X3_clear) (md_Vl vd_X3_read)))) (md_Vn (md_Vn (md_Vl vd_X3_offers) (md_Vn (md_Vl vd_X4_init) (md_Vl vd_X4_clear))) (md_Vn (md_Vl vd_X4_read) (md_Vn (md_Vl vd_X4_readWord) (md_Vl vd_X4_readName))))))) (md_Vn (md_Vn (md_Vn (md_Vn (md_Vn (md_Vl vd_X4_readPort) (md_Vl vd_X5_init)) (md_Vn (md_Vl vd_X5_clear) (md_Vn (md_Vl vd_X5_read) (md_Vl vd_X6_init)))) (md_Vn (md_Vn (md_Vl vd_X6_clear) (md_Vl vd_X6_isToConnect)) (md_Vn (md_Vl vd_X6_read) (md_Vn (md_Vl vd_X6_readType) (md_Vl vd_X6_goOnToPort))))) (md_Vn (md_Vn (md_Vn (md_Vl vd_X7_init) (md_Vl vd_X7_clear)) (md_Vn (md_Vl vd_X7_put) (md_Vn (md_Vl vd_X7_take) (md_Vl vd_X8_init)))) (md_Vn (md_Vn (md_Vl vd_X8_decide) (md_Vn (md_Vl vd_X8_cover) (md_Vl vd_X8_isMeantFor))) (md_Vn (md_Vl vd_X9_init) (md_Vn (md_Vl vd_X9_clear) (md_Vl vd_X9_put)))))) (md_Vn (md_Vn (md_Vn (md_Vn (md_Vl vd_X9_copy) (md_Vl vd_X9_firstDot)) (md_Vn (md_Vl vd_X9_isSame) (md_Vn (md_Vl vd_X9_isOrEndsByDotAnd) (md_Vl vd_X9_hasOnlyNameParts)))) (md_Vn (md_Vn (md_Vl vd_X9_dottedAddress) (md_Vl vd_X10_init)) (md_Vn (md_Vl vd_X10_type) (md_Vn (md_Vl vd_X10_rule) (md_Vl vd_X10_named))))) (md_Vn (md_Vn (md_Vn (md_Vl vd_X10_account) (md_Vl vd_X10_forget)) (md_Vn (md_Vl vd_X10_open) (md_Vn (md_Vl vd_X10_free) (md_Vl vd_X10_send)))) (md_Vn (md_Vn (md_Vl vd_X10_give) (md_Vn (md_Vl vd_X10_connected) (md_Vl vd_X10_up))) (md_Vn (md_Vl vd_X10_down) (md_Vn (md_Vl vd_X10_finish) (md_Vl vd_X10_tick)))))))) (md_Vn (md_Vn (md_Vn (md_Vn (md_Vn (md_Vn (md_Vl vd_X10_about) (md_Vl vd_X10_lets)) (md_Vn (md_Vl vd_X10_full) (md_Vn (md_Vl vd_X10_count) (md_Vl vd_X10_usedConnections)))) (md_Vn (md_Vn (md_Vl vd_X10_usedConnection) (md_Vl vd_X10_requireByte)) (md_Vn (md_Vl vd_X10_requirePorts) (md_Vn (md_Vl vd_X10_isSecretLength) (md_Vl vd_X10_isDigit))))) (md_Vn (md_Vn (md_Vn (md_Vl vd_X10_isNamePart) (md_Vl vd_X11_init)) (md_Vn (md_Vl vd_X11_thrown) (md_Vn (md_Vl vd_X11_refuse) (md_Vl vd_X11_in)))) (md_Vn (md_Vn (md_Vl vd_X11_isDigit) (md_Vn (md_Vl vd_X11_isNameCharacter) (md_Vl vd_X11_type))) (md_Vn (md_Vl vd_X11_isRange) (md_Vn (md_Vl vd_X11_addRule) (md_Vl vd_X11_rule)))))) (md_Vn (md_Vn (md_Vn (md_Vn (md_Vl vd_X11_named) (md_Vl vd_X11_account)) (md_Vn (md_Vl vd_X11_forget) (md_Vn (md_Vl vd_X11_nameAt) (md_Vl vd_X11_asAddress)))) (md_Vn (md_Vn (md_Vl vd_X11_endsBy) (md_Vl vd_X11_meant)) (md_Vn (md_Vl vd_X11_allowed) (md_Vn (md_Vl vd_X11_allowedName) (md_Vl vd_X11_lets))))) (md_Vn (md_Vn (md_Vn (md_Vl vd_X11_lookAtGoal) (md_Vl vd_X11_goalOf)) (md_Vn (md_Vl vd_X11_become) (md_Vn (md_Vl vd_X11_isOpen) (md_Vl vd_X11_open)))) (md_Vn (md_Vn (md_Vl vd_X11_free) (md_Vn (md_Vl vd_X11_put) (md_Vl vd_X11_take))) (md_Vn (md_Vl vd_X11_lay) (md_Vn (md_Vl vd_X11_reply) (md_Vl vd_X11_status))))))) (md_Vn (md_Vn (md_Vn (md_Vn (md_Vn (md_Vl vd_X11_keep) (md_Vl vd_X11_greeting)) (md_Vn (md_Vl vd_X11_choose) (md_Vn (md_Vl vd_X11_password) (md_Vl vd_X11_isAccount)))) (md_Vn (md_Vn (md_Vl vd_X11_enter) (md_Vl vd_X11_request)) (md_Vn (md_Vl vd_X11_requested) (md_Vn (md_Vl vd_X11_text) (md_Vl vd_X11_texted))))) (md_Vn (md_Vn (md_Vn (md_Vl vd_X11_send) (md_Vl vd_X11_give)) (md_Vn (md_Vl vd_X11_connected) (md_Vn (md_Vl vd_X11_answer) (md_Vl vd_X11_settle)))) (md_Vn (md_Vn (md_Vl vd_X11_out) (md_Vn (md_Vl vd_X11_up) (md_Vl vd_X11_down))) (md_Vn (md_Vl vd_X11_finish) (md_Vn (md_Vl vd_X11_tick) (md_Vl vd_X11_about)))))) (md_Vn (md_Vn (md_Vn (md_Vn (md_Vl vd_X11_opened) (md_Vl vd_X11_full)) (md_Vn (md_Vl vd_X11_count) (md_Vn (md_Vl vd_L_rule) (md_Vl vd_L_named)))) (md_Vn (md_Vn (md_Vl vd_L_account) (md_Vl vd_L_free)) (md_Vn (md_Vl vd_L_send) (md_Vn (md_Vl vd_L_give) (md_Vl vd_L_connected))))) (md_Vn (md_Vn (md_Vn (md_Vl vd_L_up) (md_Vl vd_L_down)) (md_Vn (md_Vl vd_L_finish) (md_Vn (md_Vl vd_L_about) (md_Vl vd_L_lets)))) (md_Vn (md_Vn (md_Vl vd_L_count) (md_Vn (md_Vl vd_J0_length_8abf5) (md_Vl vd_J0_charAt_5068e))) (md_Vn (md_Vl vd_J0_coder_7d493) (md_Vn (md_Vl vd_J0_isLatin1_aae02) (md_Vl vd_J1_charAt_3b067))))))))
