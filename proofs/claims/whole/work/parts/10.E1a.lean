/-! THE LAW 1: its instructions -/
theorem dL_0 : decode code 0 = .ok (.new 7, 3) := by decide +kernel
theorem dL_3 : decode code 3 = .ok (.dup, 1) := by decide +kernel
theorem dL_4 : decode code 4 = .ok (.invokespecial 9, 3) := by decide +kernel
theorem dL_7 : decode code 7 = .ok (.astore_n 1, 1) := by decide +kernel
theorem dL_8 : decode code 8 = .ok (.new 10, 3) := by decide +kernel
theorem dL_11 : decode code 11 = .ok (.dup, 1) := by decide +kernel
theorem dL_12 : decode code 12 = .ok (.invokespecial 12, 3) := by decide +kernel
theorem dL_15 : decode code 15 = .ok (.astore_n 2, 1) := by decide +kernel
theorem dL_16 : decode code 16 = .ok (.iconst 0, 1) := by decide +kernel
theorem dL_17 : decode code 17 = .ok (.istore_n 3, 1) := by decide +kernel
theorem dL_18 : decode code 18 = .ok (.iload_n 3, 1) := by decide +kernel
theorem dL_19 : decode code 19 = .ok (.aload_n 0, 1) := by decide +kernel
theorem dL_20 : decode code 20 = .ok (.arraylength, 1) := by decide +kernel
theorem dL_21 : decode code 21 = .ok (.bipush 7, 2) := by decide +kernel
theorem dL_23 : decode code 23 = .ok (.isub, 1) := by decide +kernel
theorem dL_24 : decode code 24 = .ok (.if_icmp .gt 1214, 3) := by decide +kernel
theorem dL_27 : decode code 27 = .ok (.aload_n 0, 1) := by decide +kernel
theorem dL_28 : decode code 28 = .ok (.iload_n 3, 1) := by decide +kernel
theorem dL_29 : decode code 29 = .ok (.iaload, 1) := by decide +kernel
theorem dL_30 : decode code 30 = .ok (.bipush 31, 2) := by decide +kernel
theorem dL_32 : decode code 32 = .ok (.iand, 1) := by decide +kernel
theorem dL_33 : decode code 33 = .ok (.tableswitch 1199 0 26 #[123, 146, 159, 192, 225, 258, 281, 324, 347, 360, 393, 416, 439, 472, 547, 580, 633, 676, 719, 742, 826, 889, 932, 1007, 1070, 1133, 1176], 123) := by decide +kernel
theorem dL_156 : decode code 156 = .ok (.aload_n 1, 1) := by decide +kernel
theorem dL_157 : decode code 157 = .ok (.aload_n 0, 1) := by decide +kernel
theorem dL_158 : decode code 158 = .ok (.iload_n 3, 1) := by decide +kernel
theorem dL_159 : decode code 159 = .ok (.iconst 1, 1) := by decide +kernel
theorem dL_160 : decode code 160 = .ok (.iadd, 1) := by decide +kernel
theorem dL_161 : decode code 161 = .ok (.iaload, 1) := by decide +kernel
theorem dL_162 : decode code 162 = .ok (.invokevirtual 13, 3) := by decide +kernel
theorem dL_165 : decode code 165 = .ok (.aload_n 2, 1) := by decide +kernel
theorem dL_166 : decode code 166 = .ok (.aload_n 0, 1) := by decide +kernel
theorem dL_167 : decode code 167 = .ok (.iload_n 3, 1) := by decide +kernel
theorem dL_168 : decode code 168 = .ok (.iconst 1, 1) := by decide +kernel
theorem dL_169 : decode code 169 = .ok (.iadd, 1) := by decide +kernel
theorem dL_170 : decode code 170 = .ok (.iaload, 1) := by decide +kernel
theorem dL_171 : decode code 171 = .ok (.invokevirtual 17, 3) := by decide +kernel
theorem dL_174 : decode code 174 = .ok (.if_icmp .eq 1058, 3) := by decide +kernel
theorem dL_179 : decode code 179 = .ok (.aload_n 1, 1) := by decide +kernel
theorem dL_180 : decode code 180 = .ok (.invokevirtual 18, 3) := by decide +kernel
theorem dL_183 : decode code 183 = .ok (.aload_n 2, 1) := by decide +kernel
theorem dL_184 : decode code 184 = .ok (.invokevirtual 22, 3) := by decide +kernel
theorem dL_187 : decode code 187 = .ok (.if_icmp .eq 1045, 3) := by decide +kernel
theorem dL_192 : decode code 192 = .ok (.aload_n 1, 1) := by decide +kernel
theorem dL_193 : decode code 193 = .ok (.aload_n 0, 1) := by decide +kernel
theorem dL_194 : decode code 194 = .ok (.iload_n 3, 1) := by decide +kernel
theorem dL_195 : decode code 195 = .ok (.iconst 1, 1) := by decide +kernel
theorem dL_196 : decode code 196 = .ok (.iadd, 1) := by decide +kernel
theorem dL_197 : decode code 197 = .ok (.iaload, 1) := by decide +kernel
theorem dL_198 : decode code 198 = .ok (.aload_n 0, 1) := by decide +kernel
theorem dL_199 : decode code 199 = .ok (.iload_n 3, 1) := by decide +kernel
theorem dL_200 : decode code 200 = .ok (.iconst 2, 1) := by decide +kernel
theorem dL_201 : decode code 201 = .ok (.iadd, 1) := by decide +kernel
theorem dL_202 : decode code 202 = .ok (.iaload, 1) := by decide +kernel
theorem dL_203 : decode code 203 = .ok (.invokevirtual 23, 3) := by decide +kernel
theorem dL_206 : decode code 206 = .ok (.aload_n 2, 1) := by decide +kernel
theorem dL_207 : decode code 207 = .ok (.aload_n 0, 1) := by decide +kernel
theorem dL_208 : decode code 208 = .ok (.iload_n 3, 1) := by decide +kernel
theorem dL_209 : decode code 209 = .ok (.iconst 1, 1) := by decide +kernel
theorem dL_210 : decode code 210 = .ok (.iadd, 1) := by decide +kernel
theorem dL_211 : decode code 211 = .ok (.iaload, 1) := by decide +kernel
theorem dL_212 : decode code 212 = .ok (.aload_n 0, 1) := by decide +kernel
theorem dL_213 : decode code 213 = .ok (.iload_n 3, 1) := by decide +kernel
theorem dL_214 : decode code 214 = .ok (.iconst 2, 1) := by decide +kernel
theorem dL_215 : decode code 215 = .ok (.iadd, 1) := by decide +kernel
theorem dL_216 : decode code 216 = .ok (.iaload, 1) := by decide +kernel
theorem dL_217 : decode code 217 = .ok (.invokevirtual 27, 3) := by decide +kernel
theorem dL_220 : decode code 220 = .ok (.if_icmp .eq 1012, 3) := by decide +kernel
theorem dL_225 : decode code 225 = .ok (.aload_n 1, 1) := by decide +kernel
theorem dL_226 : decode code 226 = .ok (.aload_n 0, 1) := by decide +kernel
theorem dL_227 : decode code 227 = .ok (.iload_n 3, 1) := by decide +kernel
theorem dL_228 : decode code 228 = .ok (.iconst 1, 1) := by decide +kernel
theorem dL_229 : decode code 229 = .ok (.iadd, 1) := by decide +kernel
theorem dL_230 : decode code 230 = .ok (.iaload, 1) := by decide +kernel
theorem dL_231 : decode code 231 = .ok (.aload_n 0, 1) := by decide +kernel
theorem dL_232 : decode code 232 = .ok (.iload_n 3, 1) := by decide +kernel
theorem dL_233 : decode code 233 = .ok (.iconst 2, 1) := by decide +kernel
theorem dL_234 : decode code 234 = .ok (.iadd, 1) := by decide +kernel
theorem dL_235 : decode code 235 = .ok (.iaload, 1) := by decide +kernel
theorem dL_236 : decode code 236 = .ok (.invokevirtual 28, 3) := by decide +kernel
theorem dL_239 : decode code 239 = .ok (.aload_n 2, 1) := by decide +kernel
theorem dL_240 : decode code 240 = .ok (.aload_n 0, 1) := by decide +kernel
theorem dL_241 : decode code 241 = .ok (.iload_n 3, 1) := by decide +kernel
theorem dL_242 : decode code 242 = .ok (.iconst 1, 1) := by decide +kernel
theorem dL_243 : decode code 243 = .ok (.iadd, 1) := by decide +kernel
theorem dL_244 : decode code 244 = .ok (.iaload, 1) := by decide +kernel
theorem dL_245 : decode code 245 = .ok (.aload_n 0, 1) := by decide +kernel
theorem dL_246 : decode code 246 = .ok (.iload_n 3, 1) := by decide +kernel
theorem dL_247 : decode code 247 = .ok (.iconst 2, 1) := by decide +kernel
theorem dL_248 : decode code 248 = .ok (.iadd, 1) := by decide +kernel
theorem dL_249 : decode code 249 = .ok (.iaload, 1) := by decide +kernel
theorem dL_250 : decode code 250 = .ok (.invokevirtual 31, 3) := by decide +kernel
theorem dL_253 : decode code 253 = .ok (.if_icmp .eq 979, 3) := by decide +kernel
theorem dL_258 : decode code 258 = .ok (.aload_n 1, 1) := by decide +kernel
theorem dL_259 : decode code 259 = .ok (.aload_n 0, 1) := by decide +kernel
theorem dL_260 : decode code 260 = .ok (.iload_n 3, 1) := by decide +kernel
theorem dL_261 : decode code 261 = .ok (.iconst 1, 1) := by decide +kernel
theorem dL_262 : decode code 262 = .ok (.iadd, 1) := by decide +kernel
theorem dL_263 : decode code 263 = .ok (.iaload, 1) := by decide +kernel
theorem dL_264 : decode code 264 = .ok (.aload_n 0, 1) := by decide +kernel
theorem dL_265 : decode code 265 = .ok (.iload_n 3, 1) := by decide +kernel
theorem dL_266 : decode code 266 = .ok (.iconst 2, 1) := by decide +kernel
theorem dL_267 : decode code 267 = .ok (.iadd, 1) := by decide +kernel
theorem dL_268 : decode code 268 = .ok (.iaload, 1) := by decide +kernel
theorem dL_269 : decode code 269 = .ok (.invokevirtual 32, 3) := by decide +kernel
theorem dL_272 : decode code 272 = .ok (.aload_n 2, 1) := by decide +kernel
theorem dL_273 : decode code 273 = .ok (.aload_n 0, 1) := by decide +kernel
theorem dL_274 : decode code 274 = .ok (.iload_n 3, 1) := by decide +kernel
theorem dL_275 : decode code 275 = .ok (.iconst 1, 1) := by decide +kernel
theorem dL_276 : decode code 276 = .ok (.iadd, 1) := by decide +kernel
theorem dL_277 : decode code 277 = .ok (.iaload, 1) := by decide +kernel
theorem dL_278 : decode code 278 = .ok (.aload_n 0, 1) := by decide +kernel
theorem dL_279 : decode code 279 = .ok (.iload_n 3, 1) := by decide +kernel
theorem dL_280 : decode code 280 = .ok (.iconst 2, 1) := by decide +kernel
theorem dL_281 : decode code 281 = .ok (.iadd, 1) := by decide +kernel
theorem dL_282 : decode code 282 = .ok (.iaload, 1) := by decide +kernel
theorem dL_283 : decode code 283 = .ok (.invokevirtual 35, 3) := by decide +kernel
theorem dL_286 : decode code 286 = .ok (.if_icmp .eq 946, 3) := by decide +kernel
theorem dL_291 : decode code 291 = .ok (.aload_n 1, 1) := by decide +kernel
theorem dL_292 : decode code 292 = .ok (.aload_n 0, 1) := by decide +kernel
theorem dL_293 : decode code 293 = .ok (.iload_n 3, 1) := by decide +kernel
theorem dL_294 : decode code 294 = .ok (.iconst 1, 1) := by decide +kernel
theorem dL_295 : decode code 295 = .ok (.iadd, 1) := by decide +kernel
theorem dL_296 : decode code 296 = .ok (.iaload, 1) := by decide +kernel
theorem dL_297 : decode code 297 = .ok (.invokevirtual 36, 3) := by decide +kernel
theorem dL_300 : decode code 300 = .ok (.aload_n 2, 1) := by decide +kernel
theorem dL_301 : decode code 301 = .ok (.aload_n 0, 1) := by decide +kernel
theorem dL_302 : decode code 302 = .ok (.iload_n 3, 1) := by decide +kernel
theorem dL_303 : decode code 303 = .ok (.iconst 1, 1) := by decide +kernel
theorem dL_304 : decode code 304 = .ok (.iadd, 1) := by decide +kernel
theorem dL_305 : decode code 305 = .ok (.iaload, 1) := by decide +kernel
theorem dL_306 : decode code 306 = .ok (.invokevirtual 39, 3) := by decide +kernel
theorem dL_309 : decode code 309 = .ok (.if_icmp .eq 923, 3) := by decide +kernel
theorem dL_314 : decode code 314 = .ok (.aload_n 1, 1) := by decide +kernel
theorem dL_315 : decode code 315 = .ok (.aload_n 0, 1) := by decide +kernel
theorem dL_316 : decode code 316 = .ok (.iload_n 3, 1) := by decide +kernel
theorem dL_317 : decode code 317 = .ok (.iconst 1, 1) := by decide +kernel
theorem dL_318 : decode code 318 = .ok (.iadd, 1) := by decide +kernel
theorem dL_319 : decode code 319 = .ok (.iaload, 1) := by decide +kernel
theorem dL_320 : decode code 320 = .ok (.aload_n 0, 1) := by decide +kernel
theorem dL_321 : decode code 321 = .ok (.iload_n 3, 1) := by decide +kernel
theorem dL_322 : decode code 322 = .ok (.iconst 2, 1) := by decide +kernel
theorem dL_323 : decode code 323 = .ok (.iadd, 1) := by decide +kernel
theorem dL_324 : decode code 324 = .ok (.iaload, 1) := by decide +kernel
theorem dL_325 : decode code 325 = .ok (.aload_n 0, 1) := by decide +kernel
theorem dL_326 : decode code 326 = .ok (.iload_n 3, 1) := by decide +kernel
theorem dL_327 : decode code 327 = .ok (.iconst 3, 1) := by decide +kernel
theorem dL_328 : decode code 328 = .ok (.iadd, 1) := by decide +kernel
theorem dL_329 : decode code 329 = .ok (.iaload, 1) := by decide +kernel
theorem dL_330 : decode code 330 = .ok (.invokevirtual 40, 3) := by decide +kernel
theorem dL_333 : decode code 333 = .ok (.aload_n 2, 1) := by decide +kernel
theorem dL_334 : decode code 334 = .ok (.aload_n 0, 1) := by decide +kernel
theorem dL_335 : decode code 335 = .ok (.iload_n 3, 1) := by decide +kernel
theorem dL_336 : decode code 336 = .ok (.iconst 1, 1) := by decide +kernel
theorem dL_337 : decode code 337 = .ok (.iadd, 1) := by decide +kernel
theorem dL_338 : decode code 338 = .ok (.iaload, 1) := by decide +kernel
theorem dL_339 : decode code 339 = .ok (.aload_n 0, 1) := by decide +kernel
theorem dL_340 : decode code 340 = .ok (.iload_n 3, 1) := by decide +kernel
theorem dL_341 : decode code 341 = .ok (.iconst 2, 1) := by decide +kernel
theorem dL_342 : decode code 342 = .ok (.iadd, 1) := by decide +kernel
theorem dL_343 : decode code 343 = .ok (.iaload, 1) := by decide +kernel
theorem dL_344 : decode code 344 = .ok (.aload_n 0, 1) := by decide +kernel
theorem dL_345 : decode code 345 = .ok (.iload_n 3, 1) := by decide +kernel
theorem dL_346 : decode code 346 = .ok (.iconst 3, 1) := by decide +kernel
theorem dL_347 : decode code 347 = .ok (.iadd, 1) := by decide +kernel
theorem dL_348 : decode code 348 = .ok (.iaload, 1) := by decide +kernel
theorem dL_349 : decode code 349 = .ok (.invokevirtual 44, 3) := by decide +kernel
theorem dL_352 : decode code 352 = .ok (.if_icmp .eq 880, 3) := by decide +kernel
theorem dL_357 : decode code 357 = .ok (.aload_n 1, 1) := by decide +kernel
theorem dL_358 : decode code 358 = .ok (.aload_n 0, 1) := by decide +kernel
theorem dL_359 : decode code 359 = .ok (.iload_n 3, 1) := by decide +kernel
theorem dL_360 : decode code 360 = .ok (.iconst 1, 1) := by decide +kernel
theorem dL_361 : decode code 361 = .ok (.iadd, 1) := by decide +kernel
theorem dL_362 : decode code 362 = .ok (.iaload, 1) := by decide +kernel
theorem dL_363 : decode code 363 = .ok (.invokevirtual 45, 3) := by decide +kernel
theorem dL_366 : decode code 366 = .ok (.aload_n 2, 1) := by decide +kernel
theorem dL_367 : decode code 367 = .ok (.aload_n 0, 1) := by decide +kernel
theorem dL_368 : decode code 368 = .ok (.iload_n 3, 1) := by decide +kernel
theorem dL_369 : decode code 369 = .ok (.iconst 1, 1) := by decide +kernel
theorem dL_370 : decode code 370 = .ok (.iadd, 1) := by decide +kernel
theorem dL_371 : decode code 371 = .ok (.iaload, 1) := by decide +kernel
theorem dL_372 : decode code 372 = .ok (.invokevirtual 48, 3) := by decide +kernel
theorem dL_375 : decode code 375 = .ok (.if_icmp .eq 857, 3) := by decide +kernel
theorem dL_380 : decode code 380 = .ok (.aload_n 1, 1) := by decide +kernel
theorem dL_381 : decode code 381 = .ok (.invokevirtual 49, 3) := by decide +kernel
theorem dL_384 : decode code 384 = .ok (.aload_n 2, 1) := by decide +kernel
theorem dL_385 : decode code 385 = .ok (.invokevirtual 52, 3) := by decide +kernel
theorem dL_388 : decode code 388 = .ok (.if_icmp .eq 844, 3) := by decide +kernel
theorem dL_393 : decode code 393 = .ok (.aload_n 1, 1) := by decide +kernel
theorem dL_394 : decode code 394 = .ok (.aload_n 0, 1) := by decide +kernel
theorem dL_395 : decode code 395 = .ok (.iload_n 3, 1) := by decide +kernel
theorem dL_396 : decode code 396 = .ok (.iconst 1, 1) := by decide +kernel
theorem dL_397 : decode code 397 = .ok (.iadd, 1) := by decide +kernel
theorem dL_398 : decode code 398 = .ok (.iaload, 1) := by decide +kernel
theorem dL_399 : decode code 399 = .ok (.aload_n 0, 1) := by decide +kernel
theorem dL_400 : decode code 400 = .ok (.iload_n 3, 1) := by decide +kernel
theorem dL_401 : decode code 401 = .ok (.iconst 2, 1) := by decide +kernel
theorem dL_402 : decode code 402 = .ok (.iadd, 1) := by decide +kernel
theorem dL_403 : decode code 403 = .ok (.iaload, 1) := by decide +kernel
theorem dL_404 : decode code 404 = .ok (.invokevirtual 53, 3) := by decide +kernel
theorem dL_407 : decode code 407 = .ok (.aload_n 2, 1) := by decide +kernel
theorem dL_408 : decode code 408 = .ok (.aload_n 0, 1) := by decide +kernel
theorem dL_409 : decode code 409 = .ok (.iload_n 3, 1) := by decide +kernel
theorem dL_410 : decode code 410 = .ok (.iconst 1, 1) := by decide +kernel
theorem dL_411 : decode code 411 = .ok (.iadd, 1) := by decide +kernel
theorem dL_412 : decode code 412 = .ok (.iaload, 1) := by decide +kernel
theorem dL_413 : decode code 413 = .ok (.aload_n 0, 1) := by decide +kernel
theorem dL_414 : decode code 414 = .ok (.iload_n 3, 1) := by decide +kernel
theorem dL_415 : decode code 415 = .ok (.iconst 2, 1) := by decide +kernel
theorem dL_416 : decode code 416 = .ok (.iadd, 1) := by decide +kernel
theorem dL_417 : decode code 417 = .ok (.iaload, 1) := by decide +kernel
theorem dL_418 : decode code 418 = .ok (.invokevirtual 56, 3) := by decide +kernel
theorem dL_421 : decode code 421 = .ok (.if_icmp .eq 811, 3) := by decide +kernel
theorem dL_426 : decode code 426 = .ok (.aload_n 1, 1) := by decide +kernel
theorem dL_427 : decode code 427 = .ok (.aload_n 0, 1) := by decide +kernel
theorem dL_428 : decode code 428 = .ok (.iload_n 3, 1) := by decide +kernel
theorem dL_429 : decode code 429 = .ok (.iconst 1, 1) := by decide +kernel
theorem dL_430 : decode code 430 = .ok (.iadd, 1) := by decide +kernel
theorem dL_431 : decode code 431 = .ok (.iaload, 1) := by decide +kernel
theorem dL_432 : decode code 432 = .ok (.invokevirtual 57, 3) := by decide +kernel
theorem dL_435 : decode code 435 = .ok (.aload_n 2, 1) := by decide +kernel
theorem dL_436 : decode code 436 = .ok (.aload_n 0, 1) := by decide +kernel
theorem dL_437 : decode code 437 = .ok (.iload_n 3, 1) := by decide +kernel
theorem dL_438 : decode code 438 = .ok (.iconst 1, 1) := by decide +kernel
theorem dL_439 : decode code 439 = .ok (.iadd, 1) := by decide +kernel
theorem dL_440 : decode code 440 = .ok (.iaload, 1) := by decide +kernel
theorem dL_441 : decode code 441 = .ok (.invokevirtual 60, 3) := by decide +kernel
theorem dL_444 : decode code 444 = .ok (.if_icmp .eq 788, 3) := by decide +kernel
theorem dL_449 : decode code 449 = .ok (.aload_n 1, 1) := by decide +kernel
theorem dL_450 : decode code 450 = .ok (.aload_n 0, 1) := by decide +kernel
theorem dL_451 : decode code 451 = .ok (.iload_n 3, 1) := by decide +kernel
theorem dL_452 : decode code 452 = .ok (.iconst 1, 1) := by decide +kernel
theorem dL_453 : decode code 453 = .ok (.iadd, 1) := by decide +kernel
theorem dL_454 : decode code 454 = .ok (.iaload, 1) := by decide +kernel
theorem dL_455 : decode code 455 = .ok (.invokevirtual 61, 3) := by decide +kernel
theorem dL_458 : decode code 458 = .ok (.aload_n 2, 1) := by decide +kernel
theorem dL_459 : decode code 459 = .ok (.aload_n 0, 1) := by decide +kernel
theorem dL_460 : decode code 460 = .ok (.iload_n 3, 1) := by decide +kernel
theorem dL_461 : decode code 461 = .ok (.iconst 1, 1) := by decide +kernel
theorem dL_462 : decode code 462 = .ok (.iadd, 1) := by decide +kernel
theorem dL_463 : decode code 463 = .ok (.iaload, 1) := by decide +kernel
theorem dL_464 : decode code 464 = .ok (.invokevirtual 64, 3) := by decide +kernel
theorem dL_467 : decode code 467 = .ok (.if_icmp .eq 765, 3) := by decide +kernel
theorem dL_472 : decode code 472 = .ok (.aload_n 1, 1) := by decide +kernel
theorem dL_473 : decode code 473 = .ok (.aload_n 0, 1) := by decide +kernel
theorem dL_474 : decode code 474 = .ok (.iload_n 3, 1) := by decide +kernel
theorem dL_475 : decode code 475 = .ok (.iconst 1, 1) := by decide +kernel
theorem dL_476 : decode code 476 = .ok (.iadd, 1) := by decide +kernel
theorem dL_477 : decode code 477 = .ok (.iaload, 1) := by decide +kernel
theorem dL_478 : decode code 478 = .ok (.aload_n 0, 1) := by decide +kernel
theorem dL_479 : decode code 479 = .ok (.iload_n 3, 1) := by decide +kernel
theorem dL_480 : decode code 480 = .ok (.iconst 2, 1) := by decide +kernel
theorem dL_481 : decode code 481 = .ok (.iadd, 1) := by decide +kernel
theorem dL_482 : decode code 482 = .ok (.iaload, 1) := by decide +kernel
theorem dL_483 : decode code 483 = .ok (.invokevirtual 65, 3) := by decide +kernel
theorem dL_486 : decode code 486 = .ok (.aload_n 2, 1) := by decide +kernel
theorem dL_487 : decode code 487 = .ok (.aload_n 0, 1) := by decide +kernel
theorem dL_488 : decode code 488 = .ok (.iload_n 3, 1) := by decide +kernel
theorem dL_489 : decode code 489 = .ok (.iconst 1, 1) := by decide +kernel
theorem dL_490 : decode code 490 = .ok (.iadd, 1) := by decide +kernel
theorem dL_491 : decode code 491 = .ok (.iaload, 1) := by decide +kernel
theorem dL_492 : decode code 492 = .ok (.aload_n 0, 1) := by decide +kernel
theorem dL_493 : decode code 493 = .ok (.iload_n 3, 1) := by decide +kernel
theorem dL_494 : decode code 494 = .ok (.iconst 2, 1) := by decide +kernel
theorem dL_495 : decode code 495 = .ok (.iadd, 1) := by decide +kernel
theorem dL_496 : decode code 496 = .ok (.iaload, 1) := by decide +kernel
theorem dL_497 : decode code 497 = .ok (.invokevirtual 68, 3) := by decide +kernel
theorem dL_500 : decode code 500 = .ok (.if_icmp .eq 732, 3) := by decide +kernel
theorem dL_505 : decode code 505 = .ok (.aload_n 1, 1) := by decide +kernel
theorem dL_506 : decode code 506 = .ok (.aload_n 0, 1) := by decide +kernel
theorem dL_507 : decode code 507 = .ok (.iload_n 3, 1) := by decide +kernel
theorem dL_508 : decode code 508 = .ok (.iconst 1, 1) := by decide +kernel
theorem dL_509 : decode code 509 = .ok (.iadd, 1) := by decide +kernel
theorem dL_510 : decode code 510 = .ok (.iaload, 1) := by decide +kernel
theorem dL_511 : decode code 511 = .ok (.aload_n 0, 1) := by decide +kernel
theorem dL_512 : decode code 512 = .ok (.iload_n 3, 1) := by decide +kernel
theorem dL_513 : decode code 513 = .ok (.iconst 2, 1) := by decide +kernel
theorem dL_514 : decode code 514 = .ok (.iadd, 1) := by decide +kernel
theorem dL_515 : decode code 515 = .ok (.iaload, 1) := by decide +kernel
theorem dL_516 : decode code 516 = .ok (.aload_n 0, 1) := by decide +kernel
theorem dL_517 : decode code 517 = .ok (.iload_n 3, 1) := by decide +kernel
theorem dL_518 : decode code 518 = .ok (.iconst 3, 1) := by decide +kernel
theorem dL_519 : decode code 519 = .ok (.iadd, 1) := by decide +kernel
theorem dL_520 : decode code 520 = .ok (.iaload, 1) := by decide +kernel
theorem dL_521 : decode code 521 = .ok (.aload_n 0, 1) := by decide +kernel
theorem dL_522 : decode code 522 = .ok (.iload_n 3, 1) := by decide +kernel
theorem dL_523 : decode code 523 = .ok (.iconst 4, 1) := by decide +kernel
theorem dL_524 : decode code 524 = .ok (.iadd, 1) := by decide +kernel
theorem dL_525 : decode code 525 = .ok (.iaload, 1) := by decide +kernel
theorem dL_526 : decode code 526 = .ok (.aload_n 0, 1) := by decide +kernel
theorem dL_527 : decode code 527 = .ok (.iload_n 3, 1) := by decide +kernel
theorem dL_528 : decode code 528 = .ok (.iconst 5, 1) := by decide +kernel
theorem dL_529 : decode code 529 = .ok (.iadd, 1) := by decide +kernel
theorem dL_530 : decode code 530 = .ok (.iaload, 1) := by decide +kernel
theorem dL_531 : decode code 531 = .ok (.aload_n 0, 1) := by decide +kernel
theorem dL_532 : decode code 532 = .ok (.iload_n 3, 1) := by decide +kernel
theorem dL_533 : decode code 533 = .ok (.bipush 6, 2) := by decide +kernel
theorem dL_535 : decode code 535 = .ok (.iadd, 1) := by decide +kernel
theorem dL_536 : decode code 536 = .ok (.iaload, 1) := by decide +kernel
theorem dL_537 : decode code 537 = .ok (.invokevirtual 69, 3) := by decide +kernel
theorem dL_540 : decode code 540 = .ok (.aload_n 2, 1) := by decide +kernel
