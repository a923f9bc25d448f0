/-! decode rows (by program) -/
theorem dx_L_law_0 : decode (go_cc mx_L_law) 0 = .ok (.new 7, 3) := by decide +kernel
theorem dx_L_law_3 : decode (go_cc mx_L_law) 3 = .ok (.dup, 1) := by decide +kernel
theorem dx_L_law_4 : decode (go_cc mx_L_law) 4 = .ok (.invokespecial 9, 3) := by decide +kernel
theorem dx_L_law_7 : decode (go_cc mx_L_law) 7 = .ok (.astore_n 1, 1) := by decide +kernel
theorem dx_L_law_8 : decode (go_cc mx_L_law) 8 = .ok (.new 10, 3) := by decide +kernel
theorem dx_L_law_11 : decode (go_cc mx_L_law) 11 = .ok (.dup, 1) := by decide +kernel
theorem dx_L_law_12 : decode (go_cc mx_L_law) 12 = .ok (.invokespecial 12, 3) := by decide +kernel
theorem dx_L_law_15 : decode (go_cc mx_L_law) 15 = .ok (.astore_n 2, 1) := by decide +kernel
theorem dx_L_law_16 : decode (go_cc mx_L_law) 16 = .ok (.iconst 0, 1) := by decide +kernel
theorem dx_L_law_17 : decode (go_cc mx_L_law) 17 = .ok (.istore_n 3, 1) := by decide +kernel
theorem dx_L_law_18 : decode (go_cc mx_L_law) 18 = .ok (.iload_n 3, 1) := by decide +kernel
theorem dx_L_law_19 : decode (go_cc mx_L_law) 19 = .ok (.aload_n 0, 1) := by decide +kernel
theorem dx_L_law_20 : decode (go_cc mx_L_law) 20 = .ok (.arraylength, 1) := by decide +kernel
theorem dx_L_law_21 : decode (go_cc mx_L_law) 21 = .ok (.bipush 6, 2) := by decide +kernel
theorem dx_L_law_23 : decode (go_cc mx_L_law) 23 = .ok (.isub, 1) := by decide +kernel
theorem dx_L_law_24 : decode (go_cc mx_L_law) 24 = .ok (.if_icmp .gt 1520, 3) := by decide +kernel
theorem dx_L_law_27 : decode (go_cc mx_L_law) 27 = .ok (.aload_n 0, 1) := by decide +kernel
theorem dx_L_law_28 : decode (go_cc mx_L_law) 28 = .ok (.iload_n 3, 1) := by decide +kernel
theorem dx_L_law_29 : decode (go_cc mx_L_law) 29 = .ok (.iaload, 1) := by decide +kernel
theorem dx_L_law_30 : decode (go_cc mx_L_law) 30 = .ok (.bipush 63, 2) := by decide +kernel
theorem dx_L_law_32 : decode (go_cc mx_L_law) 32 = .ok (.iand, 1) := by decide +kernel
theorem dx_L_law_33 : decode (go_cc mx_L_law) 33 = .ok (.tableswitch 1505 0 47 #[207, 270, 293, 316, 339, 362, 385, 418, 431, 464, 497, 520, 533, 556, 579, 613, 626, 669, 682, 725, 778, 811, 844, 888, 911, 924, 957, 1000, 1023, 1056, 1079, 1092, 1115, 1128, 1141, 1154, 1177, 1211, 1224, 1247, 1270, 1303, 1336, 1379, 1413, 1436, 1459, 1482], 207) := by decide +kernel
theorem dx_L_law_240 : decode (go_cc mx_L_law) 240 = .ok (.aload_n 1, 1) := by decide +kernel
theorem dx_L_law_241 : decode (go_cc mx_L_law) 241 = .ok (.aload_n 0, 1) := by decide +kernel
theorem dx_L_law_242 : decode (go_cc mx_L_law) 242 = .ok (.iload_n 3, 1) := by decide +kernel
theorem dx_L_law_243 : decode (go_cc mx_L_law) 243 = .ok (.iconst 1, 1) := by decide +kernel
theorem dx_L_law_244 : decode (go_cc mx_L_law) 244 = .ok (.iadd, 1) := by decide +kernel
theorem dx_L_law_245 : decode (go_cc mx_L_law) 245 = .ok (.iaload, 1) := by decide +kernel
theorem dx_L_law_246 : decode (go_cc mx_L_law) 246 = .ok (.aload_n 0, 1) := by decide +kernel
theorem dx_L_law_247 : decode (go_cc mx_L_law) 247 = .ok (.iload_n 3, 1) := by decide +kernel
theorem dx_L_law_248 : decode (go_cc mx_L_law) 248 = .ok (.iconst 2, 1) := by decide +kernel
theorem dx_L_law_249 : decode (go_cc mx_L_law) 249 = .ok (.iadd, 1) := by decide +kernel
theorem dx_L_law_250 : decode (go_cc mx_L_law) 250 = .ok (.iaload, 1) := by decide +kernel
theorem dx_L_law_251 : decode (go_cc mx_L_law) 251 = .ok (.aload_n 0, 1) := by decide +kernel
theorem dx_L_law_252 : decode (go_cc mx_L_law) 252 = .ok (.iload_n 3, 1) := by decide +kernel
theorem dx_L_law_253 : decode (go_cc mx_L_law) 253 = .ok (.iconst 3, 1) := by decide +kernel
theorem dx_L_law_254 : decode (go_cc mx_L_law) 254 = .ok (.iadd, 1) := by decide +kernel
theorem dx_L_law_255 : decode (go_cc mx_L_law) 255 = .ok (.iaload, 1) := by decide +kernel
theorem dx_L_law_256 : decode (go_cc mx_L_law) 256 = .ok (.aload_n 0, 1) := by decide +kernel
theorem dx_L_law_257 : decode (go_cc mx_L_law) 257 = .ok (.iload_n 3, 1) := by decide +kernel
theorem dx_L_law_258 : decode (go_cc mx_L_law) 258 = .ok (.iconst 4, 1) := by decide +kernel
theorem dx_L_law_259 : decode (go_cc mx_L_law) 259 = .ok (.iadd, 1) := by decide +kernel
theorem dx_L_law_260 : decode (go_cc mx_L_law) 260 = .ok (.iaload, 1) := by decide +kernel
theorem dx_L_law_261 : decode (go_cc mx_L_law) 261 = .ok (.aload_n 0, 1) := by decide +kernel
theorem dx_L_law_262 : decode (go_cc mx_L_law) 262 = .ok (.iload_n 3, 1) := by decide +kernel
theorem dx_L_law_263 : decode (go_cc mx_L_law) 263 = .ok (.iconst 5, 1) := by decide +kernel
theorem dx_L_law_264 : decode (go_cc mx_L_law) 264 = .ok (.iadd, 1) := by decide +kernel
theorem dx_L_law_265 : decode (go_cc mx_L_law) 265 = .ok (.iaload, 1) := by decide +kernel
theorem dx_L_law_266 : decode (go_cc mx_L_law) 266 = .ok (.invokevirtual 13, 3) := by decide +kernel
theorem dx_L_law_269 : decode (go_cc mx_L_law) 269 = .ok (.aload_n 2, 1) := by decide +kernel
theorem dx_L_law_270 : decode (go_cc mx_L_law) 270 = .ok (.aload_n 0, 1) := by decide +kernel
theorem dx_L_law_271 : decode (go_cc mx_L_law) 271 = .ok (.iload_n 3, 1) := by decide +kernel
theorem dx_L_law_272 : decode (go_cc mx_L_law) 272 = .ok (.iconst 1, 1) := by decide +kernel
theorem dx_L_law_273 : decode (go_cc mx_L_law) 273 = .ok (.iadd, 1) := by decide +kernel
theorem dx_L_law_274 : decode (go_cc mx_L_law) 274 = .ok (.iaload, 1) := by decide +kernel
theorem dx_L_law_275 : decode (go_cc mx_L_law) 275 = .ok (.aload_n 0, 1) := by decide +kernel
theorem dx_L_law_276 : decode (go_cc mx_L_law) 276 = .ok (.iload_n 3, 1) := by decide +kernel
theorem dx_L_law_277 : decode (go_cc mx_L_law) 277 = .ok (.iconst 2, 1) := by decide +kernel
theorem dx_L_law_278 : decode (go_cc mx_L_law) 278 = .ok (.iadd, 1) := by decide +kernel
theorem dx_L_law_279 : decode (go_cc mx_L_law) 279 = .ok (.iaload, 1) := by decide +kernel
theorem dx_L_law_280 : decode (go_cc mx_L_law) 280 = .ok (.aload_n 0, 1) := by decide +kernel
theorem dx_L_law_281 : decode (go_cc mx_L_law) 281 = .ok (.iload_n 3, 1) := by decide +kernel
theorem dx_L_law_282 : decode (go_cc mx_L_law) 282 = .ok (.iconst 3, 1) := by decide +kernel
theorem dx_L_law_283 : decode (go_cc mx_L_law) 283 = .ok (.iadd, 1) := by decide +kernel
theorem dx_L_law_284 : decode (go_cc mx_L_law) 284 = .ok (.iaload, 1) := by decide +kernel
theorem dx_L_law_285 : decode (go_cc mx_L_law) 285 = .ok (.aload_n 0, 1) := by decide +kernel
theorem dx_L_law_286 : decode (go_cc mx_L_law) 286 = .ok (.iload_n 3, 1) := by decide +kernel
theorem dx_L_law_287 : decode (go_cc mx_L_law) 287 = .ok (.iconst 4, 1) := by decide +kernel
theorem dx_L_law_288 : decode (go_cc mx_L_law) 288 = .ok (.iadd, 1) := by decide +kernel
theorem dx_L_law_289 : decode (go_cc mx_L_law) 289 = .ok (.iaload, 1) := by decide +kernel
theorem dx_L_law_290 : decode (go_cc mx_L_law) 290 = .ok (.aload_n 0, 1) := by decide +kernel
theorem dx_L_law_291 : decode (go_cc mx_L_law) 291 = .ok (.iload_n 3, 1) := by decide +kernel
theorem dx_L_law_292 : decode (go_cc mx_L_law) 292 = .ok (.iconst 5, 1) := by decide +kernel
theorem dx_L_law_293 : decode (go_cc mx_L_law) 293 = .ok (.iadd, 1) := by decide +kernel
theorem dx_L_law_294 : decode (go_cc mx_L_law) 294 = .ok (.iaload, 1) := by decide +kernel
theorem dx_L_law_295 : decode (go_cc mx_L_law) 295 = .ok (.invokevirtual 17, 3) := by decide +kernel
theorem dx_L_law_298 : decode (go_cc mx_L_law) 298 = .ok (.if_icmp .eq 1240, 3) := by decide +kernel
theorem dx_L_law_301 : decode (go_cc mx_L_law) 301 = .ok (.iconst 0, 1) := by decide +kernel
theorem dx_L_law_302 : decode (go_cc mx_L_law) 302 = .ok (.ireturn, 1) := by decide +kernel
theorem dx_L_law_303 : decode (go_cc mx_L_law) 303 = .ok (.aload_n 1, 1) := by decide +kernel
theorem dx_L_law_304 : decode (go_cc mx_L_law) 304 = .ok (.aload_n 0, 1) := by decide +kernel
theorem dx_L_law_305 : decode (go_cc mx_L_law) 305 = .ok (.iload_n 3, 1) := by decide +kernel
theorem dx_L_law_306 : decode (go_cc mx_L_law) 306 = .ok (.iconst 1, 1) := by decide +kernel
theorem dx_L_law_307 : decode (go_cc mx_L_law) 307 = .ok (.iadd, 1) := by decide +kernel
theorem dx_L_law_308 : decode (go_cc mx_L_law) 308 = .ok (.iaload, 1) := by decide +kernel
theorem dx_L_law_309 : decode (go_cc mx_L_law) 309 = .ok (.invokevirtual 18, 3) := by decide +kernel
theorem dx_L_law_312 : decode (go_cc mx_L_law) 312 = .ok (.aload_n 2, 1) := by decide +kernel
theorem dx_L_law_313 : decode (go_cc mx_L_law) 313 = .ok (.aload_n 0, 1) := by decide +kernel
theorem dx_L_law_314 : decode (go_cc mx_L_law) 314 = .ok (.iload_n 3, 1) := by decide +kernel
theorem dx_L_law_315 : decode (go_cc mx_L_law) 315 = .ok (.iconst 1, 1) := by decide +kernel
theorem dx_L_law_316 : decode (go_cc mx_L_law) 316 = .ok (.iadd, 1) := by decide +kernel
theorem dx_L_law_317 : decode (go_cc mx_L_law) 317 = .ok (.iaload, 1) := by decide +kernel
theorem dx_L_law_318 : decode (go_cc mx_L_law) 318 = .ok (.invokevirtual 22, 3) := by decide +kernel
theorem dx_L_law_321 : decode (go_cc mx_L_law) 321 = .ok (.if_icmp .eq 1217, 3) := by decide +kernel
theorem dx_L_law_324 : decode (go_cc mx_L_law) 324 = .ok (.iconst 0, 1) := by decide +kernel
theorem dx_L_law_325 : decode (go_cc mx_L_law) 325 = .ok (.ireturn, 1) := by decide +kernel
theorem dx_L_law_326 : decode (go_cc mx_L_law) 326 = .ok (.aload_n 1, 1) := by decide +kernel
theorem dx_L_law_327 : decode (go_cc mx_L_law) 327 = .ok (.aload_n 0, 1) := by decide +kernel
theorem dx_L_law_328 : decode (go_cc mx_L_law) 328 = .ok (.iload_n 3, 1) := by decide +kernel
theorem dx_L_law_329 : decode (go_cc mx_L_law) 329 = .ok (.iconst 1, 1) := by decide +kernel
theorem dx_L_law_330 : decode (go_cc mx_L_law) 330 = .ok (.iadd, 1) := by decide +kernel
theorem dx_L_law_331 : decode (go_cc mx_L_law) 331 = .ok (.iaload, 1) := by decide +kernel
theorem dx_L_law_332 : decode (go_cc mx_L_law) 332 = .ok (.invokevirtual 23, 3) := by decide +kernel
theorem dx_L_law_335 : decode (go_cc mx_L_law) 335 = .ok (.aload_n 2, 1) := by decide +kernel
theorem dx_L_law_336 : decode (go_cc mx_L_law) 336 = .ok (.aload_n 0, 1) := by decide +kernel
theorem dx_L_law_337 : decode (go_cc mx_L_law) 337 = .ok (.iload_n 3, 1) := by decide +kernel
theorem dx_L_law_338 : decode (go_cc mx_L_law) 338 = .ok (.iconst 1, 1) := by decide +kernel
theorem dx_L_law_339 : decode (go_cc mx_L_law) 339 = .ok (.iadd, 1) := by decide +kernel
theorem dx_L_law_340 : decode (go_cc mx_L_law) 340 = .ok (.iaload, 1) := by decide +kernel
theorem dx_L_law_341 : decode (go_cc mx_L_law) 341 = .ok (.invokevirtual 26, 3) := by decide +kernel
theorem dx_L_law_344 : decode (go_cc mx_L_law) 344 = .ok (.if_icmp .eq 1194, 3) := by decide +kernel
theorem dx_L_law_347 : decode (go_cc mx_L_law) 347 = .ok (.iconst 0, 1) := by decide +kernel
theorem dx_L_law_348 : decode (go_cc mx_L_law) 348 = .ok (.ireturn, 1) := by decide +kernel
theorem dx_L_law_349 : decode (go_cc mx_L_law) 349 = .ok (.aload_n 1, 1) := by decide +kernel
theorem dx_L_law_350 : decode (go_cc mx_L_law) 350 = .ok (.aload_n 0, 1) := by decide +kernel
theorem dx_L_law_351 : decode (go_cc mx_L_law) 351 = .ok (.iload_n 3, 1) := by decide +kernel
theorem dx_L_law_352 : decode (go_cc mx_L_law) 352 = .ok (.iconst 1, 1) := by decide +kernel
theorem dx_L_law_353 : decode (go_cc mx_L_law) 353 = .ok (.iadd, 1) := by decide +kernel
theorem dx_L_law_354 : decode (go_cc mx_L_law) 354 = .ok (.iaload, 1) := by decide +kernel
theorem dx_L_law_355 : decode (go_cc mx_L_law) 355 = .ok (.invokevirtual 27, 3) := by decide +kernel
theorem dx_L_law_358 : decode (go_cc mx_L_law) 358 = .ok (.aload_n 2, 1) := by decide +kernel
theorem dx_L_law_359 : decode (go_cc mx_L_law) 359 = .ok (.aload_n 0, 1) := by decide +kernel
theorem dx_L_law_360 : decode (go_cc mx_L_law) 360 = .ok (.iload_n 3, 1) := by decide +kernel
theorem dx_L_law_361 : decode (go_cc mx_L_law) 361 = .ok (.iconst 1, 1) := by decide +kernel
theorem dx_L_law_362 : decode (go_cc mx_L_law) 362 = .ok (.iadd, 1) := by decide +kernel
theorem dx_L_law_363 : decode (go_cc mx_L_law) 363 = .ok (.iaload, 1) := by decide +kernel
theorem dx_L_law_364 : decode (go_cc mx_L_law) 364 = .ok (.invokevirtual 30, 3) := by decide +kernel
theorem dx_L_law_367 : decode (go_cc mx_L_law) 367 = .ok (.if_icmp .eq 1171, 3) := by decide +kernel
theorem dx_L_law_370 : decode (go_cc mx_L_law) 370 = .ok (.iconst 0, 1) := by decide +kernel
theorem dx_L_law_371 : decode (go_cc mx_L_law) 371 = .ok (.ireturn, 1) := by decide +kernel
theorem dx_L_law_372 : decode (go_cc mx_L_law) 372 = .ok (.aload_n 1, 1) := by decide +kernel
theorem dx_L_law_373 : decode (go_cc mx_L_law) 373 = .ok (.aload_n 0, 1) := by decide +kernel
theorem dx_L_law_374 : decode (go_cc mx_L_law) 374 = .ok (.iload_n 3, 1) := by decide +kernel
theorem dx_L_law_375 : decode (go_cc mx_L_law) 375 = .ok (.iconst 1, 1) := by decide +kernel
theorem dx_L_law_376 : decode (go_cc mx_L_law) 376 = .ok (.iadd, 1) := by decide +kernel
theorem dx_L_law_377 : decode (go_cc mx_L_law) 377 = .ok (.iaload, 1) := by decide +kernel
theorem dx_L_law_378 : decode (go_cc mx_L_law) 378 = .ok (.invokevirtual 31, 3) := by decide +kernel
theorem dx_L_law_381 : decode (go_cc mx_L_law) 381 = .ok (.aload_n 2, 1) := by decide +kernel
theorem dx_L_law_382 : decode (go_cc mx_L_law) 382 = .ok (.aload_n 0, 1) := by decide +kernel
theorem dx_L_law_383 : decode (go_cc mx_L_law) 383 = .ok (.iload_n 3, 1) := by decide +kernel
theorem dx_L_law_384 : decode (go_cc mx_L_law) 384 = .ok (.iconst 1, 1) := by decide +kernel
theorem dx_L_law_385 : decode (go_cc mx_L_law) 385 = .ok (.iadd, 1) := by decide +kernel
theorem dx_L_law_386 : decode (go_cc mx_L_law) 386 = .ok (.iaload, 1) := by decide +kernel
theorem dx_L_law_387 : decode (go_cc mx_L_law) 387 = .ok (.invokevirtual 34, 3) := by decide +kernel
theorem dx_L_law_390 : decode (go_cc mx_L_law) 390 = .ok (.if_icmp .eq 1148, 3) := by decide +kernel
theorem dx_L_law_393 : decode (go_cc mx_L_law) 393 = .ok (.iconst 0, 1) := by decide +kernel
theorem dx_L_law_394 : decode (go_cc mx_L_law) 394 = .ok (.ireturn, 1) := by decide +kernel
theorem dx_L_law_395 : decode (go_cc mx_L_law) 395 = .ok (.aload_n 1, 1) := by decide +kernel
theorem dx_L_law_396 : decode (go_cc mx_L_law) 396 = .ok (.aload_n 0, 1) := by decide +kernel
theorem dx_L_law_397 : decode (go_cc mx_L_law) 397 = .ok (.iload_n 3, 1) := by decide +kernel
theorem dx_L_law_398 : decode (go_cc mx_L_law) 398 = .ok (.iconst 1, 1) := by decide +kernel
theorem dx_L_law_399 : decode (go_cc mx_L_law) 399 = .ok (.iadd, 1) := by decide +kernel
theorem dx_L_law_400 : decode (go_cc mx_L_law) 400 = .ok (.iaload, 1) := by decide +kernel
theorem dx_L_law_401 : decode (go_cc mx_L_law) 401 = .ok (.invokevirtual 35, 3) := by decide +kernel
theorem dx_L_law_404 : decode (go_cc mx_L_law) 404 = .ok (.aload_n 2, 1) := by decide +kernel
theorem dx_L_law_405 : decode (go_cc mx_L_law) 405 = .ok (.aload_n 0, 1) := by decide +kernel
theorem dx_L_law_406 : decode (go_cc mx_L_law) 406 = .ok (.iload_n 3, 1) := by decide +kernel
theorem dx_L_law_407 : decode (go_cc mx_L_law) 407 = .ok (.iconst 1, 1) := by decide +kernel
theorem dx_L_law_408 : decode (go_cc mx_L_law) 408 = .ok (.iadd, 1) := by decide +kernel
theorem dx_L_law_409 : decode (go_cc mx_L_law) 409 = .ok (.iaload, 1) := by decide +kernel
theorem dx_L_law_410 : decode (go_cc mx_L_law) 410 = .ok (.invokevirtual 38, 3) := by decide +kernel
theorem dx_L_law_413 : decode (go_cc mx_L_law) 413 = .ok (.if_icmp .eq 1125, 3) := by decide +kernel
theorem dx_L_law_416 : decode (go_cc mx_L_law) 416 = .ok (.iconst 0, 1) := by decide +kernel
theorem dx_L_law_417 : decode (go_cc mx_L_law) 417 = .ok (.ireturn, 1) := by decide +kernel
theorem dx_L_law_418 : decode (go_cc mx_L_law) 418 = .ok (.aload_n 1, 1) := by decide +kernel
theorem dx_L_law_419 : decode (go_cc mx_L_law) 419 = .ok (.aload_n 0, 1) := by decide +kernel
theorem dx_L_law_420 : decode (go_cc mx_L_law) 420 = .ok (.iload_n 3, 1) := by decide +kernel
theorem dx_L_law_421 : decode (go_cc mx_L_law) 421 = .ok (.iconst 1, 1) := by decide +kernel
theorem dx_L_law_422 : decode (go_cc mx_L_law) 422 = .ok (.iadd, 1) := by decide +kernel
theorem dx_L_law_423 : decode (go_cc mx_L_law) 423 = .ok (.iaload, 1) := by decide +kernel
theorem dx_L_law_424 : decode (go_cc mx_L_law) 424 = .ok (.aload_n 0, 1) := by decide +kernel
theorem dx_L_law_425 : decode (go_cc mx_L_law) 425 = .ok (.iload_n 3, 1) := by decide +kernel
theorem dx_L_law_426 : decode (go_cc mx_L_law) 426 = .ok (.iconst 2, 1) := by decide +kernel
theorem dx_L_law_427 : decode (go_cc mx_L_law) 427 = .ok (.iadd, 1) := by decide +kernel
theorem dx_L_law_428 : decode (go_cc mx_L_law) 428 = .ok (.iaload, 1) := by decide +kernel
theorem dx_L_law_429 : decode (go_cc mx_L_law) 429 = .ok (.invokevirtual 39, 3) := by decide +kernel
theorem dx_L_law_432 : decode (go_cc mx_L_law) 432 = .ok (.aload_n 2, 1) := by decide +kernel
theorem dx_L_law_433 : decode (go_cc mx_L_law) 433 = .ok (.aload_n 0, 1) := by decide +kernel
theorem dx_L_law_434 : decode (go_cc mx_L_law) 434 = .ok (.iload_n 3, 1) := by decide +kernel
theorem dx_L_law_435 : decode (go_cc mx_L_law) 435 = .ok (.iconst 1, 1) := by decide +kernel
theorem dx_L_law_436 : decode (go_cc mx_L_law) 436 = .ok (.iadd, 1) := by decide +kernel
theorem dx_L_law_437 : decode (go_cc mx_L_law) 437 = .ok (.iaload, 1) := by decide +kernel
theorem dx_L_law_438 : decode (go_cc mx_L_law) 438 = .ok (.aload_n 0, 1) := by decide +kernel
theorem dx_L_law_439 : decode (go_cc mx_L_law) 439 = .ok (.iload_n 3, 1) := by decide +kernel
theorem dx_L_law_440 : decode (go_cc mx_L_law) 440 = .ok (.iconst 2, 1) := by decide +kernel
theorem dx_L_law_441 : decode (go_cc mx_L_law) 441 = .ok (.iadd, 1) := by decide +kernel
theorem dx_L_law_442 : decode (go_cc mx_L_law) 442 = .ok (.iaload, 1) := by decide +kernel
theorem dx_L_law_443 : decode (go_cc mx_L_law) 443 = .ok (.invokevirtual 43, 3) := by decide +kernel
theorem dx_L_law_446 : decode (go_cc mx_L_law) 446 = .ok (.if_icmp .eq 1092, 3) := by decide +kernel
theorem dx_L_law_449 : decode (go_cc mx_L_law) 449 = .ok (.iconst 0, 1) := by decide +kernel
theorem dx_L_law_450 : decode (go_cc mx_L_law) 450 = .ok (.ireturn, 1) := by decide +kernel
theorem dx_L_law_451 : decode (go_cc mx_L_law) 451 = .ok (.aload_n 1, 1) := by decide +kernel
theorem dx_L_law_452 : decode (go_cc mx_L_law) 452 = .ok (.invokevirtual 44, 3) := by decide +kernel
theorem dx_L_law_455 : decode (go_cc mx_L_law) 455 = .ok (.aload_n 2, 1) := by decide +kernel
theorem dx_L_law_456 : decode (go_cc mx_L_law) 456 = .ok (.invokevirtual 48, 3) := by decide +kernel
theorem dx_L_law_459 : decode (go_cc mx_L_law) 459 = .ok (.if_icmp .eq 1079, 3) := by decide +kernel
theorem dx_L_law_462 : decode (go_cc mx_L_law) 462 = .ok (.iconst 0, 1) := by decide +kernel
theorem dx_L_law_463 : decode (go_cc mx_L_law) 463 = .ok (.ireturn, 1) := by decide +kernel
theorem dx_L_law_464 : decode (go_cc mx_L_law) 464 = .ok (.aload_n 1, 1) := by decide +kernel
theorem dx_L_law_465 : decode (go_cc mx_L_law) 465 = .ok (.aload_n 0, 1) := by decide +kernel
theorem dx_L_law_466 : decode (go_cc mx_L_law) 466 = .ok (.iload_n 3, 1) := by decide +kernel
theorem dx_L_law_467 : decode (go_cc mx_L_law) 467 = .ok (.iconst 1, 1) := by decide +kernel
theorem dx_L_law_468 : decode (go_cc mx_L_law) 468 = .ok (.iadd, 1) := by decide +kernel
theorem dx_L_law_469 : decode (go_cc mx_L_law) 469 = .ok (.iaload, 1) := by decide +kernel
theorem dx_L_law_470 : decode (go_cc mx_L_law) 470 = .ok (.aload_n 0, 1) := by decide +kernel
theorem dx_L_law_471 : decode (go_cc mx_L_law) 471 = .ok (.iload_n 3, 1) := by decide +kernel
theorem dx_L_law_472 : decode (go_cc mx_L_law) 472 = .ok (.iconst 2, 1) := by decide +kernel
theorem dx_L_law_473 : decode (go_cc mx_L_law) 473 = .ok (.iadd, 1) := by decide +kernel
theorem dx_L_law_474 : decode (go_cc mx_L_law) 474 = .ok (.iaload, 1) := by decide +kernel
theorem dx_L_law_475 : decode (go_cc mx_L_law) 475 = .ok (.invokevirtual 49, 3) := by decide +kernel
theorem dx_L_law_478 : decode (go_cc mx_L_law) 478 = .ok (.aload_n 2, 1) := by decide +kernel
theorem dx_L_law_479 : decode (go_cc mx_L_law) 479 = .ok (.aload_n 0, 1) := by decide +kernel
theorem dx_L_law_480 : decode (go_cc mx_L_law) 480 = .ok (.iload_n 3, 1) := by decide +kernel
theorem dx_L_law_481 : decode (go_cc mx_L_law) 481 = .ok (.iconst 1, 1) := by decide +kernel
theorem dx_L_law_482 : decode (go_cc mx_L_law) 482 = .ok (.iadd, 1) := by decide +kernel
theorem dx_L_law_483 : decode (go_cc mx_L_law) 483 = .ok (.iaload, 1) := by decide +kernel
theorem dx_L_law_484 : decode (go_cc mx_L_law) 484 = .ok (.aload_n 0, 1) := by decide +kernel
theorem dx_L_law_485 : decode (go_cc mx_L_law) 485 = .ok (.iload_n 3, 1) := by decide +kernel
theorem dx_L_law_486 : decode (go_cc mx_L_law) 486 = .ok (.iconst 2, 1) := by decide +kernel
theorem dx_L_law_487 : decode (go_cc mx_L_law) 487 = .ok (.iadd, 1) := by decide +kernel
theorem dx_L_law_488 : decode (go_cc mx_L_law) 488 = .ok (.iaload, 1) := by decide +kernel
theorem dx_L_law_489 : decode (go_cc mx_L_law) 489 = .ok (.invokevirtual 52, 3) := by decide +kernel
theorem dx_L_law_492 : decode (go_cc mx_L_law) 492 = .ok (.if_icmp .eq 1046, 3) := by decide +kernel
theorem dx_L_law_495 : decode (go_cc mx_L_law) 495 = .ok (.iconst 0, 1) := by decide +kernel
theorem dx_L_law_496 : decode (go_cc mx_L_law) 496 = .ok (.ireturn, 1) := by decide +kernel
theorem dx_L_law_497 : decode (go_cc mx_L_law) 497 = .ok (.aload_n 1, 1) := by decide +kernel
theorem dx_L_law_498 : decode (go_cc mx_L_law) 498 = .ok (.aload_n 0, 1) := by decide +kernel
theorem dx_L_law_499 : decode (go_cc mx_L_law) 499 = .ok (.iload_n 3, 1) := by decide +kernel
theorem dx_L_law_500 : decode (go_cc mx_L_law) 500 = .ok (.iconst 1, 1) := by decide +kernel
theorem dx_L_law_501 : decode (go_cc mx_L_law) 501 = .ok (.iadd, 1) := by decide +kernel
theorem dx_L_law_502 : decode (go_cc mx_L_law) 502 = .ok (.iaload, 1) := by decide +kernel
theorem dx_L_law_503 : decode (go_cc mx_L_law) 503 = .ok (.aload_n 0, 1) := by decide +kernel
theorem dx_L_law_504 : decode (go_cc mx_L_law) 504 = .ok (.iload_n 3, 1) := by decide +kernel
theorem dx_L_law_505 : decode (go_cc mx_L_law) 505 = .ok (.iconst 2, 1) := by decide +kernel
theorem dx_L_law_506 : decode (go_cc mx_L_law) 506 = .ok (.iadd, 1) := by decide +kernel
theorem dx_L_law_507 : decode (go_cc mx_L_law) 507 = .ok (.iaload, 1) := by decide +kernel
theorem dx_L_law_508 : decode (go_cc mx_L_law) 508 = .ok (.invokevirtual 53, 3) := by decide +kernel
theorem dx_L_law_511 : decode (go_cc mx_L_law) 511 = .ok (.aload_n 2, 1) := by decide +kernel
theorem dx_L_law_512 : decode (go_cc mx_L_law) 512 = .ok (.aload_n 0, 1) := by decide +kernel
theorem dx_L_law_513 : decode (go_cc mx_L_law) 513 = .ok (.iload_n 3, 1) := by decide +kernel
theorem dx_L_law_514 : decode (go_cc mx_L_law) 514 = .ok (.iconst 1, 1) := by decide +kernel
theorem dx_L_law_515 : decode (go_cc mx_L_law) 515 = .ok (.iadd, 1) := by decide +kernel
theorem dx_L_law_516 : decode (go_cc mx_L_law) 516 = .ok (.iaload, 1) := by decide +kernel
theorem dx_L_law_517 : decode (go_cc mx_L_law) 517 = .ok (.aload_n 0, 1) := by decide +kernel
theorem dx_L_law_518 : decode (go_cc mx_L_law) 518 = .ok (.iload_n 3, 1) := by decide +kernel
theorem dx_L_law_519 : decode (go_cc mx_L_law) 519 = .ok (.iconst 2, 1) := by decide +kernel
theorem dx_L_law_520 : decode (go_cc mx_L_law) 520 = .ok (.iadd, 1) := by decide +kernel
theorem dx_L_law_521 : decode (go_cc mx_L_law) 521 = .ok (.iaload, 1) := by decide +kernel
theorem dx_L_law_522 : decode (go_cc mx_L_law) 522 = .ok (.invokevirtual 56, 3) := by decide +kernel
theorem dx_L_law_525 : decode (go_cc mx_L_law) 525 = .ok (.if_icmp .eq 1013, 3) := by decide +kernel
theorem dx_L_law_528 : decode (go_cc mx_L_law) 528 = .ok (.iconst 0, 1) := by decide +kernel
theorem dx_L_law_529 : decode (go_cc mx_L_law) 529 = .ok (.ireturn, 1) := by decide +kernel
theorem dx_L_law_530 : decode (go_cc mx_L_law) 530 = .ok (.aload_n 1, 1) := by decide +kernel
theorem dx_L_law_531 : decode (go_cc mx_L_law) 531 = .ok (.aload_n 0, 1) := by decide +kernel
theorem dx_L_law_532 : decode (go_cc mx_L_law) 532 = .ok (.iload_n 3, 1) := by decide +kernel
theorem dx_L_law_533 : decode (go_cc mx_L_law) 533 = .ok (.iconst 1, 1) := by decide +kernel
theorem dx_L_law_534 : decode (go_cc mx_L_law) 534 = .ok (.iadd, 1) := by decide +kernel
theorem dx_L_law_535 : decode (go_cc mx_L_law) 535 = .ok (.iaload, 1) := by decide +kernel
theorem dx_L_law_536 : decode (go_cc mx_L_law) 536 = .ok (.invokevirtual 57, 3) := by decide +kernel
theorem dx_L_law_539 : decode (go_cc mx_L_law) 539 = .ok (.aload_n 2, 1) := by decide +kernel
theorem dx_L_law_540 : decode (go_cc mx_L_law) 540 = .ok (.aload_n 0, 1) := by decide +kernel
theorem dx_L_law_541 : decode (go_cc mx_L_law) 541 = .ok (.iload_n 3, 1) := by decide +kernel
theorem dx_L_law_542 : decode (go_cc mx_L_law) 542 = .ok (.iconst 1, 1) := by decide +kernel
theorem dx_L_law_543 : decode (go_cc mx_L_law) 543 = .ok (.iadd, 1) := by decide +kernel
theorem dx_L_law_544 : decode (go_cc mx_L_law) 544 = .ok (.iaload, 1) := by decide +kernel
theorem dx_L_law_545 : decode (go_cc mx_L_law) 545 = .ok (.invokevirtual 60, 3) := by decide +kernel
theorem dx_L_law_548 : decode (go_cc mx_L_law) 548 = .ok (.if_icmp .eq 990, 3) := by decide +kernel
theorem dx_L_law_551 : decode (go_cc mx_L_law) 551 = .ok (.iconst 0, 1) := by decide +kernel
theorem dx_L_law_552 : decode (go_cc mx_L_law) 552 = .ok (.ireturn, 1) := by decide +kernel
theorem dx_L_law_553 : decode (go_cc mx_L_law) 553 = .ok (.aload_n 1, 1) := by decide +kernel
theorem dx_L_law_554 : decode (go_cc mx_L_law) 554 = .ok (.invokevirtual 61, 3) := by decide +kernel
theorem dx_L_law_557 : decode (go_cc mx_L_law) 557 = .ok (.aload_n 2, 1) := by decide +kernel
theorem dx_L_law_558 : decode (go_cc mx_L_law) 558 = .ok (.invokevirtual 64, 3) := by decide +kernel
theorem dx_L_law_561 : decode (go_cc mx_L_law) 561 = .ok (.if_icmp .eq 977, 3) := by decide +kernel
theorem dx_L_law_564 : decode (go_cc mx_L_law) 564 = .ok (.iconst 0, 1) := by decide +kernel
theorem dx_L_law_565 : decode (go_cc mx_L_law) 565 = .ok (.ireturn, 1) := by decide +kernel
theorem dx_L_law_566 : decode (go_cc mx_L_law) 566 = .ok (.aload_n 1, 1) := by decide +kernel
theorem dx_L_law_567 : decode (go_cc mx_L_law) 567 = .ok (.aload_n 0, 1) := by decide +kernel
theorem dx_L_law_568 : decode (go_cc mx_L_law) 568 = .ok (.iload_n 3, 1) := by decide +kernel
theorem dx_L_law_569 : decode (go_cc mx_L_law) 569 = .ok (.iconst 1, 1) := by decide +kernel
theorem dx_L_law_570 : decode (go_cc mx_L_law) 570 = .ok (.iadd, 1) := by decide +kernel
theorem dx_L_law_571 : decode (go_cc mx_L_law) 571 = .ok (.iaload, 1) := by decide +kernel
theorem dx_L_law_572 : decode (go_cc mx_L_law) 572 = .ok (.invokevirtual 65, 3) := by decide +kernel
theorem dx_L_law_575 : decode (go_cc mx_L_law) 575 = .ok (.aload_n 2, 1) := by decide +kernel
theorem dx_L_law_576 : decode (go_cc mx_L_law) 576 = .ok (.aload_n 0, 1) := by decide +kernel
theorem dx_L_law_577 : decode (go_cc mx_L_law) 577 = .ok (.iload_n 3, 1) := by decide +kernel
theorem dx_L_law_578 : decode (go_cc mx_L_law) 578 = .ok (.iconst 1, 1) := by decide +kernel
theorem dx_L_law_579 : decode (go_cc mx_L_law) 579 = .ok (.iadd, 1) := by decide +kernel
theorem dx_L_law_580 : decode (go_cc mx_L_law) 580 = .ok (.iaload, 1) := by decide +kernel
theorem dx_L_law_581 : decode (go_cc mx_L_law) 581 = .ok (.invokevirtual 68, 3) := by decide +kernel
theorem dx_L_law_584 : decode (go_cc mx_L_law) 584 = .ok (.if_icmp .eq 954, 3) := by decide +kernel
theorem dx_L_law_587 : decode (go_cc mx_L_law) 587 = .ok (.iconst 0, 1) := by decide +kernel
theorem dx_L_law_588 : decode (go_cc mx_L_law) 588 = .ok (.ireturn, 1) := by decide +kernel
theorem dx_L_law_589 : decode (go_cc mx_L_law) 589 = .ok (.aload_n 1, 1) := by decide +kernel
theorem dx_L_law_590 : decode (go_cc mx_L_law) 590 = .ok (.aload_n 0, 1) := by decide +kernel
theorem dx_L_law_591 : decode (go_cc mx_L_law) 591 = .ok (.iload_n 3, 1) := by decide +kernel
theorem dx_L_law_592 : decode (go_cc mx_L_law) 592 = .ok (.iconst 1, 1) := by decide +kernel
theorem dx_L_law_593 : decode (go_cc mx_L_law) 593 = .ok (.iadd, 1) := by decide +kernel
theorem dx_L_law_594 : decode (go_cc mx_L_law) 594 = .ok (.iaload, 1) := by decide +kernel
theorem dx_L_law_595 : decode (go_cc mx_L_law) 595 = .ok (.invokevirtual 69, 3) := by decide +kernel
theorem dx_L_law_598 : decode (go_cc mx_L_law) 598 = .ok (.aload_n 2, 1) := by decide +kernel
theorem dx_L_law_599 : decode (go_cc mx_L_law) 599 = .ok (.aload_n 0, 1) := by decide +kernel
theorem dx_L_law_600 : decode (go_cc mx_L_law) 600 = .ok (.iload_n 3, 1) := by decide +kernel
theorem dx_L_law_601 : decode (go_cc mx_L_law) 601 = .ok (.iconst 1, 1) := by decide +kernel
theorem dx_L_law_602 : decode (go_cc mx_L_law) 602 = .ok (.iadd, 1) := by decide +kernel
theorem dx_L_law_603 : decode (go_cc mx_L_law) 603 = .ok (.iaload, 1) := by decide +kernel
theorem dx_L_law_604 : decode (go_cc mx_L_law) 604 = .ok (.invokevirtual 72, 3) := by decide +kernel
theorem dx_L_law_607 : decode (go_cc mx_L_law) 607 = .ok (.if_icmp .eq 931, 3) := by decide +kernel
theorem dx_L_law_610 : decode (go_cc mx_L_law) 610 = .ok (.iconst 0, 1) := by decide +kernel
theorem dx_L_law_611 : decode (go_cc mx_L_law) 611 = .ok (.ireturn, 1) := by decide +kernel
theorem dx_L_law_612 : decode (go_cc mx_L_law) 612 = .ok (.aload_n 1, 1) := by decide +kernel
theorem dx_L_law_613 : decode (go_cc mx_L_law) 613 = .ok (.aload_n 0, 1) := by decide +kernel
theorem dx_L_law_614 : decode (go_cc mx_L_law) 614 = .ok (.iload_n 3, 1) := by decide +kernel
theorem dx_L_law_615 : decode (go_cc mx_L_law) 615 = .ok (.iconst 1, 1) := by decide +kernel
theorem dx_L_law_616 : decode (go_cc mx_L_law) 616 = .ok (.iadd, 1) := by decide +kernel
theorem dx_L_law_617 : decode (go_cc mx_L_law) 617 = .ok (.iaload, 1) := by decide +kernel
theorem dx_L_law_618 : decode (go_cc mx_L_law) 618 = .ok (.aload_n 0, 1) := by decide +kernel
theorem dx_L_law_619 : decode (go_cc mx_L_law) 619 = .ok (.iload_n 3, 1) := by decide +kernel
theorem dx_L_law_620 : decode (go_cc mx_L_law) 620 = .ok (.iconst 2, 1) := by decide +kernel
theorem dx_L_law_621 : decode (go_cc mx_L_law) 621 = .ok (.iadd, 1) := by decide +kernel
theorem dx_L_law_622 : decode (go_cc mx_L_law) 622 = .ok (.iaload, 1) := by decide +kernel
theorem dx_L_law_623 : decode (go_cc mx_L_law) 623 = .ok (.invokevirtual 73, 3) := by decide +kernel
theorem dx_L_law_626 : decode (go_cc mx_L_law) 626 = .ok (.aload_n 2, 1) := by decide +kernel
theorem dx_L_law_627 : decode (go_cc mx_L_law) 627 = .ok (.aload_n 0, 1) := by decide +kernel
theorem dx_L_law_628 : decode (go_cc mx_L_law) 628 = .ok (.iload_n 3, 1) := by decide +kernel
theorem dx_L_law_629 : decode (go_cc mx_L_law) 629 = .ok (.iconst 1, 1) := by decide +kernel
theorem dx_L_law_630 : decode (go_cc mx_L_law) 630 = .ok (.iadd, 1) := by decide +kernel
theorem dx_L_law_631 : decode (go_cc mx_L_law) 631 = .ok (.iaload, 1) := by decide +kernel
theorem dx_L_law_632 : decode (go_cc mx_L_law) 632 = .ok (.aload_n 0, 1) := by decide +kernel
theorem dx_L_law_633 : decode (go_cc mx_L_law) 633 = .ok (.iload_n 3, 1) := by decide +kernel
theorem dx_L_law_634 : decode (go_cc mx_L_law) 634 = .ok (.iconst 2, 1) := by decide +kernel
theorem dx_L_law_635 : decode (go_cc mx_L_law) 635 = .ok (.iadd, 1) := by decide +kernel
theorem dx_L_law_636 : decode (go_cc mx_L_law) 636 = .ok (.iaload, 1) := by decide +kernel
theorem dx_L_law_637 : decode (go_cc mx_L_law) 637 = .ok (.invokevirtual 77, 3) := by decide +kernel
theorem dx_L_law_640 : decode (go_cc mx_L_law) 640 = .ok (.lcmp, 1) := by decide +kernel
theorem dx_L_law_641 : decode (go_cc mx_L_law) 641 = .ok (.ifCond .eq 897, 3) := by decide +kernel
theorem dx_L_law_644 : decode (go_cc mx_L_law) 644 = .ok (.iconst 0, 1) := by decide +kernel
theorem dx_L_law_645 : decode (go_cc mx_L_law) 645 = .ok (.ireturn, 1) := by decide +kernel
theorem dx_L_law_646 : decode (go_cc mx_L_law) 646 = .ok (.aload_n 1, 1) := by decide +kernel
theorem dx_L_law_647 : decode (go_cc mx_L_law) 647 = .ok (.invokevirtual 78, 3) := by decide +kernel
theorem dx_L_law_650 : decode (go_cc mx_L_law) 650 = .ok (.aload_n 2, 1) := by decide +kernel
theorem dx_L_law_651 : decode (go_cc mx_L_law) 651 = .ok (.invokevirtual 81, 3) := by decide +kernel
theorem dx_L_law_654 : decode (go_cc mx_L_law) 654 = .ok (.if_icmp .eq 884, 3) := by decide +kernel
theorem dx_L_law_657 : decode (go_cc mx_L_law) 657 = .ok (.iconst 0, 1) := by decide +kernel
theorem dx_L_law_658 : decode (go_cc mx_L_law) 658 = .ok (.ireturn, 1) := by decide +kernel
theorem dx_L_law_659 : decode (go_cc mx_L_law) 659 = .ok (.aload_n 1, 1) := by decide +kernel
theorem dx_L_law_660 : decode (go_cc mx_L_law) 660 = .ok (.aload_n 0, 1) := by decide +kernel
theorem dx_L_law_661 : decode (go_cc mx_L_law) 661 = .ok (.iload_n 3, 1) := by decide +kernel
theorem dx_L_law_662 : decode (go_cc mx_L_law) 662 = .ok (.iconst 1, 1) := by decide +kernel
theorem dx_L_law_663 : decode (go_cc mx_L_law) 663 = .ok (.iadd, 1) := by decide +kernel
theorem dx_L_law_664 : decode (go_cc mx_L_law) 664 = .ok (.iaload, 1) := by decide +kernel
theorem dx_L_law_665 : decode (go_cc mx_L_law) 665 = .ok (.aload_n 0, 1) := by decide +kernel
theorem dx_L_law_666 : decode (go_cc mx_L_law) 666 = .ok (.iload_n 3, 1) := by decide +kernel
theorem dx_L_law_667 : decode (go_cc mx_L_law) 667 = .ok (.iconst 2, 1) := by decide +kernel
theorem dx_L_law_668 : decode (go_cc mx_L_law) 668 = .ok (.iadd, 1) := by decide +kernel
theorem dx_L_law_669 : decode (go_cc mx_L_law) 669 = .ok (.iaload, 1) := by decide +kernel
theorem dx_L_law_670 : decode (go_cc mx_L_law) 670 = .ok (.aload_n 0, 1) := by decide +kernel
theorem dx_L_law_671 : decode (go_cc mx_L_law) 671 = .ok (.iload_n 3, 1) := by decide +kernel
theorem dx_L_law_672 : decode (go_cc mx_L_law) 672 = .ok (.iconst 3, 1) := by decide +kernel
theorem dx_L_law_673 : decode (go_cc mx_L_law) 673 = .ok (.iadd, 1) := by decide +kernel
theorem dx_L_law_674 : decode (go_cc mx_L_law) 674 = .ok (.iaload, 1) := by decide +kernel
theorem dx_L_law_675 : decode (go_cc mx_L_law) 675 = .ok (.invokevirtual 82, 3) := by decide +kernel
theorem dx_L_law_678 : decode (go_cc mx_L_law) 678 = .ok (.aload_n 2, 1) := by decide +kernel
theorem dx_L_law_679 : decode (go_cc mx_L_law) 679 = .ok (.aload_n 0, 1) := by decide +kernel
theorem dx_L_law_680 : decode (go_cc mx_L_law) 680 = .ok (.iload_n 3, 1) := by decide +kernel
theorem dx_L_law_681 : decode (go_cc mx_L_law) 681 = .ok (.iconst 1, 1) := by decide +kernel
theorem dx_L_law_682 : decode (go_cc mx_L_law) 682 = .ok (.iadd, 1) := by decide +kernel
theorem dx_L_law_683 : decode (go_cc mx_L_law) 683 = .ok (.iaload, 1) := by decide +kernel
theorem dx_L_law_684 : decode (go_cc mx_L_law) 684 = .ok (.aload_n 0, 1) := by decide +kernel
theorem dx_L_law_685 : decode (go_cc mx_L_law) 685 = .ok (.iload_n 3, 1) := by decide +kernel
theorem dx_L_law_686 : decode (go_cc mx_L_law) 686 = .ok (.iconst 2, 1) := by decide +kernel
theorem dx_L_law_687 : decode (go_cc mx_L_law) 687 = .ok (.iadd, 1) := by decide +kernel
theorem dx_L_law_688 : decode (go_cc mx_L_law) 688 = .ok (.iaload, 1) := by decide +kernel
theorem dx_L_law_689 : decode (go_cc mx_L_law) 689 = .ok (.aload_n 0, 1) := by decide +kernel
theorem dx_L_law_690 : decode (go_cc mx_L_law) 690 = .ok (.iload_n 3, 1) := by decide +kernel
theorem dx_L_law_691 : decode (go_cc mx_L_law) 691 = .ok (.iconst 3, 1) := by decide +kernel
theorem dx_L_law_692 : decode (go_cc mx_L_law) 692 = .ok (.iadd, 1) := by decide +kernel
theorem dx_L_law_693 : decode (go_cc mx_L_law) 693 = .ok (.iaload, 1) := by decide +kernel
theorem dx_L_law_694 : decode (go_cc mx_L_law) 694 = .ok (.invokevirtual 86, 3) := by decide +kernel
theorem dx_L_law_697 : decode (go_cc mx_L_law) 697 = .ok (.if_icmp .eq 841, 3) := by decide +kernel
theorem dx_L_law_700 : decode (go_cc mx_L_law) 700 = .ok (.iconst 0, 1) := by decide +kernel
theorem dx_L_law_701 : decode (go_cc mx_L_law) 701 = .ok (.ireturn, 1) := by decide +kernel
theorem dx_L_law_702 : decode (go_cc mx_L_law) 702 = .ok (.aload_n 1, 1) := by decide +kernel
theorem dx_L_law_703 : decode (go_cc mx_L_law) 703 = .ok (.invokevirtual 87, 3) := by decide +kernel
theorem dx_L_law_706 : decode (go_cc mx_L_law) 706 = .ok (.aload_n 2, 1) := by decide +kernel
theorem dx_L_law_707 : decode (go_cc mx_L_law) 707 = .ok (.invokevirtual 90, 3) := by decide +kernel
theorem dx_L_law_710 : decode (go_cc mx_L_law) 710 = .ok (.if_icmp .eq 828, 3) := by decide +kernel
theorem dx_L_law_713 : decode (go_cc mx_L_law) 713 = .ok (.iconst 0, 1) := by decide +kernel
theorem dx_L_law_714 : decode (go_cc mx_L_law) 714 = .ok (.ireturn, 1) := by decide +kernel
theorem dx_L_law_715 : decode (go_cc mx_L_law) 715 = .ok (.aload_n 1, 1) := by decide +kernel
theorem dx_L_law_716 : decode (go_cc mx_L_law) 716 = .ok (.aload_n 0, 1) := by decide +kernel
theorem dx_L_law_717 : decode (go_cc mx_L_law) 717 = .ok (.iload_n 3, 1) := by decide +kernel
theorem dx_L_law_718 : decode (go_cc mx_L_law) 718 = .ok (.iconst 1, 1) := by decide +kernel
theorem dx_L_law_719 : decode (go_cc mx_L_law) 719 = .ok (.iadd, 1) := by decide +kernel
theorem dx_L_law_720 : decode (go_cc mx_L_law) 720 = .ok (.iaload, 1) := by decide +kernel
theorem dx_L_law_721 : decode (go_cc mx_L_law) 721 = .ok (.aload_n 0, 1) := by decide +kernel
theorem dx_L_law_722 : decode (go_cc mx_L_law) 722 = .ok (.iload_n 3, 1) := by decide +kernel
theorem dx_L_law_723 : decode (go_cc mx_L_law) 723 = .ok (.iconst 2, 1) := by decide +kernel
theorem dx_L_law_724 : decode (go_cc mx_L_law) 724 = .ok (.iadd, 1) := by decide +kernel
theorem dx_L_law_725 : decode (go_cc mx_L_law) 725 = .ok (.iaload, 1) := by decide +kernel
theorem dx_L_law_726 : decode (go_cc mx_L_law) 726 = .ok (.aload_n 0, 1) := by decide +kernel
theorem dx_L_law_727 : decode (go_cc mx_L_law) 727 = .ok (.iload_n 3, 1) := by decide +kernel
theorem dx_L_law_728 : decode (go_cc mx_L_law) 728 = .ok (.iconst 3, 1) := by decide +kernel
theorem dx_L_law_729 : decode (go_cc mx_L_law) 729 = .ok (.iadd, 1) := by decide +kernel
theorem dx_L_law_730 : decode (go_cc mx_L_law) 730 = .ok (.iaload, 1) := by decide +kernel
theorem dx_L_law_731 : decode (go_cc mx_L_law) 731 = .ok (.invokevirtual 91, 3) := by decide +kernel
theorem dx_L_law_734 : decode (go_cc mx_L_law) 734 = .ok (.aload_n 2, 1) := by decide +kernel
theorem dx_L_law_735 : decode (go_cc mx_L_law) 735 = .ok (.aload_n 0, 1) := by decide +kernel
theorem dx_L_law_736 : decode (go_cc mx_L_law) 736 = .ok (.iload_n 3, 1) := by decide +kernel
theorem dx_L_law_737 : decode (go_cc mx_L_law) 737 = .ok (.iconst 1, 1) := by decide +kernel
theorem dx_L_law_738 : decode (go_cc mx_L_law) 738 = .ok (.iadd, 1) := by decide +kernel
theorem dx_L_law_739 : decode (go_cc mx_L_law) 739 = .ok (.iaload, 1) := by decide +kernel
theorem dx_L_law_740 : decode (go_cc mx_L_law) 740 = .ok (.aload_n 0, 1) := by decide +kernel
theorem dx_L_law_741 : decode (go_cc mx_L_law) 741 = .ok (.iload_n 3, 1) := by decide +kernel
theorem dx_L_law_742 : decode (go_cc mx_L_law) 742 = .ok (.iconst 2, 1) := by decide +kernel
theorem dx_L_law_743 : decode (go_cc mx_L_law) 743 = .ok (.iadd, 1) := by decide +kernel
theorem dx_L_law_744 : decode (go_cc mx_L_law) 744 = .ok (.iaload, 1) := by decide +kernel
theorem dx_L_law_745 : decode (go_cc mx_L_law) 745 = .ok (.aload_n 0, 1) := by decide +kernel
theorem dx_L_law_746 : decode (go_cc mx_L_law) 746 = .ok (.iload_n 3, 1) := by decide +kernel
theorem dx_L_law_747 : decode (go_cc mx_L_law) 747 = .ok (.iconst 3, 1) := by decide +kernel
theorem dx_L_law_748 : decode (go_cc mx_L_law) 748 = .ok (.iadd, 1) := by decide +kernel
theorem dx_L_law_749 : decode (go_cc mx_L_law) 749 = .ok (.iaload, 1) := by decide +kernel
theorem dx_L_law_750 : decode (go_cc mx_L_law) 750 = .ok (.invokevirtual 94, 3) := by decide +kernel
theorem dx_L_law_753 : decode (go_cc mx_L_law) 753 = .ok (.if_icmp .eq 785, 3) := by decide +kernel
theorem dx_L_law_756 : decode (go_cc mx_L_law) 756 = .ok (.iconst 0, 1) := by decide +kernel
theorem dx_L_law_757 : decode (go_cc mx_L_law) 757 = .ok (.ireturn, 1) := by decide +kernel
theorem dx_L_law_758 : decode (go_cc mx_L_law) 758 = .ok (.aload_n 1, 1) := by decide +kernel
theorem dx_L_law_759 : decode (go_cc mx_L_law) 759 = .ok (.aload_n 0, 1) := by decide +kernel
theorem dx_L_law_760 : decode (go_cc mx_L_law) 760 = .ok (.iload_n 3, 1) := by decide +kernel
theorem dx_L_law_761 : decode (go_cc mx_L_law) 761 = .ok (.iconst 1, 1) := by decide +kernel
theorem dx_L_law_762 : decode (go_cc mx_L_law) 762 = .ok (.iadd, 1) := by decide +kernel
theorem dx_L_law_763 : decode (go_cc mx_L_law) 763 = .ok (.iaload, 1) := by decide +kernel
theorem dx_L_law_764 : decode (go_cc mx_L_law) 764 = .ok (.aload_n 0, 1) := by decide +kernel
theorem dx_L_law_765 : decode (go_cc mx_L_law) 765 = .ok (.iload_n 3, 1) := by decide +kernel
theorem dx_L_law_766 : decode (go_cc mx_L_law) 766 = .ok (.iconst 2, 1) := by decide +kernel
theorem dx_L_law_767 : decode (go_cc mx_L_law) 767 = .ok (.iadd, 1) := by decide +kernel
theorem dx_L_law_768 : decode (go_cc mx_L_law) 768 = .ok (.iaload, 1) := by decide +kernel
theorem dx_L_law_769 : decode (go_cc mx_L_law) 769 = .ok (.aload_n 0, 1) := by decide +kernel
theorem dx_L_law_770 : decode (go_cc mx_L_law) 770 = .ok (.iload_n 3, 1) := by decide +kernel
theorem dx_L_law_771 : decode (go_cc mx_L_law) 771 = .ok (.iconst 3, 1) := by decide +kernel
theorem dx_L_law_772 : decode (go_cc mx_L_law) 772 = .ok (.iadd, 1) := by decide +kernel
theorem dx_L_law_773 : decode (go_cc mx_L_law) 773 = .ok (.iaload, 1) := by decide +kernel
theorem dx_L_law_774 : decode (go_cc mx_L_law) 774 = .ok (.aload_n 0, 1) := by decide +kernel
theorem dx_L_law_775 : decode (go_cc mx_L_law) 775 = .ok (.iload_n 3, 1) := by decide +kernel
theorem dx_L_law_776 : decode (go_cc mx_L_law) 776 = .ok (.iconst 4, 1) := by decide +kernel
theorem dx_L_law_777 : decode (go_cc mx_L_law) 777 = .ok (.iadd, 1) := by decide +kernel
theorem dx_L_law_778 : decode (go_cc mx_L_law) 778 = .ok (.iaload, 1) := by decide +kernel
theorem dx_L_law_779 : decode (go_cc mx_L_law) 779 = .ok (.invokevirtual 95, 3) := by decide +kernel
theorem dx_L_law_782 : decode (go_cc mx_L_law) 782 = .ok (.aload_n 2, 1) := by decide +kernel
theorem dx_L_law_783 : decode (go_cc mx_L_law) 783 = .ok (.aload_n 0, 1) := by decide +kernel
theorem dx_L_law_784 : decode (go_cc mx_L_law) 784 = .ok (.iload_n 3, 1) := by decide +kernel
theorem dx_L_law_785 : decode (go_cc mx_L_law) 785 = .ok (.iconst 1, 1) := by decide +kernel
theorem dx_L_law_786 : decode (go_cc mx_L_law) 786 = .ok (.iadd, 1) := by decide +kernel
theorem dx_L_law_787 : decode (go_cc mx_L_law) 787 = .ok (.iaload, 1) := by decide +kernel
theorem dx_L_law_788 : decode (go_cc mx_L_law) 788 = .ok (.aload_n 0, 1) := by decide +kernel
theorem dx_L_law_789 : decode (go_cc mx_L_law) 789 = .ok (.iload_n 3, 1) := by decide +kernel
theorem dx_L_law_790 : decode (go_cc mx_L_law) 790 = .ok (.iconst 2, 1) := by decide +kernel
theorem dx_L_law_791 : decode (go_cc mx_L_law) 791 = .ok (.iadd, 1) := by decide +kernel
theorem dx_L_law_792 : decode (go_cc mx_L_law) 792 = .ok (.iaload, 1) := by decide +kernel
theorem dx_L_law_793 : decode (go_cc mx_L_law) 793 = .ok (.aload_n 0, 1) := by decide +kernel
theorem dx_L_law_794 : decode (go_cc mx_L_law) 794 = .ok (.iload_n 3, 1) := by decide +kernel
theorem dx_L_law_795 : decode (go_cc mx_L_law) 795 = .ok (.iconst 3, 1) := by decide +kernel
theorem dx_L_law_796 : decode (go_cc mx_L_law) 796 = .ok (.iadd, 1) := by decide +kernel
theorem dx_L_law_797 : decode (go_cc mx_L_law) 797 = .ok (.iaload, 1) := by decide +kernel
theorem dx_L_law_798 : decode (go_cc mx_L_law) 798 = .ok (.aload_n 0, 1) := by decide +kernel
theorem dx_L_law_799 : decode (go_cc mx_L_law) 799 = .ok (.iload_n 3, 1) := by decide +kernel
theorem dx_L_law_800 : decode (go_cc mx_L_law) 800 = .ok (.iconst 4, 1) := by decide +kernel
theorem dx_L_law_801 : decode (go_cc mx_L_law) 801 = .ok (.iadd, 1) := by decide +kernel
theorem dx_L_law_802 : decode (go_cc mx_L_law) 802 = .ok (.iaload, 1) := by decide +kernel
theorem dx_L_law_803 : decode (go_cc mx_L_law) 803 = .ok (.invokevirtual 99, 3) := by decide +kernel
theorem dx_L_law_806 : decode (go_cc mx_L_law) 806 = .ok (.if_icmp .eq 732, 3) := by decide +kernel
theorem dx_L_law_809 : decode (go_cc mx_L_law) 809 = .ok (.iconst 0, 1) := by decide +kernel
theorem dx_L_law_810 : decode (go_cc mx_L_law) 810 = .ok (.ireturn, 1) := by decide +kernel
theorem dx_L_law_811 : decode (go_cc mx_L_law) 811 = .ok (.aload_n 1, 1) := by decide +kernel
theorem dx_L_law_812 : decode (go_cc mx_L_law) 812 = .ok (.aload_n 0, 1) := by decide +kernel
theorem dx_L_law_813 : decode (go_cc mx_L_law) 813 = .ok (.iload_n 3, 1) := by decide +kernel
theorem dx_L_law_814 : decode (go_cc mx_L_law) 814 = .ok (.iconst 1, 1) := by decide +kernel
theorem dx_L_law_815 : decode (go_cc mx_L_law) 815 = .ok (.iadd, 1) := by decide +kernel
theorem dx_L_law_816 : decode (go_cc mx_L_law) 816 = .ok (.iaload, 1) := by decide +kernel
theorem dx_L_law_817 : decode (go_cc mx_L_law) 817 = .ok (.aload_n 0, 1) := by decide +kernel
theorem dx_L_law_818 : decode (go_cc mx_L_law) 818 = .ok (.iload_n 3, 1) := by decide +kernel
theorem dx_L_law_819 : decode (go_cc mx_L_law) 819 = .ok (.iconst 2, 1) := by decide +kernel
theorem dx_L_law_820 : decode (go_cc mx_L_law) 820 = .ok (.iadd, 1) := by decide +kernel
theorem dx_L_law_821 : decode (go_cc mx_L_law) 821 = .ok (.iaload, 1) := by decide +kernel
theorem dx_L_law_822 : decode (go_cc mx_L_law) 822 = .ok (.invokevirtual 100, 3) := by decide +kernel
theorem dx_L_law_825 : decode (go_cc mx_L_law) 825 = .ok (.aload_n 2, 1) := by decide +kernel
theorem dx_L_law_826 : decode (go_cc mx_L_law) 826 = .ok (.aload_n 0, 1) := by decide +kernel
theorem dx_L_law_827 : decode (go_cc mx_L_law) 827 = .ok (.iload_n 3, 1) := by decide +kernel
theorem dx_L_law_828 : decode (go_cc mx_L_law) 828 = .ok (.iconst 1, 1) := by decide +kernel
theorem dx_L_law_829 : decode (go_cc mx_L_law) 829 = .ok (.iadd, 1) := by decide +kernel
theorem dx_L_law_830 : decode (go_cc mx_L_law) 830 = .ok (.iaload, 1) := by decide +kernel
theorem dx_L_law_831 : decode (go_cc mx_L_law) 831 = .ok (.aload_n 0, 1) := by decide +kernel
theorem dx_L_law_832 : decode (go_cc mx_L_law) 832 = .ok (.iload_n 3, 1) := by decide +kernel
theorem dx_L_law_833 : decode (go_cc mx_L_law) 833 = .ok (.iconst 2, 1) := by decide +kernel
theorem dx_L_law_834 : decode (go_cc mx_L_law) 834 = .ok (.iadd, 1) := by decide +kernel
theorem dx_L_law_835 : decode (go_cc mx_L_law) 835 = .ok (.iaload, 1) := by decide +kernel
theorem dx_L_law_836 : decode (go_cc mx_L_law) 836 = .ok (.invokevirtual 103, 3) := by decide +kernel
theorem dx_L_law_839 : decode (go_cc mx_L_law) 839 = .ok (.if_icmp .eq 699, 3) := by decide +kernel
theorem dx_L_law_842 : decode (go_cc mx_L_law) 842 = .ok (.iconst 0, 1) := by decide +kernel
theorem dx_L_law_843 : decode (go_cc mx_L_law) 843 = .ok (.ireturn, 1) := by decide +kernel
theorem dx_L_law_844 : decode (go_cc mx_L_law) 844 = .ok (.aload_n 1, 1) := by decide +kernel
theorem dx_L_law_845 : decode (go_cc mx_L_law) 845 = .ok (.aload_n 0, 1) := by decide +kernel
theorem dx_L_law_846 : decode (go_cc mx_L_law) 846 = .ok (.iload_n 3, 1) := by decide +kernel
theorem dx_L_law_847 : decode (go_cc mx_L_law) 847 = .ok (.iconst 1, 1) := by decide +kernel
theorem dx_L_law_848 : decode (go_cc mx_L_law) 848 = .ok (.iadd, 1) := by decide +kernel
theorem dx_L_law_849 : decode (go_cc mx_L_law) 849 = .ok (.iaload, 1) := by decide +kernel
theorem dx_L_law_850 : decode (go_cc mx_L_law) 850 = .ok (.aload_n 0, 1) := by decide +kernel
theorem dx_L_law_851 : decode (go_cc mx_L_law) 851 = .ok (.iload_n 3, 1) := by decide +kernel
theorem dx_L_law_852 : decode (go_cc mx_L_law) 852 = .ok (.iconst 2, 1) := by decide +kernel
theorem dx_L_law_853 : decode (go_cc mx_L_law) 853 = .ok (.iadd, 1) := by decide +kernel
theorem dx_L_law_854 : decode (go_cc mx_L_law) 854 = .ok (.iaload, 1) := by decide +kernel
theorem dx_L_law_855 : decode (go_cc mx_L_law) 855 = .ok (.invokevirtual 104, 3) := by decide +kernel
theorem dx_L_law_858 : decode (go_cc mx_L_law) 858 = .ok (.aload_n 2, 1) := by decide +kernel
theorem dx_L_law_859 : decode (go_cc mx_L_law) 859 = .ok (.aload_n 0, 1) := by decide +kernel
theorem dx_L_law_860 : decode (go_cc mx_L_law) 860 = .ok (.iload_n 3, 1) := by decide +kernel
theorem dx_L_law_861 : decode (go_cc mx_L_law) 861 = .ok (.iconst 1, 1) := by decide +kernel
theorem dx_L_law_862 : decode (go_cc mx_L_law) 862 = .ok (.iadd, 1) := by decide +kernel
theorem dx_L_law_863 : decode (go_cc mx_L_law) 863 = .ok (.iaload, 1) := by decide +kernel
theorem dx_L_law_864 : decode (go_cc mx_L_law) 864 = .ok (.aload_n 0, 1) := by decide +kernel
theorem dx_L_law_865 : decode (go_cc mx_L_law) 865 = .ok (.iload_n 3, 1) := by decide +kernel
theorem dx_L_law_866 : decode (go_cc mx_L_law) 866 = .ok (.iconst 2, 1) := by decide +kernel
theorem dx_L_law_867 : decode (go_cc mx_L_law) 867 = .ok (.iadd, 1) := by decide +kernel
theorem dx_L_law_868 : decode (go_cc mx_L_law) 868 = .ok (.iaload, 1) := by decide +kernel
theorem dx_L_law_869 : decode (go_cc mx_L_law) 869 = .ok (.invokevirtual 107, 3) := by decide +kernel
theorem dx_L_law_872 : decode (go_cc mx_L_law) 872 = .ok (.if_icmp .eq 666, 3) := by decide +kernel
theorem dx_L_law_875 : decode (go_cc mx_L_law) 875 = .ok (.iconst 0, 1) := by decide +kernel
theorem dx_L_law_876 : decode (go_cc mx_L_law) 876 = .ok (.ireturn, 1) := by decide +kernel
theorem dx_L_law_877 : decode (go_cc mx_L_law) 877 = .ok (.aload_n 1, 1) := by decide +kernel
theorem dx_L_law_878 : decode (go_cc mx_L_law) 878 = .ok (.aload_n 0, 1) := by decide +kernel
theorem dx_L_law_879 : decode (go_cc mx_L_law) 879 = .ok (.iload_n 3, 1) := by decide +kernel
theorem dx_L_law_880 : decode (go_cc mx_L_law) 880 = .ok (.iconst 1, 1) := by decide +kernel
theorem dx_L_law_881 : decode (go_cc mx_L_law) 881 = .ok (.iadd, 1) := by decide +kernel
theorem dx_L_law_882 : decode (go_cc mx_L_law) 882 = .ok (.iaload, 1) := by decide +kernel
theorem dx_L_law_883 : decode (go_cc mx_L_law) 883 = .ok (.aload_n 0, 1) := by decide +kernel
theorem dx_L_law_884 : decode (go_cc mx_L_law) 884 = .ok (.iload_n 3, 1) := by decide +kernel
theorem dx_L_law_885 : decode (go_cc mx_L_law) 885 = .ok (.iconst 2, 1) := by decide +kernel
theorem dx_L_law_886 : decode (go_cc mx_L_law) 886 = .ok (.iadd, 1) := by decide +kernel
theorem dx_L_law_887 : decode (go_cc mx_L_law) 887 = .ok (.iaload, 1) := by decide +kernel
theorem dx_L_law_888 : decode (go_cc mx_L_law) 888 = .ok (.aload_n 0, 1) := by decide +kernel
theorem dx_L_law_889 : decode (go_cc mx_L_law) 889 = .ok (.iload_n 3, 1) := by decide +kernel
theorem dx_L_law_890 : decode (go_cc mx_L_law) 890 = .ok (.iconst 3, 1) := by decide +kernel
theorem dx_L_law_891 : decode (go_cc mx_L_law) 891 = .ok (.iadd, 1) := by decide +kernel
theorem dx_L_law_892 : decode (go_cc mx_L_law) 892 = .ok (.iaload, 1) := by decide +kernel
theorem dx_L_law_893 : decode (go_cc mx_L_law) 893 = .ok (.invokevirtual 108, 3) := by decide +kernel
theorem dx_L_law_896 : decode (go_cc mx_L_law) 896 = .ok (.aload_n 2, 1) := by decide +kernel
theorem dx_L_law_897 : decode (go_cc mx_L_law) 897 = .ok (.aload_n 0, 1) := by decide +kernel
theorem dx_L_law_898 : decode (go_cc mx_L_law) 898 = .ok (.iload_n 3, 1) := by decide +kernel
theorem dx_L_law_899 : decode (go_cc mx_L_law) 899 = .ok (.iconst 1, 1) := by decide +kernel
theorem dx_L_law_900 : decode (go_cc mx_L_law) 900 = .ok (.iadd, 1) := by decide +kernel
theorem dx_L_law_901 : decode (go_cc mx_L_law) 901 = .ok (.iaload, 1) := by decide +kernel
theorem dx_L_law_902 : decode (go_cc mx_L_law) 902 = .ok (.aload_n 0, 1) := by decide +kernel
theorem dx_L_law_903 : decode (go_cc mx_L_law) 903 = .ok (.iload_n 3, 1) := by decide +kernel
theorem dx_L_law_904 : decode (go_cc mx_L_law) 904 = .ok (.iconst 2, 1) := by decide +kernel
theorem dx_L_law_905 : decode (go_cc mx_L_law) 905 = .ok (.iadd, 1) := by decide +kernel
theorem dx_L_law_906 : decode (go_cc mx_L_law) 906 = .ok (.iaload, 1) := by decide +kernel
theorem dx_L_law_907 : decode (go_cc mx_L_law) 907 = .ok (.aload_n 0, 1) := by decide +kernel
theorem dx_L_law_908 : decode (go_cc mx_L_law) 908 = .ok (.iload_n 3, 1) := by decide +kernel
theorem dx_L_law_909 : decode (go_cc mx_L_law) 909 = .ok (.iconst 3, 1) := by decide +kernel
theorem dx_L_law_910 : decode (go_cc mx_L_law) 910 = .ok (.iadd, 1) := by decide +kernel
theorem dx_L_law_911 : decode (go_cc mx_L_law) 911 = .ok (.iaload, 1) := by decide +kernel
theorem dx_L_law_912 : decode (go_cc mx_L_law) 912 = .ok (.invokevirtual 112, 3) := by decide +kernel
theorem dx_L_law_915 : decode (go_cc mx_L_law) 915 = .ok (.lcmp, 1) := by decide +kernel
theorem dx_L_law_916 : decode (go_cc mx_L_law) 916 = .ok (.ifCond .eq 622, 3) := by decide +kernel
theorem dx_L_law_919 : decode (go_cc mx_L_law) 919 = .ok (.iconst 0, 1) := by decide +kernel
theorem dx_L_law_920 : decode (go_cc mx_L_law) 920 = .ok (.ireturn, 1) := by decide +kernel
theorem dx_L_law_921 : decode (go_cc mx_L_law) 921 = .ok (.aload_n 1, 1) := by decide +kernel
theorem dx_L_law_922 : decode (go_cc mx_L_law) 922 = .ok (.aload_n 0, 1) := by decide +kernel
theorem dx_L_law_923 : decode (go_cc mx_L_law) 923 = .ok (.iload_n 3, 1) := by decide +kernel
theorem dx_L_law_924 : decode (go_cc mx_L_law) 924 = .ok (.iconst 1, 1) := by decide +kernel
theorem dx_L_law_925 : decode (go_cc mx_L_law) 925 = .ok (.iadd, 1) := by decide +kernel
theorem dx_L_law_926 : decode (go_cc mx_L_law) 926 = .ok (.iaload, 1) := by decide +kernel
theorem dx_L_law_927 : decode (go_cc mx_L_law) 927 = .ok (.invokevirtual 113, 3) := by decide +kernel
theorem dx_L_law_930 : decode (go_cc mx_L_law) 930 = .ok (.aload_n 2, 1) := by decide +kernel
theorem dx_L_law_931 : decode (go_cc mx_L_law) 931 = .ok (.aload_n 0, 1) := by decide +kernel
theorem dx_L_law_932 : decode (go_cc mx_L_law) 932 = .ok (.iload_n 3, 1) := by decide +kernel
theorem dx_L_law_933 : decode (go_cc mx_L_law) 933 = .ok (.iconst 1, 1) := by decide +kernel
theorem dx_L_law_934 : decode (go_cc mx_L_law) 934 = .ok (.iadd, 1) := by decide +kernel
theorem dx_L_law_935 : decode (go_cc mx_L_law) 935 = .ok (.iaload, 1) := by decide +kernel
theorem dx_L_law_936 : decode (go_cc mx_L_law) 936 = .ok (.invokevirtual 116, 3) := by decide +kernel
theorem dx_L_law_939 : decode (go_cc mx_L_law) 939 = .ok (.if_icmp .eq 599, 3) := by decide +kernel
theorem dx_L_law_942 : decode (go_cc mx_L_law) 942 = .ok (.iconst 0, 1) := by decide +kernel
theorem dx_L_law_943 : decode (go_cc mx_L_law) 943 = .ok (.ireturn, 1) := by decide +kernel
theorem dx_L_law_944 : decode (go_cc mx_L_law) 944 = .ok (.aload_n 1, 1) := by decide +kernel
theorem dx_L_law_945 : decode (go_cc mx_L_law) 945 = .ok (.invokevirtual 117, 3) := by decide +kernel
theorem dx_L_law_948 : decode (go_cc mx_L_law) 948 = .ok (.aload_n 2, 1) := by decide +kernel
theorem dx_L_law_949 : decode (go_cc mx_L_law) 949 = .ok (.invokevirtual 120, 3) := by decide +kernel
theorem dx_L_law_952 : decode (go_cc mx_L_law) 952 = .ok (.if_icmp .eq 586, 3) := by decide +kernel
theorem dx_L_law_955 : decode (go_cc mx_L_law) 955 = .ok (.iconst 0, 1) := by decide +kernel
theorem dx_L_law_956 : decode (go_cc mx_L_law) 956 = .ok (.ireturn, 1) := by decide +kernel
theorem dx_L_law_957 : decode (go_cc mx_L_law) 957 = .ok (.aload_n 1, 1) := by decide +kernel
theorem dx_L_law_958 : decode (go_cc mx_L_law) 958 = .ok (.aload_n 0, 1) := by decide +kernel
theorem dx_L_law_959 : decode (go_cc mx_L_law) 959 = .ok (.iload_n 3, 1) := by decide +kernel
theorem dx_L_law_960 : decode (go_cc mx_L_law) 960 = .ok (.iconst 1, 1) := by decide +kernel
theorem dx_L_law_961 : decode (go_cc mx_L_law) 961 = .ok (.iadd, 1) := by decide +kernel
theorem dx_L_law_962 : decode (go_cc mx_L_law) 962 = .ok (.iaload, 1) := by decide +kernel
theorem dx_L_law_963 : decode (go_cc mx_L_law) 963 = .ok (.aload_n 0, 1) := by decide +kernel
theorem dx_L_law_964 : decode (go_cc mx_L_law) 964 = .ok (.iload_n 3, 1) := by decide +kernel
theorem dx_L_law_965 : decode (go_cc mx_L_law) 965 = .ok (.iconst 2, 1) := by decide +kernel
theorem dx_L_law_966 : decode (go_cc mx_L_law) 966 = .ok (.iadd, 1) := by decide +kernel
theorem dx_L_law_967 : decode (go_cc mx_L_law) 967 = .ok (.iaload, 1) := by decide +kernel
theorem dx_L_law_968 : decode (go_cc mx_L_law) 968 = .ok (.invokevirtual 121, 3) := by decide +kernel
theorem dx_L_law_971 : decode (go_cc mx_L_law) 971 = .ok (.aload_n 2, 1) := by decide +kernel
theorem dx_L_law_972 : decode (go_cc mx_L_law) 972 = .ok (.aload_n 0, 1) := by decide +kernel
theorem dx_L_law_973 : decode (go_cc mx_L_law) 973 = .ok (.iload_n 3, 1) := by decide +kernel
theorem dx_L_law_974 : decode (go_cc mx_L_law) 974 = .ok (.iconst 1, 1) := by decide +kernel
theorem dx_L_law_975 : decode (go_cc mx_L_law) 975 = .ok (.iadd, 1) := by decide +kernel
theorem dx_L_law_976 : decode (go_cc mx_L_law) 976 = .ok (.iaload, 1) := by decide +kernel
theorem dx_L_law_977 : decode (go_cc mx_L_law) 977 = .ok (.aload_n 0, 1) := by decide +kernel
theorem dx_L_law_978 : decode (go_cc mx_L_law) 978 = .ok (.iload_n 3, 1) := by decide +kernel
theorem dx_L_law_979 : decode (go_cc mx_L_law) 979 = .ok (.iconst 2, 1) := by decide +kernel
theorem dx_L_law_980 : decode (go_cc mx_L_law) 980 = .ok (.iadd, 1) := by decide +kernel
theorem dx_L_law_981 : decode (go_cc mx_L_law) 981 = .ok (.iaload, 1) := by decide +kernel
theorem dx_L_law_982 : decode (go_cc mx_L_law) 982 = .ok (.invokevirtual 124, 3) := by decide +kernel
theorem dx_L_law_985 : decode (go_cc mx_L_law) 985 = .ok (.if_icmp .eq 553, 3) := by decide +kernel
theorem dx_L_law_988 : decode (go_cc mx_L_law) 988 = .ok (.iconst 0, 1) := by decide +kernel
theorem dx_L_law_989 : decode (go_cc mx_L_law) 989 = .ok (.ireturn, 1) := by decide +kernel
theorem dx_L_law_990 : decode (go_cc mx_L_law) 990 = .ok (.aload_n 1, 1) := by decide +kernel
theorem dx_L_law_991 : decode (go_cc mx_L_law) 991 = .ok (.aload_n 0, 1) := by decide +kernel
theorem dx_L_law_992 : decode (go_cc mx_L_law) 992 = .ok (.iload_n 3, 1) := by decide +kernel
theorem dx_L_law_993 : decode (go_cc mx_L_law) 993 = .ok (.iconst 1, 1) := by decide +kernel
theorem dx_L_law_994 : decode (go_cc mx_L_law) 994 = .ok (.iadd, 1) := by decide +kernel
theorem dx_L_law_995 : decode (go_cc mx_L_law) 995 = .ok (.iaload, 1) := by decide +kernel
theorem dx_L_law_996 : decode (go_cc mx_L_law) 996 = .ok (.aload_n 0, 1) := by decide +kernel
theorem dx_L_law_997 : decode (go_cc mx_L_law) 997 = .ok (.iload_n 3, 1) := by decide +kernel
theorem dx_L_law_998 : decode (go_cc mx_L_law) 998 = .ok (.iconst 2, 1) := by decide +kernel
theorem dx_L_law_999 : decode (go_cc mx_L_law) 999 = .ok (.iadd, 1) := by decide +kernel
theorem dx_L_law_1000 : decode (go_cc mx_L_law) 1000 = .ok (.iaload, 1) := by decide +kernel
theorem dx_L_law_1001 : decode (go_cc mx_L_law) 1001 = .ok (.aload_n 0, 1) := by decide +kernel
theorem dx_L_law_1002 : decode (go_cc mx_L_law) 1002 = .ok (.iload_n 3, 1) := by decide +kernel
theorem dx_L_law_1003 : decode (go_cc mx_L_law) 1003 = .ok (.iconst 3, 1) := by decide +kernel
theorem dx_L_law_1004 : decode (go_cc mx_L_law) 1004 = .ok (.iadd, 1) := by decide +kernel
theorem dx_L_law_1005 : decode (go_cc mx_L_law) 1005 = .ok (.iaload, 1) := by decide +kernel
theorem dx_L_law_1006 : decode (go_cc mx_L_law) 1006 = .ok (.invokevirtual 125, 3) := by decide +kernel
theorem dx_L_law_1009 : decode (go_cc mx_L_law) 1009 = .ok (.aload_n 2, 1) := by decide +kernel
theorem dx_L_law_1010 : decode (go_cc mx_L_law) 1010 = .ok (.aload_n 0, 1) := by decide +kernel
theorem dx_L_law_1011 : decode (go_cc mx_L_law) 1011 = .ok (.iload_n 3, 1) := by decide +kernel
theorem dx_L_law_1012 : decode (go_cc mx_L_law) 1012 = .ok (.iconst 1, 1) := by decide +kernel
theorem dx_L_law_1013 : decode (go_cc mx_L_law) 1013 = .ok (.iadd, 1) := by decide +kernel
theorem dx_L_law_1014 : decode (go_cc mx_L_law) 1014 = .ok (.iaload, 1) := by decide +kernel
theorem dx_L_law_1015 : decode (go_cc mx_L_law) 1015 = .ok (.aload_n 0, 1) := by decide +kernel
theorem dx_L_law_1016 : decode (go_cc mx_L_law) 1016 = .ok (.iload_n 3, 1) := by decide +kernel
theorem dx_L_law_1017 : decode (go_cc mx_L_law) 1017 = .ok (.iconst 2, 1) := by decide +kernel
theorem dx_L_law_1018 : decode (go_cc mx_L_law) 1018 = .ok (.iadd, 1) := by decide +kernel
theorem dx_L_law_1019 : decode (go_cc mx_L_law) 1019 = .ok (.iaload, 1) := by decide +kernel
theorem dx_L_law_1020 : decode (go_cc mx_L_law) 1020 = .ok (.aload_n 0, 1) := by decide +kernel
theorem dx_L_law_1021 : decode (go_cc mx_L_law) 1021 = .ok (.iload_n 3, 1) := by decide +kernel
theorem dx_L_law_1022 : decode (go_cc mx_L_law) 1022 = .ok (.iconst 3, 1) := by decide +kernel
theorem dx_L_law_1023 : decode (go_cc mx_L_law) 1023 = .ok (.iadd, 1) := by decide +kernel
theorem dx_L_law_1024 : decode (go_cc mx_L_law) 1024 = .ok (.iaload, 1) := by decide +kernel
theorem dx_L_law_1025 : decode (go_cc mx_L_law) 1025 = .ok (.invokevirtual 128, 3) := by decide +kernel
theorem dx_L_law_1028 : decode (go_cc mx_L_law) 1028 = .ok (.if_icmp .eq 510, 3) := by decide +kernel
theorem dx_L_law_1031 : decode (go_cc mx_L_law) 1031 = .ok (.iconst 0, 1) := by decide +kernel
theorem dx_L_law_1032 : decode (go_cc mx_L_law) 1032 = .ok (.ireturn, 1) := by decide +kernel
theorem dx_L_law_1033 : decode (go_cc mx_L_law) 1033 = .ok (.aload_n 1, 1) := by decide +kernel
theorem dx_L_law_1034 : decode (go_cc mx_L_law) 1034 = .ok (.aload_n 0, 1) := by decide +kernel
theorem dx_L_law_1035 : decode (go_cc mx_L_law) 1035 = .ok (.iload_n 3, 1) := by decide +kernel
theorem dx_L_law_1036 : decode (go_cc mx_L_law) 1036 = .ok (.iconst 1, 1) := by decide +kernel
theorem dx_L_law_1037 : decode (go_cc mx_L_law) 1037 = .ok (.iadd, 1) := by decide +kernel
theorem dx_L_law_1038 : decode (go_cc mx_L_law) 1038 = .ok (.iaload, 1) := by decide +kernel
theorem dx_L_law_1039 : decode (go_cc mx_L_law) 1039 = .ok (.invokevirtual 129, 3) := by decide +kernel
theorem dx_L_law_1042 : decode (go_cc mx_L_law) 1042 = .ok (.aload_n 2, 1) := by decide +kernel
theorem dx_L_law_1043 : decode (go_cc mx_L_law) 1043 = .ok (.aload_n 0, 1) := by decide +kernel
theorem dx_L_law_1044 : decode (go_cc mx_L_law) 1044 = .ok (.iload_n 3, 1) := by decide +kernel
theorem dx_L_law_1045 : decode (go_cc mx_L_law) 1045 = .ok (.iconst 1, 1) := by decide +kernel
theorem dx_L_law_1046 : decode (go_cc mx_L_law) 1046 = .ok (.iadd, 1) := by decide +kernel
theorem dx_L_law_1047 : decode (go_cc mx_L_law) 1047 = .ok (.iaload, 1) := by decide +kernel
theorem dx_L_law_1048 : decode (go_cc mx_L_law) 1048 = .ok (.invokevirtual 132, 3) := by decide +kernel
theorem dx_L_law_1051 : decode (go_cc mx_L_law) 1051 = .ok (.if_icmp .eq 487, 3) := by decide +kernel
theorem dx_L_law_1054 : decode (go_cc mx_L_law) 1054 = .ok (.iconst 0, 1) := by decide +kernel
theorem dx_L_law_1055 : decode (go_cc mx_L_law) 1055 = .ok (.ireturn, 1) := by decide +kernel
theorem dx_L_law_1056 : decode (go_cc mx_L_law) 1056 = .ok (.aload_n 1, 1) := by decide +kernel
theorem dx_L_law_1057 : decode (go_cc mx_L_law) 1057 = .ok (.aload_n 0, 1) := by decide +kernel
theorem dx_L_law_1058 : decode (go_cc mx_L_law) 1058 = .ok (.iload_n 3, 1) := by decide +kernel
theorem dx_L_law_1059 : decode (go_cc mx_L_law) 1059 = .ok (.iconst 1, 1) := by decide +kernel
theorem dx_L_law_1060 : decode (go_cc mx_L_law) 1060 = .ok (.iadd, 1) := by decide +kernel
theorem dx_L_law_1061 : decode (go_cc mx_L_law) 1061 = .ok (.iaload, 1) := by decide +kernel
theorem dx_L_law_1062 : decode (go_cc mx_L_law) 1062 = .ok (.aload_n 0, 1) := by decide +kernel
theorem dx_L_law_1063 : decode (go_cc mx_L_law) 1063 = .ok (.iload_n 3, 1) := by decide +kernel
theorem dx_L_law_1064 : decode (go_cc mx_L_law) 1064 = .ok (.iconst 2, 1) := by decide +kernel
theorem dx_L_law_1065 : decode (go_cc mx_L_law) 1065 = .ok (.iadd, 1) := by decide +kernel
theorem dx_L_law_1066 : decode (go_cc mx_L_law) 1066 = .ok (.iaload, 1) := by decide +kernel
theorem dx_L_law_1067 : decode (go_cc mx_L_law) 1067 = .ok (.invokevirtual 133, 3) := by decide +kernel
theorem dx_L_law_1070 : decode (go_cc mx_L_law) 1070 = .ok (.aload_n 2, 1) := by decide +kernel
theorem dx_L_law_1071 : decode (go_cc mx_L_law) 1071 = .ok (.aload_n 0, 1) := by decide +kernel
theorem dx_L_law_1072 : decode (go_cc mx_L_law) 1072 = .ok (.iload_n 3, 1) := by decide +kernel
theorem dx_L_law_1073 : decode (go_cc mx_L_law) 1073 = .ok (.iconst 1, 1) := by decide +kernel
theorem dx_L_law_1074 : decode (go_cc mx_L_law) 1074 = .ok (.iadd, 1) := by decide +kernel
theorem dx_L_law_1075 : decode (go_cc mx_L_law) 1075 = .ok (.iaload, 1) := by decide +kernel
theorem dx_L_law_1076 : decode (go_cc mx_L_law) 1076 = .ok (.aload_n 0, 1) := by decide +kernel
theorem dx_L_law_1077 : decode (go_cc mx_L_law) 1077 = .ok (.iload_n 3, 1) := by decide +kernel
theorem dx_L_law_1078 : decode (go_cc mx_L_law) 1078 = .ok (.iconst 2, 1) := by decide +kernel
theorem dx_L_law_1079 : decode (go_cc mx_L_law) 1079 = .ok (.iadd, 1) := by decide +kernel
theorem dx_L_law_1080 : decode (go_cc mx_L_law) 1080 = .ok (.iaload, 1) := by decide +kernel
theorem dx_L_law_1081 : decode (go_cc mx_L_law) 1081 = .ok (.invokevirtual 136, 3) := by decide +kernel
theorem dx_L_law_1084 : decode (go_cc mx_L_law) 1084 = .ok (.if_icmp .eq 454, 3) := by decide +kernel
theorem dx_L_law_1087 : decode (go_cc mx_L_law) 1087 = .ok (.iconst 0, 1) := by decide +kernel
theorem dx_L_law_1088 : decode (go_cc mx_L_law) 1088 = .ok (.ireturn, 1) := by decide +kernel
theorem dx_L_law_1089 : decode (go_cc mx_L_law) 1089 = .ok (.aload_n 1, 1) := by decide +kernel
theorem dx_L_law_1090 : decode (go_cc mx_L_law) 1090 = .ok (.aload_n 0, 1) := by decide +kernel
theorem dx_L_law_1091 : decode (go_cc mx_L_law) 1091 = .ok (.iload_n 3, 1) := by decide +kernel
theorem dx_L_law_1092 : decode (go_cc mx_L_law) 1092 = .ok (.iconst 1, 1) := by decide +kernel
theorem dx_L_law_1093 : decode (go_cc mx_L_law) 1093 = .ok (.iadd, 1) := by decide +kernel
theorem dx_L_law_1094 : decode (go_cc mx_L_law) 1094 = .ok (.iaload, 1) := by decide +kernel
theorem dx_L_law_1095 : decode (go_cc mx_L_law) 1095 = .ok (.invokevirtual 137, 3) := by decide +kernel
theorem dx_L_law_1098 : decode (go_cc mx_L_law) 1098 = .ok (.aload_n 2, 1) := by decide +kernel
theorem dx_L_law_1099 : decode (go_cc mx_L_law) 1099 = .ok (.aload_n 0, 1) := by decide +kernel
theorem dx_L_law_1100 : decode (go_cc mx_L_law) 1100 = .ok (.iload_n 3, 1) := by decide +kernel
theorem dx_L_law_1101 : decode (go_cc mx_L_law) 1101 = .ok (.iconst 1, 1) := by decide +kernel
theorem dx_L_law_1102 : decode (go_cc mx_L_law) 1102 = .ok (.iadd, 1) := by decide +kernel
theorem dx_L_law_1103 : decode (go_cc mx_L_law) 1103 = .ok (.iaload, 1) := by decide +kernel
theorem dx_L_law_1104 : decode (go_cc mx_L_law) 1104 = .ok (.invokevirtual 140, 3) := by decide +kernel
theorem dx_L_law_1107 : decode (go_cc mx_L_law) 1107 = .ok (.if_icmp .eq 431, 3) := by decide +kernel
theorem dx_L_law_1110 : decode (go_cc mx_L_law) 1110 = .ok (.iconst 0, 1) := by decide +kernel
theorem dx_L_law_1111 : decode (go_cc mx_L_law) 1111 = .ok (.ireturn, 1) := by decide +kernel
theorem dx_L_law_1112 : decode (go_cc mx_L_law) 1112 = .ok (.aload_n 1, 1) := by decide +kernel
theorem dx_L_law_1113 : decode (go_cc mx_L_law) 1113 = .ok (.invokevirtual 141, 3) := by decide +kernel
theorem dx_L_law_1116 : decode (go_cc mx_L_law) 1116 = .ok (.aload_n 2, 1) := by decide +kernel
theorem dx_L_law_1117 : decode (go_cc mx_L_law) 1117 = .ok (.invokevirtual 144, 3) := by decide +kernel
theorem dx_L_law_1120 : decode (go_cc mx_L_law) 1120 = .ok (.if_icmp .eq 418, 3) := by decide +kernel
theorem dx_L_law_1123 : decode (go_cc mx_L_law) 1123 = .ok (.iconst 0, 1) := by decide +kernel
theorem dx_L_law_1124 : decode (go_cc mx_L_law) 1124 = .ok (.ireturn, 1) := by decide +kernel
theorem dx_L_law_1125 : decode (go_cc mx_L_law) 1125 = .ok (.aload_n 1, 1) := by decide +kernel
theorem dx_L_law_1126 : decode (go_cc mx_L_law) 1126 = .ok (.aload_n 0, 1) := by decide +kernel
theorem dx_L_law_1127 : decode (go_cc mx_L_law) 1127 = .ok (.iload_n 3, 1) := by decide +kernel
theorem dx_L_law_1128 : decode (go_cc mx_L_law) 1128 = .ok (.iconst 1, 1) := by decide +kernel
theorem dx_L_law_1129 : decode (go_cc mx_L_law) 1129 = .ok (.iadd, 1) := by decide +kernel
theorem dx_L_law_1130 : decode (go_cc mx_L_law) 1130 = .ok (.iaload, 1) := by decide +kernel
theorem dx_L_law_1131 : decode (go_cc mx_L_law) 1131 = .ok (.invokevirtual 145, 3) := by decide +kernel
theorem dx_L_law_1134 : decode (go_cc mx_L_law) 1134 = .ok (.aload_n 2, 1) := by decide +kernel
theorem dx_L_law_1135 : decode (go_cc mx_L_law) 1135 = .ok (.aload_n 0, 1) := by decide +kernel
theorem dx_L_law_1136 : decode (go_cc mx_L_law) 1136 = .ok (.iload_n 3, 1) := by decide +kernel
theorem dx_L_law_1137 : decode (go_cc mx_L_law) 1137 = .ok (.iconst 1, 1) := by decide +kernel
theorem dx_L_law_1138 : decode (go_cc mx_L_law) 1138 = .ok (.iadd, 1) := by decide +kernel
theorem dx_L_law_1139 : decode (go_cc mx_L_law) 1139 = .ok (.iaload, 1) := by decide +kernel
theorem dx_L_law_1140 : decode (go_cc mx_L_law) 1140 = .ok (.invokevirtual 148, 3) := by decide +kernel
theorem dx_L_law_1143 : decode (go_cc mx_L_law) 1143 = .ok (.if_icmp .eq 395, 3) := by decide +kernel
theorem dx_L_law_1146 : decode (go_cc mx_L_law) 1146 = .ok (.iconst 0, 1) := by decide +kernel
theorem dx_L_law_1147 : decode (go_cc mx_L_law) 1147 = .ok (.ireturn, 1) := by decide +kernel
theorem dx_L_law_1148 : decode (go_cc mx_L_law) 1148 = .ok (.aload_n 1, 1) := by decide +kernel
theorem dx_L_law_1149 : decode (go_cc mx_L_law) 1149 = .ok (.invokevirtual 149, 3) := by decide +kernel
theorem dx_L_law_1152 : decode (go_cc mx_L_law) 1152 = .ok (.aload_n 2, 1) := by decide +kernel
theorem dx_L_law_1153 : decode (go_cc mx_L_law) 1153 = .ok (.invokevirtual 152, 3) := by decide +kernel
theorem dx_L_law_1156 : decode (go_cc mx_L_law) 1156 = .ok (.if_icmp .eq 382, 3) := by decide +kernel
theorem dx_L_law_1159 : decode (go_cc mx_L_law) 1159 = .ok (.iconst 0, 1) := by decide +kernel
theorem dx_L_law_1160 : decode (go_cc mx_L_law) 1160 = .ok (.ireturn, 1) := by decide +kernel
theorem dx_L_law_1161 : decode (go_cc mx_L_law) 1161 = .ok (.aload_n 1, 1) := by decide +kernel
theorem dx_L_law_1162 : decode (go_cc mx_L_law) 1162 = .ok (.invokevirtual 153, 3) := by decide +kernel
theorem dx_L_law_1165 : decode (go_cc mx_L_law) 1165 = .ok (.aload_n 2, 1) := by decide +kernel
theorem dx_L_law_1166 : decode (go_cc mx_L_law) 1166 = .ok (.invokevirtual 156, 3) := by decide +kernel
theorem dx_L_law_1169 : decode (go_cc mx_L_law) 1169 = .ok (.if_icmp .eq 369, 3) := by decide +kernel
theorem dx_L_law_1172 : decode (go_cc mx_L_law) 1172 = .ok (.iconst 0, 1) := by decide +kernel
theorem dx_L_law_1173 : decode (go_cc mx_L_law) 1173 = .ok (.ireturn, 1) := by decide +kernel
theorem dx_L_law_1174 : decode (go_cc mx_L_law) 1174 = .ok (.aload_n 1, 1) := by decide +kernel
theorem dx_L_law_1175 : decode (go_cc mx_L_law) 1175 = .ok (.invokevirtual 157, 3) := by decide +kernel
theorem dx_L_law_1178 : decode (go_cc mx_L_law) 1178 = .ok (.aload_n 2, 1) := by decide +kernel
theorem dx_L_law_1179 : decode (go_cc mx_L_law) 1179 = .ok (.invokevirtual 160, 3) := by decide +kernel
theorem dx_L_law_1182 : decode (go_cc mx_L_law) 1182 = .ok (.if_icmp .eq 356, 3) := by decide +kernel
theorem dx_L_law_1185 : decode (go_cc mx_L_law) 1185 = .ok (.iconst 0, 1) := by decide +kernel
theorem dx_L_law_1186 : decode (go_cc mx_L_law) 1186 = .ok (.ireturn, 1) := by decide +kernel
theorem dx_L_law_1187 : decode (go_cc mx_L_law) 1187 = .ok (.aload_n 1, 1) := by decide +kernel
theorem dx_L_law_1188 : decode (go_cc mx_L_law) 1188 = .ok (.aload_n 0, 1) := by decide +kernel
theorem dx_L_law_1189 : decode (go_cc mx_L_law) 1189 = .ok (.iload_n 3, 1) := by decide +kernel
theorem dx_L_law_1190 : decode (go_cc mx_L_law) 1190 = .ok (.iconst 1, 1) := by decide +kernel
theorem dx_L_law_1191 : decode (go_cc mx_L_law) 1191 = .ok (.iadd, 1) := by decide +kernel
theorem dx_L_law_1192 : decode (go_cc mx_L_law) 1192 = .ok (.iaload, 1) := by decide +kernel
theorem dx_L_law_1193 : decode (go_cc mx_L_law) 1193 = .ok (.invokevirtual 161, 3) := by decide +kernel
theorem dx_L_law_1196 : decode (go_cc mx_L_law) 1196 = .ok (.aload_n 2, 1) := by decide +kernel
theorem dx_L_law_1197 : decode (go_cc mx_L_law) 1197 = .ok (.aload_n 0, 1) := by decide +kernel
theorem dx_L_law_1198 : decode (go_cc mx_L_law) 1198 = .ok (.iload_n 3, 1) := by decide +kernel
theorem dx_L_law_1199 : decode (go_cc mx_L_law) 1199 = .ok (.iconst 1, 1) := by decide +kernel
theorem dx_L_law_1200 : decode (go_cc mx_L_law) 1200 = .ok (.iadd, 1) := by decide +kernel
theorem dx_L_law_1201 : decode (go_cc mx_L_law) 1201 = .ok (.iaload, 1) := by decide +kernel
theorem dx_L_law_1202 : decode (go_cc mx_L_law) 1202 = .ok (.invokevirtual 164, 3) := by decide +kernel
theorem dx_L_law_1205 : decode (go_cc mx_L_law) 1205 = .ok (.if_icmp .eq 333, 3) := by decide +kernel
theorem dx_L_law_1208 : decode (go_cc mx_L_law) 1208 = .ok (.iconst 0, 1) := by decide +kernel
theorem dx_L_law_1209 : decode (go_cc mx_L_law) 1209 = .ok (.ireturn, 1) := by decide +kernel
theorem dx_L_law_1210 : decode (go_cc mx_L_law) 1210 = .ok (.aload_n 1, 1) := by decide +kernel
theorem dx_L_law_1211 : decode (go_cc mx_L_law) 1211 = .ok (.aload_n 0, 1) := by decide +kernel
theorem dx_L_law_1212 : decode (go_cc mx_L_law) 1212 = .ok (.iload_n 3, 1) := by decide +kernel
theorem dx_L_law_1213 : decode (go_cc mx_L_law) 1213 = .ok (.iconst 1, 1) := by decide +kernel
theorem dx_L_law_1214 : decode (go_cc mx_L_law) 1214 = .ok (.iadd, 1) := by decide +kernel
theorem dx_L_law_1215 : decode (go_cc mx_L_law) 1215 = .ok (.iaload, 1) := by decide +kernel
theorem dx_L_law_1216 : decode (go_cc mx_L_law) 1216 = .ok (.aload_n 0, 1) := by decide +kernel
theorem dx_L_law_1217 : decode (go_cc mx_L_law) 1217 = .ok (.iload_n 3, 1) := by decide +kernel
theorem dx_L_law_1218 : decode (go_cc mx_L_law) 1218 = .ok (.iconst 2, 1) := by decide +kernel
theorem dx_L_law_1219 : decode (go_cc mx_L_law) 1219 = .ok (.iadd, 1) := by decide +kernel
theorem dx_L_law_1220 : decode (go_cc mx_L_law) 1220 = .ok (.iaload, 1) := by decide +kernel
theorem dx_L_law_1221 : decode (go_cc mx_L_law) 1221 = .ok (.invokevirtual 165, 3) := by decide +kernel
theorem dx_L_law_1224 : decode (go_cc mx_L_law) 1224 = .ok (.aload_n 2, 1) := by decide +kernel
theorem dx_L_law_1225 : decode (go_cc mx_L_law) 1225 = .ok (.aload_n 0, 1) := by decide +kernel
theorem dx_L_law_1226 : decode (go_cc mx_L_law) 1226 = .ok (.iload_n 3, 1) := by decide +kernel
theorem dx_L_law_1227 : decode (go_cc mx_L_law) 1227 = .ok (.iconst 1, 1) := by decide +kernel
theorem dx_L_law_1228 : decode (go_cc mx_L_law) 1228 = .ok (.iadd, 1) := by decide +kernel
theorem dx_L_law_1229 : decode (go_cc mx_L_law) 1229 = .ok (.iaload, 1) := by decide +kernel
theorem dx_L_law_1230 : decode (go_cc mx_L_law) 1230 = .ok (.aload_n 0, 1) := by decide +kernel
theorem dx_L_law_1231 : decode (go_cc mx_L_law) 1231 = .ok (.iload_n 3, 1) := by decide +kernel
theorem dx_L_law_1232 : decode (go_cc mx_L_law) 1232 = .ok (.iconst 2, 1) := by decide +kernel
theorem dx_L_law_1233 : decode (go_cc mx_L_law) 1233 = .ok (.iadd, 1) := by decide +kernel
theorem dx_L_law_1234 : decode (go_cc mx_L_law) 1234 = .ok (.iaload, 1) := by decide +kernel
theorem dx_L_law_1235 : decode (go_cc mx_L_law) 1235 = .ok (.invokevirtual 168, 3) := by decide +kernel
theorem dx_L_law_1238 : decode (go_cc mx_L_law) 1238 = .ok (.lcmp, 1) := by decide +kernel
theorem dx_L_law_1239 : decode (go_cc mx_L_law) 1239 = .ok (.ifCond .eq 299, 3) := by decide +kernel
theorem dx_L_law_1242 : decode (go_cc mx_L_law) 1242 = .ok (.iconst 0, 1) := by decide +kernel
theorem dx_L_law_1243 : decode (go_cc mx_L_law) 1243 = .ok (.ireturn, 1) := by decide +kernel
theorem dx_L_law_1244 : decode (go_cc mx_L_law) 1244 = .ok (.aload_n 1, 1) := by decide +kernel
theorem dx_L_law_1245 : decode (go_cc mx_L_law) 1245 = .ok (.invokevirtual 169, 3) := by decide +kernel
theorem dx_L_law_1248 : decode (go_cc mx_L_law) 1248 = .ok (.aload_n 2, 1) := by decide +kernel
theorem dx_L_law_1249 : decode (go_cc mx_L_law) 1249 = .ok (.invokevirtual 172, 3) := by decide +kernel
theorem dx_L_law_1252 : decode (go_cc mx_L_law) 1252 = .ok (.if_icmp .eq 286, 3) := by decide +kernel
theorem dx_L_law_1255 : decode (go_cc mx_L_law) 1255 = .ok (.iconst 0, 1) := by decide +kernel
theorem dx_L_law_1256 : decode (go_cc mx_L_law) 1256 = .ok (.ireturn, 1) := by decide +kernel
theorem dx_L_law_1257 : decode (go_cc mx_L_law) 1257 = .ok (.aload_n 1, 1) := by decide +kernel
theorem dx_L_law_1258 : decode (go_cc mx_L_law) 1258 = .ok (.aload_n 0, 1) := by decide +kernel
theorem dx_L_law_1259 : decode (go_cc mx_L_law) 1259 = .ok (.iload_n 3, 1) := by decide +kernel
theorem dx_L_law_1260 : decode (go_cc mx_L_law) 1260 = .ok (.iconst 1, 1) := by decide +kernel
theorem dx_L_law_1261 : decode (go_cc mx_L_law) 1261 = .ok (.iadd, 1) := by decide +kernel
theorem dx_L_law_1262 : decode (go_cc mx_L_law) 1262 = .ok (.iaload, 1) := by decide +kernel
theorem dx_L_law_1263 : decode (go_cc mx_L_law) 1263 = .ok (.invokevirtual 173, 3) := by decide +kernel
theorem dx_L_law_1266 : decode (go_cc mx_L_law) 1266 = .ok (.aload_n 2, 1) := by decide +kernel
theorem dx_L_law_1267 : decode (go_cc mx_L_law) 1267 = .ok (.aload_n 0, 1) := by decide +kernel
theorem dx_L_law_1268 : decode (go_cc mx_L_law) 1268 = .ok (.iload_n 3, 1) := by decide +kernel
theorem dx_L_law_1269 : decode (go_cc mx_L_law) 1269 = .ok (.iconst 1, 1) := by decide +kernel
theorem dx_L_law_1270 : decode (go_cc mx_L_law) 1270 = .ok (.iadd, 1) := by decide +kernel
theorem dx_L_law_1271 : decode (go_cc mx_L_law) 1271 = .ok (.iaload, 1) := by decide +kernel
theorem dx_L_law_1272 : decode (go_cc mx_L_law) 1272 = .ok (.invokevirtual 176, 3) := by decide +kernel
theorem dx_L_law_1275 : decode (go_cc mx_L_law) 1275 = .ok (.if_icmp .eq 263, 3) := by decide +kernel
theorem dx_L_law_1278 : decode (go_cc mx_L_law) 1278 = .ok (.iconst 0, 1) := by decide +kernel
theorem dx_L_law_1279 : decode (go_cc mx_L_law) 1279 = .ok (.ireturn, 1) := by decide +kernel
theorem dx_L_law_1280 : decode (go_cc mx_L_law) 1280 = .ok (.aload_n 1, 1) := by decide +kernel
theorem dx_L_law_1281 : decode (go_cc mx_L_law) 1281 = .ok (.aload_n 0, 1) := by decide +kernel
theorem dx_L_law_1282 : decode (go_cc mx_L_law) 1282 = .ok (.iload_n 3, 1) := by decide +kernel
theorem dx_L_law_1283 : decode (go_cc mx_L_law) 1283 = .ok (.iconst 1, 1) := by decide +kernel
theorem dx_L_law_1284 : decode (go_cc mx_L_law) 1284 = .ok (.iadd, 1) := by decide +kernel
theorem dx_L_law_1285 : decode (go_cc mx_L_law) 1285 = .ok (.iaload, 1) := by decide +kernel
theorem dx_L_law_1286 : decode (go_cc mx_L_law) 1286 = .ok (.invokevirtual 177, 3) := by decide +kernel
theorem dx_L_law_1289 : decode (go_cc mx_L_law) 1289 = .ok (.aload_n 2, 1) := by decide +kernel
theorem dx_L_law_1290 : decode (go_cc mx_L_law) 1290 = .ok (.aload_n 0, 1) := by decide +kernel
theorem dx_L_law_1291 : decode (go_cc mx_L_law) 1291 = .ok (.iload_n 3, 1) := by decide +kernel
theorem dx_L_law_1292 : decode (go_cc mx_L_law) 1292 = .ok (.iconst 1, 1) := by decide +kernel
theorem dx_L_law_1293 : decode (go_cc mx_L_law) 1293 = .ok (.iadd, 1) := by decide +kernel
theorem dx_L_law_1294 : decode (go_cc mx_L_law) 1294 = .ok (.iaload, 1) := by decide +kernel
theorem dx_L_law_1295 : decode (go_cc mx_L_law) 1295 = .ok (.invokevirtual 180, 3) := by decide +kernel
theorem dx_L_law_1298 : decode (go_cc mx_L_law) 1298 = .ok (.if_icmp .eq 240, 3) := by decide +kernel
theorem dx_L_law_1301 : decode (go_cc mx_L_law) 1301 = .ok (.iconst 0, 1) := by decide +kernel
theorem dx_L_law_1302 : decode (go_cc mx_L_law) 1302 = .ok (.ireturn, 1) := by decide +kernel
theorem dx_L_law_1303 : decode (go_cc mx_L_law) 1303 = .ok (.aload_n 1, 1) := by decide +kernel
theorem dx_L_law_1304 : decode (go_cc mx_L_law) 1304 = .ok (.aload_n 0, 1) := by decide +kernel
theorem dx_L_law_1305 : decode (go_cc mx_L_law) 1305 = .ok (.iload_n 3, 1) := by decide +kernel
theorem dx_L_law_1306 : decode (go_cc mx_L_law) 1306 = .ok (.iconst 1, 1) := by decide +kernel
theorem dx_L_law_1307 : decode (go_cc mx_L_law) 1307 = .ok (.iadd, 1) := by decide +kernel
theorem dx_L_law_1308 : decode (go_cc mx_L_law) 1308 = .ok (.iaload, 1) := by decide +kernel
theorem dx_L_law_1309 : decode (go_cc mx_L_law) 1309 = .ok (.aload_n 0, 1) := by decide +kernel
theorem dx_L_law_1310 : decode (go_cc mx_L_law) 1310 = .ok (.iload_n 3, 1) := by decide +kernel
theorem dx_L_law_1311 : decode (go_cc mx_L_law) 1311 = .ok (.iconst 2, 1) := by decide +kernel
theorem dx_L_law_1312 : decode (go_cc mx_L_law) 1312 = .ok (.iadd, 1) := by decide +kernel
theorem dx_L_law_1313 : decode (go_cc mx_L_law) 1313 = .ok (.iaload, 1) := by decide +kernel
theorem dx_L_law_1314 : decode (go_cc mx_L_law) 1314 = .ok (.invokevirtual 181, 3) := by decide +kernel
theorem dx_L_law_1317 : decode (go_cc mx_L_law) 1317 = .ok (.aload_n 2, 1) := by decide +kernel
theorem dx_L_law_1318 : decode (go_cc mx_L_law) 1318 = .ok (.aload_n 0, 1) := by decide +kernel
theorem dx_L_law_1319 : decode (go_cc mx_L_law) 1319 = .ok (.iload_n 3, 1) := by decide +kernel
theorem dx_L_law_1320 : decode (go_cc mx_L_law) 1320 = .ok (.iconst 1, 1) := by decide +kernel
theorem dx_L_law_1321 : decode (go_cc mx_L_law) 1321 = .ok (.iadd, 1) := by decide +kernel
theorem dx_L_law_1322 : decode (go_cc mx_L_law) 1322 = .ok (.iaload, 1) := by decide +kernel
theorem dx_L_law_1323 : decode (go_cc mx_L_law) 1323 = .ok (.aload_n 0, 1) := by decide +kernel
theorem dx_L_law_1324 : decode (go_cc mx_L_law) 1324 = .ok (.iload_n 3, 1) := by decide +kernel
theorem dx_L_law_1325 : decode (go_cc mx_L_law) 1325 = .ok (.iconst 2, 1) := by decide +kernel
theorem dx_L_law_1326 : decode (go_cc mx_L_law) 1326 = .ok (.iadd, 1) := by decide +kernel
theorem dx_L_law_1327 : decode (go_cc mx_L_law) 1327 = .ok (.iaload, 1) := by decide +kernel
theorem dx_L_law_1328 : decode (go_cc mx_L_law) 1328 = .ok (.invokevirtual 184, 3) := by decide +kernel
theorem dx_L_law_1331 : decode (go_cc mx_L_law) 1331 = .ok (.if_icmp .eq 207, 3) := by decide +kernel
theorem dx_L_law_1334 : decode (go_cc mx_L_law) 1334 = .ok (.iconst 0, 1) := by decide +kernel
theorem dx_L_law_1335 : decode (go_cc mx_L_law) 1335 = .ok (.ireturn, 1) := by decide +kernel
theorem dx_L_law_1336 : decode (go_cc mx_L_law) 1336 = .ok (.aload_n 1, 1) := by decide +kernel
theorem dx_L_law_1337 : decode (go_cc mx_L_law) 1337 = .ok (.aload_n 0, 1) := by decide +kernel
theorem dx_L_law_1338 : decode (go_cc mx_L_law) 1338 = .ok (.iload_n 3, 1) := by decide +kernel
theorem dx_L_law_1339 : decode (go_cc mx_L_law) 1339 = .ok (.iconst 1, 1) := by decide +kernel
theorem dx_L_law_1340 : decode (go_cc mx_L_law) 1340 = .ok (.iadd, 1) := by decide +kernel
theorem dx_L_law_1341 : decode (go_cc mx_L_law) 1341 = .ok (.iaload, 1) := by decide +kernel
theorem dx_L_law_1342 : decode (go_cc mx_L_law) 1342 = .ok (.aload_n 0, 1) := by decide +kernel
theorem dx_L_law_1343 : decode (go_cc mx_L_law) 1343 = .ok (.iload_n 3, 1) := by decide +kernel
theorem dx_L_law_1344 : decode (go_cc mx_L_law) 1344 = .ok (.iconst 2, 1) := by decide +kernel
theorem dx_L_law_1345 : decode (go_cc mx_L_law) 1345 = .ok (.iadd, 1) := by decide +kernel
theorem dx_L_law_1346 : decode (go_cc mx_L_law) 1346 = .ok (.iaload, 1) := by decide +kernel
theorem dx_L_law_1347 : decode (go_cc mx_L_law) 1347 = .ok (.invokevirtual 185, 3) := by decide +kernel
theorem dx_L_law_1350 : decode (go_cc mx_L_law) 1350 = .ok (.aload_n 2, 1) := by decide +kernel
theorem dx_L_law_1351 : decode (go_cc mx_L_law) 1351 = .ok (.aload_n 0, 1) := by decide +kernel
theorem dx_L_law_1352 : decode (go_cc mx_L_law) 1352 = .ok (.iload_n 3, 1) := by decide +kernel
theorem dx_L_law_1353 : decode (go_cc mx_L_law) 1353 = .ok (.iconst 1, 1) := by decide +kernel
theorem dx_L_law_1354 : decode (go_cc mx_L_law) 1354 = .ok (.iadd, 1) := by decide +kernel
theorem dx_L_law_1355 : decode (go_cc mx_L_law) 1355 = .ok (.iaload, 1) := by decide +kernel
theorem dx_L_law_1356 : decode (go_cc mx_L_law) 1356 = .ok (.aload_n 0, 1) := by decide +kernel
theorem dx_L_law_1357 : decode (go_cc mx_L_law) 1357 = .ok (.iload_n 3, 1) := by decide +kernel
theorem dx_L_law_1358 : decode (go_cc mx_L_law) 1358 = .ok (.iconst 2, 1) := by decide +kernel
theorem dx_L_law_1359 : decode (go_cc mx_L_law) 1359 = .ok (.iadd, 1) := by decide +kernel
theorem dx_L_law_1360 : decode (go_cc mx_L_law) 1360 = .ok (.iaload, 1) := by decide +kernel
theorem dx_L_law_1361 : decode (go_cc mx_L_law) 1361 = .ok (.invokevirtual 188, 3) := by decide +kernel
theorem dx_L_law_1364 : decode (go_cc mx_L_law) 1364 = .ok (.if_icmp .eq 174, 3) := by decide +kernel
theorem dx_L_law_1367 : decode (go_cc mx_L_law) 1367 = .ok (.iconst 0, 1) := by decide +kernel
theorem dx_L_law_1368 : decode (go_cc mx_L_law) 1368 = .ok (.ireturn, 1) := by decide +kernel
theorem dx_L_law_1369 : decode (go_cc mx_L_law) 1369 = .ok (.aload_n 1, 1) := by decide +kernel
theorem dx_L_law_1370 : decode (go_cc mx_L_law) 1370 = .ok (.aload_n 0, 1) := by decide +kernel
theorem dx_L_law_1371 : decode (go_cc mx_L_law) 1371 = .ok (.iload_n 3, 1) := by decide +kernel
theorem dx_L_law_1372 : decode (go_cc mx_L_law) 1372 = .ok (.iconst 1, 1) := by decide +kernel
theorem dx_L_law_1373 : decode (go_cc mx_L_law) 1373 = .ok (.iadd, 1) := by decide +kernel
theorem dx_L_law_1374 : decode (go_cc mx_L_law) 1374 = .ok (.iaload, 1) := by decide +kernel
theorem dx_L_law_1375 : decode (go_cc mx_L_law) 1375 = .ok (.aload_n 0, 1) := by decide +kernel
theorem dx_L_law_1376 : decode (go_cc mx_L_law) 1376 = .ok (.iload_n 3, 1) := by decide +kernel
theorem dx_L_law_1377 : decode (go_cc mx_L_law) 1377 = .ok (.iconst 2, 1) := by decide +kernel
theorem dx_L_law_1378 : decode (go_cc mx_L_law) 1378 = .ok (.iadd, 1) := by decide +kernel
theorem dx_L_law_1379 : decode (go_cc mx_L_law) 1379 = .ok (.iaload, 1) := by decide +kernel
theorem dx_L_law_1380 : decode (go_cc mx_L_law) 1380 = .ok (.aload_n 0, 1) := by decide +kernel
theorem dx_L_law_1381 : decode (go_cc mx_L_law) 1381 = .ok (.iload_n 3, 1) := by decide +kernel
theorem dx_L_law_1382 : decode (go_cc mx_L_law) 1382 = .ok (.iconst 3, 1) := by decide +kernel
theorem dx_L_law_1383 : decode (go_cc mx_L_law) 1383 = .ok (.iadd, 1) := by decide +kernel
theorem dx_L_law_1384 : decode (go_cc mx_L_law) 1384 = .ok (.iaload, 1) := by decide +kernel
theorem dx_L_law_1385 : decode (go_cc mx_L_law) 1385 = .ok (.invokevirtual 189, 3) := by decide +kernel
theorem dx_L_law_1388 : decode (go_cc mx_L_law) 1388 = .ok (.aload_n 2, 1) := by decide +kernel
theorem dx_L_law_1389 : decode (go_cc mx_L_law) 1389 = .ok (.aload_n 0, 1) := by decide +kernel
theorem dx_L_law_1390 : decode (go_cc mx_L_law) 1390 = .ok (.iload_n 3, 1) := by decide +kernel
theorem dx_L_law_1391 : decode (go_cc mx_L_law) 1391 = .ok (.iconst 1, 1) := by decide +kernel
theorem dx_L_law_1392 : decode (go_cc mx_L_law) 1392 = .ok (.iadd, 1) := by decide +kernel
theorem dx_L_law_1393 : decode (go_cc mx_L_law) 1393 = .ok (.iaload, 1) := by decide +kernel
theorem dx_L_law_1394 : decode (go_cc mx_L_law) 1394 = .ok (.aload_n 0, 1) := by decide +kernel
theorem dx_L_law_1395 : decode (go_cc mx_L_law) 1395 = .ok (.iload_n 3, 1) := by decide +kernel
theorem dx_L_law_1396 : decode (go_cc mx_L_law) 1396 = .ok (.iconst 2, 1) := by decide +kernel
theorem dx_L_law_1397 : decode (go_cc mx_L_law) 1397 = .ok (.iadd, 1) := by decide +kernel
theorem dx_L_law_1398 : decode (go_cc mx_L_law) 1398 = .ok (.iaload, 1) := by decide +kernel
theorem dx_L_law_1399 : decode (go_cc mx_L_law) 1399 = .ok (.aload_n 0, 1) := by decide +kernel
theorem dx_L_law_1400 : decode (go_cc mx_L_law) 1400 = .ok (.iload_n 3, 1) := by decide +kernel
theorem dx_L_law_1401 : decode (go_cc mx_L_law) 1401 = .ok (.iconst 3, 1) := by decide +kernel
theorem dx_L_law_1402 : decode (go_cc mx_L_law) 1402 = .ok (.iadd, 1) := by decide +kernel
theorem dx_L_law_1403 : decode (go_cc mx_L_law) 1403 = .ok (.iaload, 1) := by decide +kernel
theorem dx_L_law_1404 : decode (go_cc mx_L_law) 1404 = .ok (.invokevirtual 192, 3) := by decide +kernel
theorem dx_L_law_1407 : decode (go_cc mx_L_law) 1407 = .ok (.if_icmp .eq 131, 3) := by decide +kernel
theorem dx_L_law_1410 : decode (go_cc mx_L_law) 1410 = .ok (.iconst 0, 1) := by decide +kernel
theorem dx_L_law_1411 : decode (go_cc mx_L_law) 1411 = .ok (.ireturn, 1) := by decide +kernel
theorem dx_L_law_1412 : decode (go_cc mx_L_law) 1412 = .ok (.aload_n 1, 1) := by decide +kernel
theorem dx_L_law_1413 : decode (go_cc mx_L_law) 1413 = .ok (.aload_n 0, 1) := by decide +kernel
theorem dx_L_law_1414 : decode (go_cc mx_L_law) 1414 = .ok (.iload_n 3, 1) := by decide +kernel
theorem dx_L_law_1415 : decode (go_cc mx_L_law) 1415 = .ok (.iconst 1, 1) := by decide +kernel
theorem dx_L_law_1416 : decode (go_cc mx_L_law) 1416 = .ok (.iadd, 1) := by decide +kernel
theorem dx_L_law_1417 : decode (go_cc mx_L_law) 1417 = .ok (.iaload, 1) := by decide +kernel
theorem dx_L_law_1418 : decode (go_cc mx_L_law) 1418 = .ok (.aload_n 0, 1) := by decide +kernel
theorem dx_L_law_1419 : decode (go_cc mx_L_law) 1419 = .ok (.iload_n 3, 1) := by decide +kernel
theorem dx_L_law_1420 : decode (go_cc mx_L_law) 1420 = .ok (.iconst 2, 1) := by decide +kernel
theorem dx_L_law_1421 : decode (go_cc mx_L_law) 1421 = .ok (.iadd, 1) := by decide +kernel
theorem dx_L_law_1422 : decode (go_cc mx_L_law) 1422 = .ok (.iaload, 1) := by decide +kernel
theorem dx_L_law_1423 : decode (go_cc mx_L_law) 1423 = .ok (.invokevirtual 193, 3) := by decide +kernel
theorem dx_L_law_1426 : decode (go_cc mx_L_law) 1426 = .ok (.aload_n 2, 1) := by decide +kernel
theorem dx_L_law_1427 : decode (go_cc mx_L_law) 1427 = .ok (.aload_n 0, 1) := by decide +kernel
theorem dx_L_law_1428 : decode (go_cc mx_L_law) 1428 = .ok (.iload_n 3, 1) := by decide +kernel
theorem dx_L_law_1429 : decode (go_cc mx_L_law) 1429 = .ok (.iconst 1, 1) := by decide +kernel
theorem dx_L_law_1430 : decode (go_cc mx_L_law) 1430 = .ok (.iadd, 1) := by decide +kernel
theorem dx_L_law_1431 : decode (go_cc mx_L_law) 1431 = .ok (.iaload, 1) := by decide +kernel
theorem dx_L_law_1432 : decode (go_cc mx_L_law) 1432 = .ok (.aload_n 0, 1) := by decide +kernel
theorem dx_L_law_1433 : decode (go_cc mx_L_law) 1433 = .ok (.iload_n 3, 1) := by decide +kernel
theorem dx_L_law_1434 : decode (go_cc mx_L_law) 1434 = .ok (.iconst 2, 1) := by decide +kernel
theorem dx_L_law_1435 : decode (go_cc mx_L_law) 1435 = .ok (.iadd, 1) := by decide +kernel
theorem dx_L_law_1436 : decode (go_cc mx_L_law) 1436 = .ok (.iaload, 1) := by decide +kernel
theorem dx_L_law_1437 : decode (go_cc mx_L_law) 1437 = .ok (.invokevirtual 196, 3) := by decide +kernel
theorem dx_L_law_1440 : decode (go_cc mx_L_law) 1440 = .ok (.lcmp, 1) := by decide +kernel
theorem dx_L_law_1441 : decode (go_cc mx_L_law) 1441 = .ok (.ifCond .eq 97, 3) := by decide +kernel
theorem dx_L_law_1444 : decode (go_cc mx_L_law) 1444 = .ok (.iconst 0, 1) := by decide +kernel
theorem dx_L_law_1445 : decode (go_cc mx_L_law) 1445 = .ok (.ireturn, 1) := by decide +kernel
theorem dx_L_law_1446 : decode (go_cc mx_L_law) 1446 = .ok (.aload_n 1, 1) := by decide +kernel
theorem dx_L_law_1447 : decode (go_cc mx_L_law) 1447 = .ok (.aload_n 0, 1) := by decide +kernel
theorem dx_L_law_1448 : decode (go_cc mx_L_law) 1448 = .ok (.iload_n 3, 1) := by decide +kernel
theorem dx_L_law_1449 : decode (go_cc mx_L_law) 1449 = .ok (.iconst 1, 1) := by decide +kernel
theorem dx_L_law_1450 : decode (go_cc mx_L_law) 1450 = .ok (.iadd, 1) := by decide +kernel
theorem dx_L_law_1451 : decode (go_cc mx_L_law) 1451 = .ok (.iaload, 1) := by decide +kernel
theorem dx_L_law_1452 : decode (go_cc mx_L_law) 1452 = .ok (.invokevirtual 197, 3) := by decide +kernel
theorem dx_L_law_1455 : decode (go_cc mx_L_law) 1455 = .ok (.aload_n 2, 1) := by decide +kernel
theorem dx_L_law_1456 : decode (go_cc mx_L_law) 1456 = .ok (.aload_n 0, 1) := by decide +kernel
theorem dx_L_law_1457 : decode (go_cc mx_L_law) 1457 = .ok (.iload_n 3, 1) := by decide +kernel
theorem dx_L_law_1458 : decode (go_cc mx_L_law) 1458 = .ok (.iconst 1, 1) := by decide +kernel
theorem dx_L_law_1459 : decode (go_cc mx_L_law) 1459 = .ok (.iadd, 1) := by decide +kernel
theorem dx_L_law_1460 : decode (go_cc mx_L_law) 1460 = .ok (.iaload, 1) := by decide +kernel
theorem dx_L_law_1461 : decode (go_cc mx_L_law) 1461 = .ok (.invokevirtual 200, 3) := by decide +kernel
theorem dx_L_law_1464 : decode (go_cc mx_L_law) 1464 = .ok (.if_icmp .eq 74, 3) := by decide +kernel
theorem dx_L_law_1467 : decode (go_cc mx_L_law) 1467 = .ok (.iconst 0, 1) := by decide +kernel
theorem dx_L_law_1468 : decode (go_cc mx_L_law) 1468 = .ok (.ireturn, 1) := by decide +kernel
theorem dx_L_law_1469 : decode (go_cc mx_L_law) 1469 = .ok (.aload_n 1, 1) := by decide +kernel
theorem dx_L_law_1470 : decode (go_cc mx_L_law) 1470 = .ok (.aload_n 0, 1) := by decide +kernel
theorem dx_L_law_1471 : decode (go_cc mx_L_law) 1471 = .ok (.iload_n 3, 1) := by decide +kernel
theorem dx_L_law_1472 : decode (go_cc mx_L_law) 1472 = .ok (.iconst 1, 1) := by decide +kernel
theorem dx_L_law_1473 : decode (go_cc mx_L_law) 1473 = .ok (.iadd, 1) := by decide +kernel
theorem dx_L_law_1474 : decode (go_cc mx_L_law) 1474 = .ok (.iaload, 1) := by decide +kernel
theorem dx_L_law_1475 : decode (go_cc mx_L_law) 1475 = .ok (.invokevirtual 201, 3) := by decide +kernel
theorem dx_L_law_1478 : decode (go_cc mx_L_law) 1478 = .ok (.aload_n 2, 1) := by decide +kernel
theorem dx_L_law_1479 : decode (go_cc mx_L_law) 1479 = .ok (.aload_n 0, 1) := by decide +kernel
theorem dx_L_law_1480 : decode (go_cc mx_L_law) 1480 = .ok (.iload_n 3, 1) := by decide +kernel
theorem dx_L_law_1481 : decode (go_cc mx_L_law) 1481 = .ok (.iconst 1, 1) := by decide +kernel
theorem dx_L_law_1482 : decode (go_cc mx_L_law) 1482 = .ok (.iadd, 1) := by decide +kernel
theorem dx_L_law_1483 : decode (go_cc mx_L_law) 1483 = .ok (.iaload, 1) := by decide +kernel
theorem dx_L_law_1484 : decode (go_cc mx_L_law) 1484 = .ok (.invokevirtual 204, 3) := by decide +kernel
theorem dx_L_law_1487 : decode (go_cc mx_L_law) 1487 = .ok (.if_icmp .eq 51, 3) := by decide +kernel
theorem dx_L_law_1490 : decode (go_cc mx_L_law) 1490 = .ok (.iconst 0, 1) := by decide +kernel
theorem dx_L_law_1491 : decode (go_cc mx_L_law) 1491 = .ok (.ireturn, 1) := by decide +kernel
theorem dx_L_law_1492 : decode (go_cc mx_L_law) 1492 = .ok (.aload_n 1, 1) := by decide +kernel
theorem dx_L_law_1493 : decode (go_cc mx_L_law) 1493 = .ok (.aload_n 0, 1) := by decide +kernel
theorem dx_L_law_1494 : decode (go_cc mx_L_law) 1494 = .ok (.iload_n 3, 1) := by decide +kernel
theorem dx_L_law_1495 : decode (go_cc mx_L_law) 1495 = .ok (.iconst 1, 1) := by decide +kernel
theorem dx_L_law_1496 : decode (go_cc mx_L_law) 1496 = .ok (.iadd, 1) := by decide +kernel
theorem dx_L_law_1497 : decode (go_cc mx_L_law) 1497 = .ok (.iaload, 1) := by decide +kernel
theorem dx_L_law_1498 : decode (go_cc mx_L_law) 1498 = .ok (.invokevirtual 205, 3) := by decide +kernel
theorem dx_L_law_1501 : decode (go_cc mx_L_law) 1501 = .ok (.aload_n 2, 1) := by decide +kernel
theorem dx_L_law_1502 : decode (go_cc mx_L_law) 1502 = .ok (.aload_n 0, 1) := by decide +kernel
theorem dx_L_law_1503 : decode (go_cc mx_L_law) 1503 = .ok (.iload_n 3, 1) := by decide +kernel
theorem dx_L_law_1504 : decode (go_cc mx_L_law) 1504 = .ok (.iconst 1, 1) := by decide +kernel
theorem dx_L_law_1505 : decode (go_cc mx_L_law) 1505 = .ok (.iadd, 1) := by decide +kernel
theorem dx_L_law_1506 : decode (go_cc mx_L_law) 1506 = .ok (.iaload, 1) := by decide +kernel
theorem dx_L_law_1507 : decode (go_cc mx_L_law) 1507 = .ok (.invokevirtual 208, 3) := by decide +kernel
theorem dx_L_law_1510 : decode (go_cc mx_L_law) 1510 = .ok (.if_icmp .eq 28, 3) := by decide +kernel
theorem dx_L_law_1513 : decode (go_cc mx_L_law) 1513 = .ok (.iconst 0, 1) := by decide +kernel
theorem dx_L_law_1514 : decode (go_cc mx_L_law) 1514 = .ok (.ireturn, 1) := by decide +kernel
theorem dx_L_law_1515 : decode (go_cc mx_L_law) 1515 = .ok (.aload_n 1, 1) := by decide +kernel
theorem dx_L_law_1516 : decode (go_cc mx_L_law) 1516 = .ok (.aload_n 0, 1) := by decide +kernel
theorem dx_L_law_1517 : decode (go_cc mx_L_law) 1517 = .ok (.iload_n 3, 1) := by decide +kernel
theorem dx_L_law_1518 : decode (go_cc mx_L_law) 1518 = .ok (.iconst 1, 1) := by decide +kernel
theorem dx_L_law_1519 : decode (go_cc mx_L_law) 1519 = .ok (.iadd, 1) := by decide +kernel
theorem dx_L_law_1520 : decode (go_cc mx_L_law) 1520 = .ok (.iaload, 1) := by decide +kernel
theorem dx_L_law_1521 : decode (go_cc mx_L_law) 1521 = .ok (.invokevirtual 209, 3) := by decide +kernel
theorem dx_L_law_1524 : decode (go_cc mx_L_law) 1524 = .ok (.aload_n 2, 1) := by decide +kernel
theorem dx_L_law_1525 : decode (go_cc mx_L_law) 1525 = .ok (.aload_n 0, 1) := by decide +kernel
theorem dx_L_law_1526 : decode (go_cc mx_L_law) 1526 = .ok (.iload_n 3, 1) := by decide +kernel
theorem dx_L_law_1527 : decode (go_cc mx_L_law) 1527 = .ok (.iconst 1, 1) := by decide +kernel
theorem dx_L_law_1528 : decode (go_cc mx_L_law) 1528 = .ok (.iadd, 1) := by decide +kernel
theorem dx_L_law_1529 : decode (go_cc mx_L_law) 1529 = .ok (.iaload, 1) := by decide +kernel
theorem dx_L_law_1530 : decode (go_cc mx_L_law) 1530 = .ok (.invokevirtual 212, 3) := by decide +kernel
theorem dx_L_law_1533 : decode (go_cc mx_L_law) 1533 = .ok (.if_icmp .eq 5, 3) := by decide +kernel
theorem dx_L_law_1536 : decode (go_cc mx_L_law) 1536 = .ok (.iconst 0, 1) := by decide +kernel
theorem dx_L_law_1537 : decode (go_cc mx_L_law) 1537 = .ok (.ireturn, 1) := by decide +kernel
theorem dx_L_law_1538 : decode (go_cc mx_L_law) 1538 = .ok (.iinc 3 6, 3) := by decide +kernel
theorem dx_L_law_1541 : decode (go_cc mx_L_law) 1541 = .ok (.goto (-1523), 3) := by decide +kernel
theorem dx_L_law_1544 : decode (go_cc mx_L_law) 1544 = .ok (.iconst 1, 1) := by decide +kernel
theorem dx_L_law_1545 : decode (go_cc mx_L_law) 1545 = .ok (.ireturn, 1) := by decide +kernel
