/-! the law, case by case (by program: lawgen.py) -/
section GLCASE
variable {E : go_E} {d : Nat} {i : Nat} {δ : Nat → Nat → Int} {Q : List go_V → go_F → (Nat → Nat → Int) → Prop} {S : sS} {Tm : Int}
theorem lc_0 (hL : go_L E ≤ 3072) (hi : i + 6 ≤ go_L E) (hT : Tm < 2147483647) (h : xk_at Tm δ S) (hm : mx_at δ S) (K : ∀ δ' S', xk_at (Tm + 1) δ' S' → mx_at δ' S' → Go E (d + 20) lw_mm mx_L_law lw_φ 1538 (lvs i) [] δ' Q) : Go E (d + 20) lw_mm mx_L_law lw_φ 240 (lvs i) [] δ Q := by
  refine go_aload_n (i := 1) dx_L_law_240 rfl rfl ?_
  refine go_arg 1 dx_L_law_241 dx_L_law_242 dx_L_law_243 dx_L_law_244 dx_L_law_245 hL (by omega) ?_
  refine go_arg 2 dx_L_law_246 dx_L_law_247 dx_L_law_248 dx_L_law_249 dx_L_law_250 hL (by omega) ?_
  refine go_arg 3 dx_L_law_251 dx_L_law_252 dx_L_law_253 dx_L_law_254 dx_L_law_255 hL (by omega) ?_
  refine go_arg 4 dx_L_law_256 dx_L_law_257 dx_L_law_258 dx_L_law_259 dx_L_law_260 hL (by omega) ?_
  refine go_arg 5 dx_L_law_261 dx_L_law_262 dx_L_law_263 dx_L_law_264 dx_L_law_265 hL (by omega) ?_
  refine go_lV5 sv_L_13 ⟨rfl, (Nat.le_of_ble_eq_true rfl)⟩ dx_L_law_266 (Nat.le_of_ble_eq_true rfl) (Nat.le_of_ble_eq_true rfl) ?_
  refine x_feed  h hT (fun δ1 h1 f1 => ?_)
  refine go_aload_n (i := 2) dx_L_law_269 rfl rfl ?_
  refine go_arg 1 dx_L_law_270 dx_L_law_271 dx_L_law_272 dx_L_law_273 dx_L_law_274 hL (by omega) ?_
  refine go_arg 2 dx_L_law_275 dx_L_law_276 dx_L_law_277 dx_L_law_278 dx_L_law_279 hL (by omega) ?_
  refine go_arg 3 dx_L_law_280 dx_L_law_281 dx_L_law_282 dx_L_law_283 dx_L_law_284 hL (by omega) ?_
  refine go_arg 4 dx_L_law_285 dx_L_law_286 dx_L_law_287 dx_L_law_288 dx_L_law_289 hL (by omega) ?_
  refine go_arg 5 dx_L_law_290 dx_L_law_291 dx_L_law_292 dx_L_law_293 dx_L_law_294 hL (by omega) ?_
  refine go_lV5 sv_L_17 ⟨rfl, (Nat.le_of_ble_eq_true rfl)⟩ dx_L_law_295 (Nat.le_of_ble_eq_true rfl) (Nat.le_of_ble_eq_true rfl) ?_
  refine n_feed  (mx_fc hm f1) (fun δ2 h2 f2 => ?_)
  refine go_icmpS (tgt := 1538) dx_L_law_298 rfl ?_
  exact K δ2 _ (xk_fl h1 f2) h2
theorem lc_1 (hL : go_L E ≤ 3072) (hi : i + 6 ≤ go_L E) (hT : Tm < 2147483647) (h : xk_at Tm δ S) (hm : mx_at δ S) (K : ∀ δ' S', xk_at (Tm + 1) δ' S' → mx_at δ' S' → Go E (d + 20) lw_mm mx_L_law lw_φ 1538 (lvs i) [] δ' Q) : Go E (d + 20) lw_mm mx_L_law lw_φ 303 (lvs i) [] δ Q := by
  refine go_aload_n (i := 1) dx_L_law_303 rfl rfl ?_
  refine go_arg 1 dx_L_law_304 dx_L_law_305 dx_L_law_306 dx_L_law_307 dx_L_law_308 hL (by omega) ?_
  refine go_lV1 sv_L_18 ⟨rfl, (Nat.le_of_ble_eq_true rfl)⟩ dx_L_law_309 (Nat.le_of_ble_eq_true rfl) (Nat.le_of_ble_eq_true rfl) ?_
  refine x_rule (ax_iI E i 1) h hT (fun δ1 h1 f1 => ?_)
  refine go_aload_n (i := 2) dx_L_law_312 rfl rfl ?_
  refine go_arg 1 dx_L_law_313 dx_L_law_314 dx_L_law_315 dx_L_law_316 dx_L_law_317 hL (by omega) ?_
  refine go_lV1 sv_L_22 ⟨rfl, (Nat.le_of_ble_eq_true rfl)⟩ dx_L_law_318 (Nat.le_of_ble_eq_true rfl) (Nat.le_of_ble_eq_true rfl) ?_
  refine n_rule (ax_iI E i 1) (mx_fc hm f1) (fun δ2 h2 f2 => ?_)
  refine go_icmpS (tgt := 1538) dx_L_law_321 rfl ?_
  exact K δ2 _ (xk_fl h1 f2) h2
theorem lc_2 (hL : go_L E ≤ 3072) (hi : i + 6 ≤ go_L E) (hT : Tm < 2147483647) (h : xk_at Tm δ S) (hm : mx_at δ S) (K : ∀ δ' S', xk_at (Tm + 1) δ' S' → mx_at δ' S' → Go E (d + 20) lw_mm mx_L_law lw_φ 1538 (lvs i) [] δ' Q) : Go E (d + 20) lw_mm mx_L_law lw_φ 326 (lvs i) [] δ Q := by
  refine go_aload_n (i := 1) dx_L_law_326 rfl rfl ?_
  refine go_arg 1 dx_L_law_327 dx_L_law_328 dx_L_law_329 dx_L_law_330 dx_L_law_331 hL (by omega) ?_
  refine go_lV1 sv_L_23 ⟨rfl, (Nat.le_of_ble_eq_true rfl)⟩ dx_L_law_332 (Nat.le_of_ble_eq_true rfl) (Nat.le_of_ble_eq_true rfl) ?_
  refine x_word (ax_iI E i 1) h hT (fun δ1 h1 f1 => ?_)
  refine go_aload_n (i := 2) dx_L_law_335 rfl rfl ?_
  refine go_arg 1 dx_L_law_336 dx_L_law_337 dx_L_law_338 dx_L_law_339 dx_L_law_340 hL (by omega) ?_
  refine go_lV1 sv_L_26 ⟨rfl, (Nat.le_of_ble_eq_true rfl)⟩ dx_L_law_341 (Nat.le_of_ble_eq_true rfl) (Nat.le_of_ble_eq_true rfl) ?_
  refine n_word (ax_iI E i 1) (mx_fc hm f1) (fun δ2 h2 f2 => ?_)
  refine go_icmpS (tgt := 1538) dx_L_law_344 rfl ?_
  exact K δ2 _ (xk_fl h1 f2) h2
theorem lc_3 (hL : go_L E ≤ 3072) (hi : i + 6 ≤ go_L E) (hT : Tm < 2147483647) (h : xk_at Tm δ S) (hm : mx_at δ S) (K : ∀ δ' S', xk_at (Tm + 1) δ' S' → mx_at δ' S' → Go E (d + 20) lw_mm mx_L_law lw_φ 1538 (lvs i) [] δ' Q) : Go E (d + 20) lw_mm mx_L_law lw_φ 349 (lvs i) [] δ Q := by
  refine go_aload_n (i := 1) dx_L_law_349 rfl rfl ?_
  refine go_arg 1 dx_L_law_350 dx_L_law_351 dx_L_law_352 dx_L_law_353 dx_L_law_354 hL (by omega) ?_
  refine go_lV1 sv_L_27 ⟨rfl, (Nat.le_of_ble_eq_true rfl)⟩ dx_L_law_355 (Nat.le_of_ble_eq_true rfl) (Nat.le_of_ble_eq_true rfl) ?_
  refine x_fault (ax_iI E i 1) h (fun δ1 h1 f1 => ?_)
  refine go_aload_n (i := 2) dx_L_law_358 rfl rfl ?_
  refine go_arg 1 dx_L_law_359 dx_L_law_360 dx_L_law_361 dx_L_law_362 dx_L_law_363 hL (by omega) ?_
  refine go_lV1 sv_L_30 ⟨rfl, (Nat.le_of_ble_eq_true rfl)⟩ dx_L_law_364 (Nat.le_of_ble_eq_true rfl) (Nat.le_of_ble_eq_true rfl) ?_
  refine n_fault (ax_iI E i 1) (mx_fc hm f1) (fun δ2 h2 f2 => ?_)
  refine go_icmpS (tgt := 1538) dx_L_law_367 rfl ?_
  exact K δ2 _ (xk_fl (xk_mono h1 (by omega) (by omega)) f2) h2
theorem lc_4 (hL : go_L E ≤ 3072) (hi : i + 6 ≤ go_L E) (hT : Tm < 2147483647) (h : xk_at Tm δ S) (hm : mx_at δ S) (K : ∀ δ' S', xk_at (Tm + 1) δ' S' → mx_at δ' S' → Go E (d + 20) lw_mm mx_L_law lw_φ 1538 (lvs i) [] δ' Q) : Go E (d + 20) lw_mm mx_L_law lw_φ 372 (lvs i) [] δ Q := by
  refine go_aload_n (i := 1) dx_L_law_372 rfl rfl ?_
  refine go_arg 1 dx_L_law_373 dx_L_law_374 dx_L_law_375 dx_L_law_376 dx_L_law_377 hL (by omega) ?_
  refine go_lV1 sv_L_31 ⟨rfl, (Nat.le_of_ble_eq_true rfl)⟩ dx_L_law_378 (Nat.le_of_ble_eq_true rfl) (Nat.le_of_ble_eq_true rfl) ?_
  refine x_drop (ax_iI E i 1) h hT (fun δ1 h1 f1 => ?_)
  refine go_aload_n (i := 2) dx_L_law_381 rfl rfl ?_
  refine go_arg 1 dx_L_law_382 dx_L_law_383 dx_L_law_384 dx_L_law_385 dx_L_law_386 hL (by omega) ?_
  refine go_lV1 sv_L_34 ⟨rfl, (Nat.le_of_ble_eq_true rfl)⟩ dx_L_law_387 (Nat.le_of_ble_eq_true rfl) (Nat.le_of_ble_eq_true rfl) ?_
  refine n_drop (ax_iI E i 1) (mx_fc hm f1) (fun δ2 h2 f2 => ?_)
  refine go_icmpS (tgt := 1538) dx_L_law_390 rfl ?_
  exact K δ2 _ (xk_fl h1 f2) h2
theorem lc_5 (hL : go_L E ≤ 3072) (hi : i + 6 ≤ go_L E) (hT : Tm < 2147483647) (h : xk_at Tm δ S) (hm : mx_at δ S) (K : ∀ δ' S', xk_at (Tm + 1) δ' S' → mx_at δ' S' → Go E (d + 20) lw_mm mx_L_law lw_φ 1538 (lvs i) [] δ' Q) : Go E (d + 20) lw_mm mx_L_law lw_φ 395 (lvs i) [] δ Q := by
  refine go_aload_n (i := 1) dx_L_law_395 rfl rfl ?_
  refine go_arg 1 dx_L_law_396 dx_L_law_397 dx_L_law_398 dx_L_law_399 dx_L_law_400 hL (by omega) ?_
  refine go_lV1 sv_L_35 ⟨rfl, (Nat.le_of_ble_eq_true rfl)⟩ dx_L_law_401 (Nat.le_of_ble_eq_true rfl) (Nat.le_of_ble_eq_true rfl) ?_
  refine x_start (ax_iI E i 1) h hT (fun δ1 h1 f1 => ?_)
  refine go_aload_n (i := 2) dx_L_law_404 rfl rfl ?_
  refine go_arg 1 dx_L_law_405 dx_L_law_406 dx_L_law_407 dx_L_law_408 dx_L_law_409 hL (by omega) ?_
  refine go_lV1 sv_L_38 ⟨rfl, (Nat.le_of_ble_eq_true rfl)⟩ dx_L_law_410 (Nat.le_of_ble_eq_true rfl) (Nat.le_of_ble_eq_true rfl) ?_
  refine n_start (ax_iI E i 1) (mx_fc hm f1) (fun δ2 h2 f2 => ?_)
  refine go_icmpS (tgt := 1538) dx_L_law_413 rfl ?_
  exact K δ2 _ (xk_fl h1 f2) h2
theorem lc_6 (hL : go_L E ≤ 3072) (hi : i + 6 ≤ go_L E) (hT : Tm < 2147483647) (h : xk_at Tm δ S) (hm : mx_at δ S) (K : ∀ δ' S', xk_at (Tm + 1) δ' S' → mx_at δ' S' → Go E (d + 20) lw_mm mx_L_law lw_φ 1538 (lvs i) [] δ' Q) : Go E (d + 20) lw_mm mx_L_law lw_φ 418 (lvs i) [] δ Q := by
  refine go_aload_n (i := 1) dx_L_law_418 rfl rfl ?_
  refine go_arg 1 dx_L_law_419 dx_L_law_420 dx_L_law_421 dx_L_law_422 dx_L_law_423 hL (by omega) ?_
  refine go_arg 2 dx_L_law_424 dx_L_law_425 dx_L_law_426 dx_L_law_427 dx_L_law_428 hL (by omega) ?_
  refine go_lV2 sv_L_39 ⟨rfl, (Nat.le_of_ble_eq_true rfl)⟩ dx_L_law_429 (Nat.le_of_ble_eq_true rfl) (Nat.le_of_ble_eq_true rfl) ?_
  refine x_part (ax_iI E i 1) (ax_iI E i 2) h (fun δ1 h1 f1 => ?_)
  refine go_aload_n (i := 2) dx_L_law_432 rfl rfl ?_
  refine go_arg 1 dx_L_law_433 dx_L_law_434 dx_L_law_435 dx_L_law_436 dx_L_law_437 hL (by omega) ?_
  refine go_arg 2 dx_L_law_438 dx_L_law_439 dx_L_law_440 dx_L_law_441 dx_L_law_442 hL (by omega) ?_
  refine go_lV2 sv_L_43 ⟨rfl, (Nat.le_of_ble_eq_true rfl)⟩ dx_L_law_443 (Nat.le_of_ble_eq_true rfl) (Nat.le_of_ble_eq_true rfl) ?_
  refine n_part (ax_iI E i 1) (ax_iI E i 2) (mx_fc hm f1) (fun δ2 h2 f2 => ?_)
  refine go_icmpS (tgt := 1538) dx_L_law_446 rfl ?_
  exact K δ2 _ (xk_fl (xk_mono h1 (by omega) (by omega)) f2) h2
theorem lc_7 (hL : go_L E ≤ 3072) (hi : i + 6 ≤ go_L E) (hT : Tm < 2147483647) (h : xk_at Tm δ S) (hm : mx_at δ S) (K : ∀ δ' S', xk_at (Tm + 1) δ' S' → mx_at δ' S' → Go E (d + 20) lw_mm mx_L_law lw_φ 1538 (lvs i) [] δ' Q) : Go E (d + 20) lw_mm mx_L_law lw_φ 451 (lvs i) [] δ Q := by
  refine go_aload_n (i := 1) dx_L_law_451 rfl rfl ?_
  refine go_lV0 sv_L_44 ⟨rfl, (Nat.le_of_ble_eq_true rfl)⟩ dx_L_law_452 (Nat.le_of_ble_eq_true rfl) (Nat.le_of_ble_eq_true rfl) ?_
  refine x_pairs  h (fun δ1 h1 f1 => ?_)
  refine go_aload_n (i := 2) dx_L_law_455 rfl rfl ?_
  refine go_lV0 sv_L_48 ⟨rfl, (Nat.le_of_ble_eq_true rfl)⟩ dx_L_law_456 (Nat.le_of_ble_eq_true rfl) (Nat.le_of_ble_eq_true rfl) ?_
  refine m_pairs  (mx_fc hm f1) (fun δ2 h2 f2 => ?_)
  refine go_icmpS (tgt := 1538) dx_L_law_459 rfl ?_
  exact K δ2 _ (xk_fl (xk_mono h1 (by omega) (by omega)) f2) h2
theorem lc_8 (hL : go_L E ≤ 3072) (hi : i + 6 ≤ go_L E) (hT : Tm < 2147483647) (h : xk_at Tm δ S) (hm : mx_at δ S) (K : ∀ δ' S', xk_at (Tm + 1) δ' S' → mx_at δ' S' → Go E (d + 20) lw_mm mx_L_law lw_φ 1538 (lvs i) [] δ' Q) : Go E (d + 20) lw_mm mx_L_law lw_φ 464 (lvs i) [] δ Q := by
  refine go_aload_n (i := 1) dx_L_law_464 rfl rfl ?_
  refine go_arg 1 dx_L_law_465 dx_L_law_466 dx_L_law_467 dx_L_law_468 dx_L_law_469 hL (by omega) ?_
  refine go_arg 2 dx_L_law_470 dx_L_law_471 dx_L_law_472 dx_L_law_473 dx_L_law_474 hL (by omega) ?_
  refine go_lV2 sv_L_49 ⟨rfl, (Nat.le_of_ble_eq_true rfl)⟩ dx_L_law_475 (Nat.le_of_ble_eq_true rfl) (Nat.le_of_ble_eq_true rfl) ?_
  refine x_pair (ax_iI E i 1) (ax_iI E i 2) h (fun δ1 h1 f1 => ?_)
  refine go_aload_n (i := 2) dx_L_law_478 rfl rfl ?_
  refine go_arg 1 dx_L_law_479 dx_L_law_480 dx_L_law_481 dx_L_law_482 dx_L_law_483 hL (by omega) ?_
  refine go_arg 2 dx_L_law_484 dx_L_law_485 dx_L_law_486 dx_L_law_487 dx_L_law_488 hL (by omega) ?_
  refine go_lV2 sv_L_52 ⟨rfl, (Nat.le_of_ble_eq_true rfl)⟩ dx_L_law_489 (Nat.le_of_ble_eq_true rfl) (Nat.le_of_ble_eq_true rfl) ?_
  refine m_pair (ax_iI E i 1) (ax_iI E i 2) (mx_fc hm f1) (fun δ2 h2 f2 => ?_)
  refine go_icmpS (tgt := 1538) dx_L_law_492 rfl ?_
  exact K δ2 _ (xk_fl (xk_mono h1 (by omega) (by omega)) f2) h2
theorem lc_9 (hL : go_L E ≤ 3072) (hi : i + 6 ≤ go_L E) (hT : Tm < 2147483647) (h : xk_at Tm δ S) (hm : mx_at δ S) (K : ∀ δ' S', xk_at (Tm + 1) δ' S' → mx_at δ' S' → Go E (d + 20) lw_mm mx_L_law lw_φ 1538 (lvs i) [] δ' Q) : Go E (d + 20) lw_mm mx_L_law lw_φ 497 (lvs i) [] δ Q := by
  refine go_aload_n (i := 1) dx_L_law_497 rfl rfl ?_
  refine go_arg 1 dx_L_law_498 dx_L_law_499 dx_L_law_500 dx_L_law_501 dx_L_law_502 hL (by omega) ?_
  refine go_arg 2 dx_L_law_503 dx_L_law_504 dx_L_law_505 dx_L_law_506 dx_L_law_507 hL (by omega) ?_
  refine go_lV2 sv_L_53 ⟨rfl, (Nat.le_of_ble_eq_true rfl)⟩ dx_L_law_508 (Nat.le_of_ble_eq_true rfl) (Nat.le_of_ble_eq_true rfl) ?_
  refine x_back (ax_iI E i 1) (ax_iI E i 2) h (fun δ1 h1 f1 => ?_)
  refine go_aload_n (i := 2) dx_L_law_511 rfl rfl ?_
  refine go_arg 1 dx_L_law_512 dx_L_law_513 dx_L_law_514 dx_L_law_515 dx_L_law_516 hL (by omega) ?_
  refine go_arg 2 dx_L_law_517 dx_L_law_518 dx_L_law_519 dx_L_law_520 dx_L_law_521 hL (by omega) ?_
  refine go_lV2 sv_L_56 ⟨rfl, (Nat.le_of_ble_eq_true rfl)⟩ dx_L_law_522 (Nat.le_of_ble_eq_true rfl) (Nat.le_of_ble_eq_true rfl) ?_
  refine m_back (ax_iI E i 1) (ax_iI E i 2) (mx_fc hm f1) (fun δ2 h2 f2 => ?_)
  refine go_icmpS (tgt := 1538) dx_L_law_525 rfl ?_
  exact K δ2 _ (xk_fl (xk_mono h1 (by omega) (by omega)) f2) h2
theorem lc_10 (hL : go_L E ≤ 3072) (hi : i + 6 ≤ go_L E) (hT : Tm < 2147483647) (h : xk_at Tm δ S) (hm : mx_at δ S) (K : ∀ δ' S', xk_at (Tm + 1) δ' S' → mx_at δ' S' → Go E (d + 20) lw_mm mx_L_law lw_φ 1538 (lvs i) [] δ' Q) : Go E (d + 20) lw_mm mx_L_law lw_φ 530 (lvs i) [] δ Q := by
  refine go_aload_n (i := 1) dx_L_law_530 rfl rfl ?_
  refine go_arg 1 dx_L_law_531 dx_L_law_532 dx_L_law_533 dx_L_law_534 dx_L_law_535 hL (by omega) ?_
  refine go_lV1 sv_L_57 ⟨rfl, (Nat.le_of_ble_eq_true rfl)⟩ dx_L_law_536 (Nat.le_of_ble_eq_true rfl) (Nat.le_of_ble_eq_true rfl) ?_
  refine x_units (ax_iI E i 1) h (fun δ1 h1 f1 => ?_)
  refine go_aload_n (i := 2) dx_L_law_539 rfl rfl ?_
  refine go_arg 1 dx_L_law_540 dx_L_law_541 dx_L_law_542 dx_L_law_543 dx_L_law_544 hL (by omega) ?_
  refine go_lV1 sv_L_60 ⟨rfl, (Nat.le_of_ble_eq_true rfl)⟩ dx_L_law_545 (Nat.le_of_ble_eq_true rfl) (Nat.le_of_ble_eq_true rfl) ?_
  refine m_units (ax_iI E i 1) (mx_fc hm f1) (fun δ2 h2 f2 => ?_)
  refine go_icmpS (tgt := 1538) dx_L_law_548 rfl ?_
  exact K δ2 _ (xk_fl (xk_mono h1 (by omega) (by omega)) f2) h2
theorem lc_11 (hL : go_L E ≤ 3072) (hi : i + 6 ≤ go_L E) (hT : Tm < 2147483647) (h : xk_at Tm δ S) (hm : mx_at δ S) (K : ∀ δ' S', xk_at (Tm + 1) δ' S' → mx_at δ' S' → Go E (d + 20) lw_mm mx_L_law lw_φ 1538 (lvs i) [] δ' Q) : Go E (d + 20) lw_mm mx_L_law lw_φ 553 (lvs i) [] δ Q := by
  refine go_aload_n (i := 1) dx_L_law_553 rfl rfl ?_
  refine go_lV0 sv_L_61 ⟨rfl, (Nat.le_of_ble_eq_true rfl)⟩ dx_L_law_554 (Nat.le_of_ble_eq_true rfl) (Nat.le_of_ble_eq_true rfl) ?_
  refine x_rounds  h (fun δ1 h1 f1 => ?_)
  refine go_aload_n (i := 2) dx_L_law_557 rfl rfl ?_
  refine go_lV0 sv_L_64 ⟨rfl, (Nat.le_of_ble_eq_true rfl)⟩ dx_L_law_558 (Nat.le_of_ble_eq_true rfl) (Nat.le_of_ble_eq_true rfl) ?_
  refine m_rounds  (mx_fc hm f1) (fun δ2 h2 f2 => ?_)
  refine go_icmpS (tgt := 1538) dx_L_law_561 rfl ?_
  exact K δ2 _ (xk_fl (xk_mono h1 (by omega) (by omega)) f2) h2
theorem lc_12 (hL : go_L E ≤ 3072) (hi : i + 6 ≤ go_L E) (hT : Tm < 2147483647) (h : xk_at Tm δ S) (hm : mx_at δ S) (K : ∀ δ' S', xk_at (Tm + 1) δ' S' → mx_at δ' S' → Go E (d + 20) lw_mm mx_L_law lw_φ 1538 (lvs i) [] δ' Q) : Go E (d + 20) lw_mm mx_L_law lw_φ 566 (lvs i) [] δ Q := by
  refine go_aload_n (i := 1) dx_L_law_566 rfl rfl ?_
  refine go_arg 1 dx_L_law_567 dx_L_law_568 dx_L_law_569 dx_L_law_570 dx_L_law_571 hL (by omega) ?_
  refine go_lV1 sv_L_65 ⟨rfl, (Nat.le_of_ble_eq_true rfl)⟩ dx_L_law_572 (Nat.le_of_ble_eq_true rfl) (Nat.le_of_ble_eq_true rfl) ?_
  refine x_least (ax_iI E i 1) h (fun δ1 h1 f1 => ?_)
  refine go_aload_n (i := 2) dx_L_law_575 rfl rfl ?_
  refine go_arg 1 dx_L_law_576 dx_L_law_577 dx_L_law_578 dx_L_law_579 dx_L_law_580 hL (by omega) ?_
  refine go_lV1 sv_L_68 ⟨rfl, (Nat.le_of_ble_eq_true rfl)⟩ dx_L_law_581 (Nat.le_of_ble_eq_true rfl) (Nat.le_of_ble_eq_true rfl) ?_
  refine m_least (ax_iI E i 1) (mx_fc hm f1) (fun δ2 h2 f2 => ?_)
  refine go_icmpS (tgt := 1538) dx_L_law_584 rfl ?_
  exact K δ2 _ (xk_fl (xk_mono h1 (by omega) (by omega)) f2) h2
theorem lc_13 (hL : go_L E ≤ 3072) (hi : i + 6 ≤ go_L E) (hT : Tm < 2147483647) (h : xk_at Tm δ S) (hm : mx_at δ S) (K : ∀ δ' S', xk_at (Tm + 1) δ' S' → mx_at δ' S' → Go E (d + 20) lw_mm mx_L_law lw_φ 1538 (lvs i) [] δ' Q) : Go E (d + 20) lw_mm mx_L_law lw_φ 589 (lvs i) [] δ Q := by
  refine go_aload_n (i := 1) dx_L_law_589 rfl rfl ?_
  refine go_arg 1 dx_L_law_590 dx_L_law_591 dx_L_law_592 dx_L_law_593 dx_L_law_594 hL (by omega) ?_
  refine go_lV1 sv_L_69 ⟨rfl, (Nat.le_of_ble_eq_true rfl)⟩ dx_L_law_595 (Nat.le_of_ble_eq_true rfl) (Nat.le_of_ble_eq_true rfl) ?_
  refine x_reached (ax_iI E i 1) h (fun δ1 h1 f1 => ?_)
  refine go_aload_n (i := 2) dx_L_law_598 rfl rfl ?_
  refine go_arg 1 dx_L_law_599 dx_L_law_600 dx_L_law_601 dx_L_law_602 dx_L_law_603 hL (by omega) ?_
  refine go_lV1 sv_L_72 ⟨rfl, (Nat.le_of_ble_eq_true rfl)⟩ dx_L_law_604 (Nat.le_of_ble_eq_true rfl) (Nat.le_of_ble_eq_true rfl) ?_
  refine m_reached (ax_iI E i 1) (mx_fc hm f1) (fun δ2 h2 f2 => ?_)
  refine go_icmpS (tgt := 1538) dx_L_law_607 rfl ?_
  exact K δ2 _ (xk_fl (xk_mono h1 (by omega) (by omega)) f2) h2
theorem lc_14 (hL : go_L E ≤ 3072) (hi : i + 6 ≤ go_L E) (hT : Tm < 2147483647) (h : xk_at Tm δ S) (hm : mx_at δ S) (K : ∀ δ' S', xk_at (Tm + 1) δ' S' → mx_at δ' S' → Go E (d + 20) lw_mm mx_L_law lw_φ 1538 (lvs i) [] δ' Q) : Go E (d + 20) lw_mm mx_L_law lw_φ 612 (lvs i) [] δ Q := by
  refine go_aload_n (i := 1) dx_L_law_612 rfl rfl ?_
  refine go_arg 1 dx_L_law_613 dx_L_law_614 dx_L_law_615 dx_L_law_616 dx_L_law_617 hL (by omega) ?_
  refine go_arg 2 dx_L_law_618 dx_L_law_619 dx_L_law_620 dx_L_law_621 dx_L_law_622 hL (by omega) ?_
  refine go_lV2 sv_L_73 ⟨rfl, (Nat.le_of_ble_eq_true rfl)⟩ dx_L_law_623 (Nat.le_of_ble_eq_true rfl) (Nat.le_of_ble_eq_true rfl) ?_
  refine x_cell (ax_iI E i 1) (ax_iI E i 2) h (fun δ1 h1 f1 => ?_)
  refine go_aload_n (i := 2) dx_L_law_626 rfl rfl ?_
  refine go_arg 1 dx_L_law_627 dx_L_law_628 dx_L_law_629 dx_L_law_630 dx_L_law_631 hL (by omega) ?_
  refine go_arg 2 dx_L_law_632 dx_L_law_633 dx_L_law_634 dx_L_law_635 dx_L_law_636 hL (by omega) ?_
  refine go_lV2 sv_L_77 ⟨rfl, (Nat.le_of_ble_eq_true rfl)⟩ dx_L_law_637 (Nat.le_of_ble_eq_true rfl) (Nat.le_of_ble_eq_true rfl) ?_
  refine m_cell (ax_iI E i 1) (ax_iI E i 2) (mx_fc hm f1) (fun δ2 h2 f2 => ?_)
  refine go_lcmpS (tgt := 1538) dx_L_law_640 dx_L_law_641 rfl ?_
  exact K δ2 _ (xk_fl (xk_mono h1 (by omega) (by omega)) f2) h2
theorem lc_15 (hL : go_L E ≤ 3072) (hi : i + 6 ≤ go_L E) (hT : Tm < 2147483647) (h : xk_at Tm δ S) (hm : mx_at δ S) (K : ∀ δ' S', xk_at (Tm + 1) δ' S' → mx_at δ' S' → Go E (d + 20) lw_mm mx_L_law lw_φ 1538 (lvs i) [] δ' Q) : Go E (d + 20) lw_mm mx_L_law lw_φ 646 (lvs i) [] δ Q := by
  refine go_aload_n (i := 1) dx_L_law_646 rfl rfl ?_
  refine go_lV0 sv_L_78 ⟨rfl, (Nat.le_of_ble_eq_true rfl)⟩ dx_L_law_647 (Nat.le_of_ble_eq_true rfl) (Nat.le_of_ble_eq_true rfl) ?_
  refine x_accepted  h (fun δ1 h1 f1 => ?_)
  refine go_aload_n (i := 2) dx_L_law_650 rfl rfl ?_
  refine go_lV0 sv_L_81 ⟨rfl, (Nat.le_of_ble_eq_true rfl)⟩ dx_L_law_651 (Nat.le_of_ble_eq_true rfl) (Nat.le_of_ble_eq_true rfl) ?_
  refine m_accepted  (mx_fc hm f1) (fun δ2 h2 f2 => ?_)
  refine go_icmpS (tgt := 1538) dx_L_law_654 rfl ?_
  exact K δ2 _ (xk_fl (xk_mono h1 (by omega) (by omega)) f2) h2
theorem lc_16 (hL : go_L E ≤ 3072) (hi : i + 6 ≤ go_L E) (hT : Tm < 2147483647) (h : xk_at Tm δ S) (hm : mx_at δ S) (K : ∀ δ' S', xk_at (Tm + 1) δ' S' → mx_at δ' S' → Go E (d + 20) lw_mm mx_L_law lw_φ 1538 (lvs i) [] δ' Q) : Go E (d + 20) lw_mm mx_L_law lw_φ 659 (lvs i) [] δ Q := by
  refine go_aload_n (i := 1) dx_L_law_659 rfl rfl ?_
  refine go_arg 1 dx_L_law_660 dx_L_law_661 dx_L_law_662 dx_L_law_663 dx_L_law_664 hL (by omega) ?_
  refine go_arg 2 dx_L_law_665 dx_L_law_666 dx_L_law_667 dx_L_law_668 dx_L_law_669 hL (by omega) ?_
  refine go_arg 3 dx_L_law_670 dx_L_law_671 dx_L_law_672 dx_L_law_673 dx_L_law_674 hL (by omega) ?_
  refine go_lV3 sv_L_82 ⟨rfl, (Nat.le_of_ble_eq_true rfl)⟩ dx_L_law_675 (Nat.le_of_ble_eq_true rfl) (Nat.le_of_ble_eq_true rfl) ?_
  refine x_round (ax_iI E i 1) (ax_iI E i 2) (ax_iI E i 3) h (fun δ1 h1 f1 => ?_)
  refine go_aload_n (i := 2) dx_L_law_678 rfl rfl ?_
  refine go_arg 1 dx_L_law_679 dx_L_law_680 dx_L_law_681 dx_L_law_682 dx_L_law_683 hL (by omega) ?_
  refine go_arg 2 dx_L_law_684 dx_L_law_685 dx_L_law_686 dx_L_law_687 dx_L_law_688 hL (by omega) ?_
  refine go_arg 3 dx_L_law_689 dx_L_law_690 dx_L_law_691 dx_L_law_692 dx_L_law_693 hL (by omega) ?_
  refine go_lV3 sv_L_86 ⟨rfl, (Nat.le_of_ble_eq_true rfl)⟩ dx_L_law_694 (Nat.le_of_ble_eq_true rfl) (Nat.le_of_ble_eq_true rfl) ?_
  refine m_round (ax_iI E i 1) (ax_iI E i 2) (ax_iI E i 3) (mx_fc hm f1) (fun δ2 h2 f2 => ?_)
  refine go_icmpS (tgt := 1538) dx_L_law_697 rfl ?_
  exact K δ2 _ (xk_fl (xk_mono h1 (by omega) (by omega)) f2) h2
theorem lc_17 (hL : go_L E ≤ 3072) (hi : i + 6 ≤ go_L E) (hT : Tm < 2147483647) (h : xk_at Tm δ S) (hm : mx_at δ S) (K : ∀ δ' S', xk_at (Tm + 1) δ' S' → mx_at δ' S' → Go E (d + 20) lw_mm mx_L_law lw_φ 1538 (lvs i) [] δ' Q) : Go E (d + 20) lw_mm mx_L_law lw_φ 702 (lvs i) [] δ Q := by
  refine go_aload_n (i := 1) dx_L_law_702 rfl rfl ?_
  refine go_lV0 sv_L_87 ⟨rfl, (Nat.le_of_ble_eq_true rfl)⟩ dx_L_law_703 (Nat.le_of_ble_eq_true rfl) (Nat.le_of_ble_eq_true rfl) ?_
  refine x_last  h (fun δ1 h1 f1 => ?_)
  refine go_aload_n (i := 2) dx_L_law_706 rfl rfl ?_
  refine go_lV0 sv_L_90 ⟨rfl, (Nat.le_of_ble_eq_true rfl)⟩ dx_L_law_707 (Nat.le_of_ble_eq_true rfl) (Nat.le_of_ble_eq_true rfl) ?_
  refine m_last  (mx_fc hm f1) (fun δ2 h2 f2 => ?_)
  refine go_icmpS (tgt := 1538) dx_L_law_710 rfl ?_
  exact K δ2 _ (xk_fl (xk_mono h1 (by omega) (by omega)) f2) h2
theorem lc_18 (hL : go_L E ≤ 3072) (hi : i + 6 ≤ go_L E) (hT : Tm < 2147483647) (h : xk_at Tm δ S) (hm : mx_at δ S) (K : ∀ δ' S', xk_at (Tm + 1) δ' S' → mx_at δ' S' → Go E (d + 20) lw_mm mx_L_law lw_φ 1538 (lvs i) [] δ' Q) : Go E (d + 20) lw_mm mx_L_law lw_φ 715 (lvs i) [] δ Q := by
  refine go_aload_n (i := 1) dx_L_law_715 rfl rfl ?_
  refine go_arg 1 dx_L_law_716 dx_L_law_717 dx_L_law_718 dx_L_law_719 dx_L_law_720 hL (by omega) ?_
  refine go_arg 2 dx_L_law_721 dx_L_law_722 dx_L_law_723 dx_L_law_724 dx_L_law_725 hL (by omega) ?_
  refine go_arg 3 dx_L_law_726 dx_L_law_727 dx_L_law_728 dx_L_law_729 dx_L_law_730 hL (by omega) ?_
  refine go_lV3 sv_L_91 ⟨rfl, (Nat.le_of_ble_eq_true rfl)⟩ dx_L_law_731 (Nat.le_of_ble_eq_true rfl) (Nat.le_of_ble_eq_true rfl) ?_
  refine x_product (ax_iI E i 1) (ax_iI E i 2) (ax_iI E i 3) h (fun δ1 h1 f1 => ?_)
  refine go_aload_n (i := 2) dx_L_law_734 rfl rfl ?_
  refine go_arg 1 dx_L_law_735 dx_L_law_736 dx_L_law_737 dx_L_law_738 dx_L_law_739 hL (by omega) ?_
  refine go_arg 2 dx_L_law_740 dx_L_law_741 dx_L_law_742 dx_L_law_743 dx_L_law_744 hL (by omega) ?_
  refine go_arg 3 dx_L_law_745 dx_L_law_746 dx_L_law_747 dx_L_law_748 dx_L_law_749 hL (by omega) ?_
  refine go_lV3 sv_L_94 ⟨rfl, (Nat.le_of_ble_eq_true rfl)⟩ dx_L_law_750 (Nat.le_of_ble_eq_true rfl) (Nat.le_of_ble_eq_true rfl) ?_
  refine m_product (ax_iI E i 1) (ax_iI E i 2) (ax_iI E i 3) (mx_fc hm f1) (fun δ2 h2 f2 => ?_)
  refine go_icmpS (tgt := 1538) dx_L_law_753 rfl ?_
  exact K δ2 _ (xk_fl (xk_mono h1 (by omega) (by omega)) f2) h2
theorem lc_19 (hL : go_L E ≤ 3072) (hi : i + 6 ≤ go_L E) (hT : Tm < 2147483647) (h : xk_at Tm δ S) (hm : mx_at δ S) (K : ∀ δ' S', xk_at (Tm + 1) δ' S' → mx_at δ' S' → Go E (d + 20) lw_mm mx_L_law lw_φ 1538 (lvs i) [] δ' Q) : Go E (d + 20) lw_mm mx_L_law lw_φ 758 (lvs i) [] δ Q := by
  refine go_aload_n (i := 1) dx_L_law_758 rfl rfl ?_
  refine go_arg 1 dx_L_law_759 dx_L_law_760 dx_L_law_761 dx_L_law_762 dx_L_law_763 hL (by omega) ?_
  refine go_arg 2 dx_L_law_764 dx_L_law_765 dx_L_law_766 dx_L_law_767 dx_L_law_768 hL (by omega) ?_
  refine go_arg 3 dx_L_law_769 dx_L_law_770 dx_L_law_771 dx_L_law_772 dx_L_law_773 hL (by omega) ?_
  refine go_arg 4 dx_L_law_774 dx_L_law_775 dx_L_law_776 dx_L_law_777 dx_L_law_778 hL (by omega) ?_
  refine go_lV4 sv_L_95 ⟨rfl, (Nat.le_of_ble_eq_true rfl)⟩ dx_L_law_779 (Nat.le_of_ble_eq_true rfl) (Nat.le_of_ble_eq_true rfl) ?_
  refine x_cuts (ax_iI E i 1) (ax_iI E i 2) (ax_iI E i 3) (ax_iI E i 4) h (fun δ1 h1 f1 => ?_)
  refine go_aload_n (i := 2) dx_L_law_782 rfl rfl ?_
  refine go_arg 1 dx_L_law_783 dx_L_law_784 dx_L_law_785 dx_L_law_786 dx_L_law_787 hL (by omega) ?_
  refine go_arg 2 dx_L_law_788 dx_L_law_789 dx_L_law_790 dx_L_law_791 dx_L_law_792 hL (by omega) ?_
  refine go_arg 3 dx_L_law_793 dx_L_law_794 dx_L_law_795 dx_L_law_796 dx_L_law_797 hL (by omega) ?_
  refine go_arg 4 dx_L_law_798 dx_L_law_799 dx_L_law_800 dx_L_law_801 dx_L_law_802 hL (by omega) ?_
  refine go_lV4 sv_L_99 ⟨rfl, (Nat.le_of_ble_eq_true rfl)⟩ dx_L_law_803 (Nat.le_of_ble_eq_true rfl) (Nat.le_of_ble_eq_true rfl) ?_
  refine m_cuts (ax_iI E i 1) (ax_iI E i 2) (ax_iI E i 3) (ax_iI E i 4) (mx_fc hm f1) (fun δ2 h2 f2 => ?_)
  refine go_icmpS (tgt := 1538) dx_L_law_806 rfl ?_
  exact K δ2 _ (xk_fl (xk_mono h1 (by omega) (by omega)) f2) h2
theorem lc_20 (hL : go_L E ≤ 3072) (hi : i + 6 ≤ go_L E) (hT : Tm < 2147483647) (h : xk_at Tm δ S) (hm : mx_at δ S) (K : ∀ δ' S', xk_at (Tm + 1) δ' S' → mx_at δ' S' → Go E (d + 20) lw_mm mx_L_law lw_φ 1538 (lvs i) [] δ' Q) : Go E (d + 20) lw_mm mx_L_law lw_φ 811 (lvs i) [] δ Q := by
  refine go_aload_n (i := 1) dx_L_law_811 rfl rfl ?_
  refine go_arg 1 dx_L_law_812 dx_L_law_813 dx_L_law_814 dx_L_law_815 dx_L_law_816 hL (by omega) ?_
  refine go_arg 2 dx_L_law_817 dx_L_law_818 dx_L_law_819 dx_L_law_820 dx_L_law_821 hL (by omega) ?_
  refine go_lV2 sv_L_100 ⟨rfl, (Nat.le_of_ble_eq_true rfl)⟩ dx_L_law_822 (Nat.le_of_ble_eq_true rfl) (Nat.le_of_ble_eq_true rfl) ?_
  refine x_row (ax_iI E i 1) (ax_iI E i 2) h (fun δ1 h1 f1 => ?_)
  refine go_aload_n (i := 2) dx_L_law_825 rfl rfl ?_
  refine go_arg 1 dx_L_law_826 dx_L_law_827 dx_L_law_828 dx_L_law_829 dx_L_law_830 hL (by omega) ?_
  refine go_arg 2 dx_L_law_831 dx_L_law_832 dx_L_law_833 dx_L_law_834 dx_L_law_835 hL (by omega) ?_
  refine go_lV2 sv_L_103 ⟨rfl, (Nat.le_of_ble_eq_true rfl)⟩ dx_L_law_836 (Nat.le_of_ble_eq_true rfl) (Nat.le_of_ble_eq_true rfl) ?_
  refine m_row (ax_iI E i 1) (ax_iI E i 2) (mx_fc hm f1) (fun δ2 h2 f2 => ?_)
  refine go_icmpS (tgt := 1538) dx_L_law_839 rfl ?_
  exact K δ2 _ (xk_fl (xk_mono h1 (by omega) (by omega)) f2) h2
theorem lc_21 (hL : go_L E ≤ 3072) (hi : i + 6 ≤ go_L E) (hT : Tm < 2147483647) (h : xk_at Tm δ S) (hm : mx_at δ S) (K : ∀ δ' S', xk_at (Tm + 1) δ' S' → mx_at δ' S' → Go E (d + 20) lw_mm mx_L_law lw_φ 1538 (lvs i) [] δ' Q) : Go E (d + 20) lw_mm mx_L_law lw_φ 844 (lvs i) [] δ Q := by
  refine go_aload_n (i := 1) dx_L_law_844 rfl rfl ?_
  refine go_arg 1 dx_L_law_845 dx_L_law_846 dx_L_law_847 dx_L_law_848 dx_L_law_849 hL (by omega) ?_
  refine go_arg 2 dx_L_law_850 dx_L_law_851 dx_L_law_852 dx_L_law_853 dx_L_law_854 hL (by omega) ?_
  refine go_lV2 sv_L_104 ⟨rfl, (Nat.le_of_ble_eq_true rfl)⟩ dx_L_law_855 (Nat.le_of_ble_eq_true rfl) (Nat.le_of_ble_eq_true rfl) ?_
  refine x_spans (ax_iI E i 1) (ax_iI E i 2) h (fun δ1 h1 f1 => ?_)
  refine go_aload_n (i := 2) dx_L_law_858 rfl rfl ?_
  refine go_arg 1 dx_L_law_859 dx_L_law_860 dx_L_law_861 dx_L_law_862 dx_L_law_863 hL (by omega) ?_
  refine go_arg 2 dx_L_law_864 dx_L_law_865 dx_L_law_866 dx_L_law_867 dx_L_law_868 hL (by omega) ?_
  refine go_lV2 sv_L_107 ⟨rfl, (Nat.le_of_ble_eq_true rfl)⟩ dx_L_law_869 (Nat.le_of_ble_eq_true rfl) (Nat.le_of_ble_eq_true rfl) ?_
  refine m_spans (ax_iI E i 1) (ax_iI E i 2) (mx_fc hm f1) (fun δ2 h2 f2 => ?_)
  refine go_icmpS (tgt := 1538) dx_L_law_872 rfl ?_
  exact K δ2 _ (xk_fl (xk_mono h1 (by omega) (by omega)) f2) h2
theorem lc_22 (hL : go_L E ≤ 3072) (hi : i + 6 ≤ go_L E) (hT : Tm < 2147483647) (h : xk_at Tm δ S) (hm : mx_at δ S) (K : ∀ δ' S', xk_at (Tm + 1) δ' S' → mx_at δ' S' → Go E (d + 20) lw_mm mx_L_law lw_φ 1538 (lvs i) [] δ' Q) : Go E (d + 20) lw_mm mx_L_law lw_φ 877 (lvs i) [] δ Q := by
  refine go_aload_n (i := 1) dx_L_law_877 rfl rfl ?_
  refine go_arg 1 dx_L_law_878 dx_L_law_879 dx_L_law_880 dx_L_law_881 dx_L_law_882 hL (by omega) ?_
  refine go_arg 2 dx_L_law_883 dx_L_law_884 dx_L_law_885 dx_L_law_886 dx_L_law_887 hL (by omega) ?_
  refine go_arg 3 dx_L_law_888 dx_L_law_889 dx_L_law_890 dx_L_law_891 dx_L_law_892 hL (by omega) ?_
  refine go_lV3 sv_L_108 ⟨rfl, (Nat.le_of_ble_eq_true rfl)⟩ dx_L_law_893 (Nat.le_of_ble_eq_true rfl) (Nat.le_of_ble_eq_true rfl) ?_
  refine x_trees (ax_iI E i 1) (ax_iI E i 2) (ax_iI E i 3) h (fun δ1 h1 f1 => ?_)
  refine go_aload_n (i := 2) dx_L_law_896 rfl rfl ?_
  refine go_arg 1 dx_L_law_897 dx_L_law_898 dx_L_law_899 dx_L_law_900 dx_L_law_901 hL (by omega) ?_
  refine go_arg 2 dx_L_law_902 dx_L_law_903 dx_L_law_904 dx_L_law_905 dx_L_law_906 hL (by omega) ?_
  refine go_arg 3 dx_L_law_907 dx_L_law_908 dx_L_law_909 dx_L_law_910 dx_L_law_911 hL (by omega) ?_
  refine go_lV3 sv_L_112 ⟨rfl, (Nat.le_of_ble_eq_true rfl)⟩ dx_L_law_912 (Nat.le_of_ble_eq_true rfl) (Nat.le_of_ble_eq_true rfl) ?_
  refine m_trees (ax_iI E i 1) (ax_iI E i 2) (ax_iI E i 3) (mx_fc hm f1) (fun δ2 h2 f2 => ?_)
  refine go_lcmpS (tgt := 1538) dx_L_law_915 dx_L_law_916 rfl ?_
  exact K δ2 _ (xk_fl (xk_mono h1 (by omega) (by omega)) f2) h2
theorem lc_23 (hL : go_L E ≤ 3072) (hi : i + 6 ≤ go_L E) (hT : Tm < 2147483647) (h : xk_at Tm δ S) (hm : mx_at δ S) (K : ∀ δ' S', xk_at (Tm + 1) δ' S' → mx_at δ' S' → Go E (d + 20) lw_mm mx_L_law lw_φ 1538 (lvs i) [] δ' Q) : Go E (d + 20) lw_mm mx_L_law lw_φ 921 (lvs i) [] δ Q := by
  refine go_aload_n (i := 1) dx_L_law_921 rfl rfl ?_
  refine go_arg 1 dx_L_law_922 dx_L_law_923 dx_L_law_924 dx_L_law_925 dx_L_law_926 hL (by omega) ?_
  refine go_lV1 sv_L_113 ⟨rfl, (Nat.le_of_ble_eq_true rfl)⟩ dx_L_law_927 (Nat.le_of_ble_eq_true rfl) (Nat.le_of_ble_eq_true rfl) ?_
  refine x_doubtful (ax_iI E i 1) h (fun δ1 h1 f1 => ?_)
  refine go_aload_n (i := 2) dx_L_law_930 rfl rfl ?_
  refine go_arg 1 dx_L_law_931 dx_L_law_932 dx_L_law_933 dx_L_law_934 dx_L_law_935 hL (by omega) ?_
  refine go_lV1 sv_L_116 ⟨rfl, (Nat.le_of_ble_eq_true rfl)⟩ dx_L_law_936 (Nat.le_of_ble_eq_true rfl) (Nat.le_of_ble_eq_true rfl) ?_
  refine m_doubtful (ax_iI E i 1) (mx_fc hm f1) (fun δ2 h2 f2 => ?_)
  refine go_icmpS (tgt := 1538) dx_L_law_939 rfl ?_
  exact K δ2 _ (xk_fl (xk_mono h1 (by omega) (by omega)) f2) h2
theorem lc_24 (hL : go_L E ≤ 3072) (hi : i + 6 ≤ go_L E) (hT : Tm < 2147483647) (h : xk_at Tm δ S) (hm : mx_at δ S) (K : ∀ δ' S', xk_at (Tm + 1) δ' S' → mx_at δ' S' → Go E (d + 20) lw_mm mx_L_law lw_φ 1538 (lvs i) [] δ' Q) : Go E (d + 20) lw_mm mx_L_law lw_φ 944 (lvs i) [] δ Q := by
  refine go_aload_n (i := 1) dx_L_law_944 rfl rfl ?_
  refine go_lV0 sv_L_117 ⟨rfl, (Nat.le_of_ble_eq_true rfl)⟩ dx_L_law_945 (Nat.le_of_ble_eq_true rfl) (Nat.le_of_ble_eq_true rfl) ?_
  refine x_nodes  h (fun δ1 h1 f1 => ?_)
  refine go_aload_n (i := 2) dx_L_law_948 rfl rfl ?_
  refine go_lV0 sv_L_120 ⟨rfl, (Nat.le_of_ble_eq_true rfl)⟩ dx_L_law_949 (Nat.le_of_ble_eq_true rfl) (Nat.le_of_ble_eq_true rfl) ?_
  refine m_nodes  (mx_fc hm f1) (fun δ2 h2 f2 => ?_)
  refine go_icmpS (tgt := 1538) dx_L_law_952 rfl ?_
  exact K δ2 _ (xk_fl (xk_mono h1 (by omega) (by omega)) f2) h2
theorem lc_25 (hL : go_L E ≤ 3072) (hi : i + 6 ≤ go_L E) (hT : Tm < 2147483647) (h : xk_at Tm δ S) (hm : mx_at δ S) (K : ∀ δ' S', xk_at (Tm + 1) δ' S' → mx_at δ' S' → Go E (d + 20) lw_mm mx_L_law lw_φ 1538 (lvs i) [] δ' Q) : Go E (d + 20) lw_mm mx_L_law lw_φ 957 (lvs i) [] δ Q := by
  refine go_aload_n (i := 1) dx_L_law_957 rfl rfl ?_
  refine go_arg 1 dx_L_law_958 dx_L_law_959 dx_L_law_960 dx_L_law_961 dx_L_law_962 hL (by omega) ?_
  refine go_arg 2 dx_L_law_963 dx_L_law_964 dx_L_law_965 dx_L_law_966 dx_L_law_967 hL (by omega) ?_
  refine go_lV2 sv_L_121 ⟨rfl, (Nat.le_of_ble_eq_true rfl)⟩ dx_L_law_968 (Nat.le_of_ble_eq_true rfl) (Nat.le_of_ble_eq_true rfl) ?_
  refine x_node (ax_iI E i 1) (ax_iI E i 2) h (fun δ1 h1 f1 => ?_)
  refine go_aload_n (i := 2) dx_L_law_971 rfl rfl ?_
  refine go_arg 1 dx_L_law_972 dx_L_law_973 dx_L_law_974 dx_L_law_975 dx_L_law_976 hL (by omega) ?_
  refine go_arg 2 dx_L_law_977 dx_L_law_978 dx_L_law_979 dx_L_law_980 dx_L_law_981 hL (by omega) ?_
  refine go_lV2 sv_L_124 ⟨rfl, (Nat.le_of_ble_eq_true rfl)⟩ dx_L_law_982 (Nat.le_of_ble_eq_true rfl) (Nat.le_of_ble_eq_true rfl) ?_
  refine m_node (ax_iI E i 1) (ax_iI E i 2) (mx_fc hm f1) (fun δ2 h2 f2 => ?_)
  refine go_icmpS (tgt := 1538) dx_L_law_985 rfl ?_
  exact K δ2 _ (xk_fl (xk_mono h1 (by omega) (by omega)) f2) h2
theorem lc_26 (hL : go_L E ≤ 3072) (hi : i + 6 ≤ go_L E) (hT : Tm < 2147483647) (h : xk_at Tm δ S) (hm : mx_at δ S) (K : ∀ δ' S', xk_at (Tm + 1) δ' S' → mx_at δ' S' → Go E (d + 20) lw_mm mx_L_law lw_φ 1538 (lvs i) [] δ' Q) : Go E (d + 20) lw_mm mx_L_law lw_φ 990 (lvs i) [] δ Q := by
  refine go_aload_n (i := 1) dx_L_law_990 rfl rfl ?_
  refine go_arg 1 dx_L_law_991 dx_L_law_992 dx_L_law_993 dx_L_law_994 dx_L_law_995 hL (by omega) ?_
  refine go_arg 2 dx_L_law_996 dx_L_law_997 dx_L_law_998 dx_L_law_999 dx_L_law_1000 hL (by omega) ?_
  refine go_arg 3 dx_L_law_1001 dx_L_law_1002 dx_L_law_1003 dx_L_law_1004 dx_L_law_1005 hL (by omega) ?_
  refine go_lV3 sv_L_125 ⟨rfl, (Nat.le_of_ble_eq_true rfl)⟩ dx_L_law_1006 (Nat.le_of_ble_eq_true rfl) (Nat.le_of_ble_eq_true rfl) ?_
  refine x_tree (ax_iI E i 1) (ax_iI E i 2) (ax_iI E i 3) h (fun δ1 h1 f1 => ?_)
  refine go_aload_n (i := 2) dx_L_law_1009 rfl rfl ?_
  refine go_arg 1 dx_L_law_1010 dx_L_law_1011 dx_L_law_1012 dx_L_law_1013 dx_L_law_1014 hL (by omega) ?_
  refine go_arg 2 dx_L_law_1015 dx_L_law_1016 dx_L_law_1017 dx_L_law_1018 dx_L_law_1019 hL (by omega) ?_
  refine go_arg 3 dx_L_law_1020 dx_L_law_1021 dx_L_law_1022 dx_L_law_1023 dx_L_law_1024 hL (by omega) ?_
  refine go_lV3 sv_L_128 ⟨rfl, (Nat.le_of_ble_eq_true rfl)⟩ dx_L_law_1025 (Nat.le_of_ble_eq_true rfl) (Nat.le_of_ble_eq_true rfl) ?_
  refine m_tree (ax_iI E i 1) (ax_iI E i 2) (ax_iI E i 3) (mx_fc hm f1) (fun δ2 h2 f2 => ?_)
  refine go_icmpS (tgt := 1538) dx_L_law_1028 rfl ?_
  exact K δ2 _ (xk_fl (xk_mono h1 (by omega) (by omega)) f2) h2
theorem lc_27 (hL : go_L E ≤ 3072) (hi : i + 6 ≤ go_L E) (hT : Tm < 2147483647) (h : xk_at Tm δ S) (hm : mx_at δ S) (K : ∀ δ' S', xk_at (Tm + 1) δ' S' → mx_at δ' S' → Go E (d + 20) lw_mm mx_L_law lw_φ 1538 (lvs i) [] δ' Q) : Go E (d + 20) lw_mm mx_L_law lw_φ 1033 (lvs i) [] δ Q := by
  refine go_aload_n (i := 1) dx_L_law_1033 rfl rfl ?_
  refine go_arg 1 dx_L_law_1034 dx_L_law_1035 dx_L_law_1036 dx_L_law_1037 dx_L_law_1038 hL (by omega) ?_
  refine go_lV1 sv_L_129 ⟨rfl, (Nat.le_of_ble_eq_true rfl)⟩ dx_L_law_1039 (Nat.le_of_ble_eq_true rfl) (Nat.le_of_ble_eq_true rfl) ?_
  refine x_loss (ax_iI E i 1) h (fun δ1 h1 f1 => ?_)
  refine go_aload_n (i := 2) dx_L_law_1042 rfl rfl ?_
  refine go_arg 1 dx_L_law_1043 dx_L_law_1044 dx_L_law_1045 dx_L_law_1046 dx_L_law_1047 hL (by omega) ?_
  refine go_lV1 sv_L_132 ⟨rfl, (Nat.le_of_ble_eq_true rfl)⟩ dx_L_law_1048 (Nat.le_of_ble_eq_true rfl) (Nat.le_of_ble_eq_true rfl) ?_
  refine m_loss (ax_iI E i 1) (mx_fc hm f1) (fun δ2 h2 f2 => ?_)
  refine go_icmpS (tgt := 1538) dx_L_law_1051 rfl ?_
  exact K δ2 _ (xk_fl (xk_mono h1 (by omega) (by omega)) f2) h2
theorem lc_28 (hL : go_L E ≤ 3072) (hi : i + 6 ≤ go_L E) (hT : Tm < 2147483647) (h : xk_at Tm δ S) (hm : mx_at δ S) (K : ∀ δ' S', xk_at (Tm + 1) δ' S' → mx_at δ' S' → Go E (d + 20) lw_mm mx_L_law lw_φ 1538 (lvs i) [] δ' Q) : Go E (d + 20) lw_mm mx_L_law lw_φ 1056 (lvs i) [] δ Q := by
  refine go_aload_n (i := 1) dx_L_law_1056 rfl rfl ?_
  refine go_arg 1 dx_L_law_1057 dx_L_law_1058 dx_L_law_1059 dx_L_law_1060 dx_L_law_1061 hL (by omega) ?_
  refine go_arg 2 dx_L_law_1062 dx_L_law_1063 dx_L_law_1064 dx_L_law_1065 dx_L_law_1066 hL (by omega) ?_
  refine go_lV2 sv_L_133 ⟨rfl, (Nat.le_of_ble_eq_true rfl)⟩ dx_L_law_1067 (Nat.le_of_ble_eq_true rfl) (Nat.le_of_ble_eq_true rfl) ?_
  refine x_form (ax_iI E i 1) (ax_iI E i 2) h (fun δ1 h1 f1 => ?_)
  refine go_aload_n (i := 2) dx_L_law_1070 rfl rfl ?_
  refine go_arg 1 dx_L_law_1071 dx_L_law_1072 dx_L_law_1073 dx_L_law_1074 dx_L_law_1075 hL (by omega) ?_
  refine go_arg 2 dx_L_law_1076 dx_L_law_1077 dx_L_law_1078 dx_L_law_1079 dx_L_law_1080 hL (by omega) ?_
  refine go_lV2 sv_L_136 ⟨rfl, (Nat.le_of_ble_eq_true rfl)⟩ dx_L_law_1081 (Nat.le_of_ble_eq_true rfl) (Nat.le_of_ble_eq_true rfl) ?_
  refine m_form (ax_iI E i 1) (ax_iI E i 2) (mx_fc hm f1) (fun δ2 h2 f2 => ?_)
  refine go_icmpS (tgt := 1538) dx_L_law_1084 rfl ?_
  exact K δ2 _ (xk_fl (xk_mono h1 (by omega) (by omega)) f2) h2
theorem lc_29 (hL : go_L E ≤ 3072) (hi : i + 6 ≤ go_L E) (hT : Tm < 2147483647) (h : xk_at Tm δ S) (hm : mx_at δ S) (K : ∀ δ' S', xk_at (Tm + 1) δ' S' → mx_at δ' S' → Go E (d + 20) lw_mm mx_L_law lw_φ 1538 (lvs i) [] δ' Q) : Go E (d + 20) lw_mm mx_L_law lw_φ 1089 (lvs i) [] δ Q := by
  refine go_aload_n (i := 1) dx_L_law_1089 rfl rfl ?_
  refine go_arg 1 dx_L_law_1090 dx_L_law_1091 dx_L_law_1092 dx_L_law_1093 dx_L_law_1094 hL (by omega) ?_
  refine go_lV1 sv_L_137 ⟨rfl, (Nat.le_of_ble_eq_true rfl)⟩ dx_L_law_1095 (Nat.le_of_ble_eq_true rfl) (Nat.le_of_ble_eq_true rfl) ?_
  refine x_length (ax_iI E i 1) h (fun δ1 h1 f1 => ?_)
  refine go_aload_n (i := 2) dx_L_law_1098 rfl rfl ?_
  refine go_arg 1 dx_L_law_1099 dx_L_law_1100 dx_L_law_1101 dx_L_law_1102 dx_L_law_1103 hL (by omega) ?_
  refine go_lV1 sv_L_140 ⟨rfl, (Nat.le_of_ble_eq_true rfl)⟩ dx_L_law_1104 (Nat.le_of_ble_eq_true rfl) (Nat.le_of_ble_eq_true rfl) ?_
  refine m_length (ax_iI E i 1) (mx_fc hm f1) (fun δ2 h2 f2 => ?_)
  refine go_icmpS (tgt := 1538) dx_L_law_1107 rfl ?_
  exact K δ2 _ (xk_fl (xk_mono h1 (by omega) (by omega)) f2) h2
theorem lc_30 (hL : go_L E ≤ 3072) (hi : i + 6 ≤ go_L E) (hT : Tm < 2147483647) (h : xk_at Tm δ S) (hm : mx_at δ S) (K : ∀ δ' S', xk_at (Tm + 1) δ' S' → mx_at δ' S' → Go E (d + 20) lw_mm mx_L_law lw_φ 1538 (lvs i) [] δ' Q) : Go E (d + 20) lw_mm mx_L_law lw_φ 1112 (lvs i) [] δ Q := by
  refine go_aload_n (i := 1) dx_L_law_1112 rfl rfl ?_
  refine go_lV0 sv_L_141 ⟨rfl, (Nat.le_of_ble_eq_true rfl)⟩ dx_L_law_1113 (Nat.le_of_ble_eq_true rfl) (Nat.le_of_ble_eq_true rfl) ?_
  refine x_beginnings  h (fun δ1 h1 f1 => ?_)
  refine go_aload_n (i := 2) dx_L_law_1116 rfl rfl ?_
  refine go_lV0 sv_L_144 ⟨rfl, (Nat.le_of_ble_eq_true rfl)⟩ dx_L_law_1117 (Nat.le_of_ble_eq_true rfl) (Nat.le_of_ble_eq_true rfl) ?_
  refine m_beginnings  (mx_fc hm f1) (fun δ2 h2 f2 => ?_)
  refine go_icmpS (tgt := 1538) dx_L_law_1120 rfl ?_
  exact K δ2 _ (xk_fl (xk_mono h1 (by omega) (by omega)) f2) h2
theorem lc_31 (hL : go_L E ≤ 3072) (hi : i + 6 ≤ go_L E) (hT : Tm < 2147483647) (h : xk_at Tm δ S) (hm : mx_at δ S) (K : ∀ δ' S', xk_at (Tm + 1) δ' S' → mx_at δ' S' → Go E (d + 20) lw_mm mx_L_law lw_φ 1538 (lvs i) [] δ' Q) : Go E (d + 20) lw_mm mx_L_law lw_φ 1125 (lvs i) [] δ Q := by
  refine go_aload_n (i := 1) dx_L_law_1125 rfl rfl ?_
  refine go_arg 1 dx_L_law_1126 dx_L_law_1127 dx_L_law_1128 dx_L_law_1129 dx_L_law_1130 hL (by omega) ?_
  refine go_lV1 sv_L_145 ⟨rfl, (Nat.le_of_ble_eq_true rfl)⟩ dx_L_law_1131 (Nat.le_of_ble_eq_true rfl) (Nat.le_of_ble_eq_true rfl) ?_
  refine x_pieces (ax_iI E i 1) h (fun δ1 h1 f1 => ?_)
  refine go_aload_n (i := 2) dx_L_law_1134 rfl rfl ?_
  refine go_arg 1 dx_L_law_1135 dx_L_law_1136 dx_L_law_1137 dx_L_law_1138 dx_L_law_1139 hL (by omega) ?_
  refine go_lV1 sv_L_148 ⟨rfl, (Nat.le_of_ble_eq_true rfl)⟩ dx_L_law_1140 (Nat.le_of_ble_eq_true rfl) (Nat.le_of_ble_eq_true rfl) ?_
  refine m_pieces (ax_iI E i 1) (mx_fc hm f1) (fun δ2 h2 f2 => ?_)
  refine go_icmpS (tgt := 1538) dx_L_law_1143 rfl ?_
  exact K δ2 _ (xk_fl (xk_mono h1 (by omega) (by omega)) f2) h2
theorem lc_32 (hL : go_L E ≤ 3072) (hi : i + 6 ≤ go_L E) (hT : Tm < 2147483647) (h : xk_at Tm δ S) (hm : mx_at δ S) (K : ∀ δ' S', xk_at (Tm + 1) δ' S' → mx_at δ' S' → Go E (d + 20) lw_mm mx_L_law lw_φ 1538 (lvs i) [] δ' Q) : Go E (d + 20) lw_mm mx_L_law lw_φ 1148 (lvs i) [] δ Q := by
  refine go_aload_n (i := 1) dx_L_law_1148 rfl rfl ?_
  refine go_lV0 sv_L_149 ⟨rfl, (Nat.le_of_ble_eq_true rfl)⟩ dx_L_law_1149 (Nat.le_of_ble_eq_true rfl) (Nat.le_of_ble_eq_true rfl) ?_
  refine x_turned  h (fun δ1 h1 f1 => ?_)
  refine go_aload_n (i := 2) dx_L_law_1152 rfl rfl ?_
  refine go_lV0 sv_L_152 ⟨rfl, (Nat.le_of_ble_eq_true rfl)⟩ dx_L_law_1153 (Nat.le_of_ble_eq_true rfl) (Nat.le_of_ble_eq_true rfl) ?_
  refine m_turned  (mx_fc hm f1) (fun δ2 h2 f2 => ?_)
  refine go_icmpS (tgt := 1538) dx_L_law_1156 rfl ?_
  exact K δ2 _ (xk_fl (xk_mono h1 (by omega) (by omega)) f2) h2
theorem lc_33 (hL : go_L E ≤ 3072) (hi : i + 6 ≤ go_L E) (hT : Tm < 2147483647) (h : xk_at Tm δ S) (hm : mx_at δ S) (K : ∀ δ' S', xk_at (Tm + 1) δ' S' → mx_at δ' S' → Go E (d + 20) lw_mm mx_L_law lw_φ 1538 (lvs i) [] δ' Q) : Go E (d + 20) lw_mm mx_L_law lw_φ 1161 (lvs i) [] δ Q := by
  refine go_aload_n (i := 1) dx_L_law_1161 rfl rfl ?_
  refine go_lV0 sv_L_153 ⟨rfl, (Nat.le_of_ble_eq_true rfl)⟩ dx_L_law_1162 (Nat.le_of_ble_eq_true rfl) (Nat.le_of_ble_eq_true rfl) ?_
  refine x_viable  h (fun δ1 h1 f1 => ?_)
  refine go_aload_n (i := 2) dx_L_law_1165 rfl rfl ?_
  refine go_lV0 sv_L_156 ⟨rfl, (Nat.le_of_ble_eq_true rfl)⟩ dx_L_law_1166 (Nat.le_of_ble_eq_true rfl) (Nat.le_of_ble_eq_true rfl) ?_
  refine m_viable  (mx_fc hm f1) (fun δ2 h2 f2 => ?_)
  refine go_icmpS (tgt := 1538) dx_L_law_1169 rfl ?_
  exact K δ2 _ (xk_fl (xk_mono h1 (by omega) (by omega)) f2) h2
theorem lc_34 (hL : go_L E ≤ 3072) (hi : i + 6 ≤ go_L E) (hT : Tm < 2147483647) (h : xk_at Tm δ S) (hm : mx_at δ S) (K : ∀ δ' S', xk_at (Tm + 1) δ' S' → mx_at δ' S' → Go E (d + 20) lw_mm mx_L_law lw_φ 1538 (lvs i) [] δ' Q) : Go E (d + 20) lw_mm mx_L_law lw_φ 1174 (lvs i) [] δ Q := by
  refine go_aload_n (i := 1) dx_L_law_1174 rfl rfl ?_
  refine go_lV0 sv_L_157 ⟨rfl, (Nat.le_of_ble_eq_true rfl)⟩ dx_L_law_1175 (Nat.le_of_ble_eq_true rfl) (Nat.le_of_ble_eq_true rfl) ?_
  refine x_next  h (fun δ1 h1 f1 => ?_)
  refine go_aload_n (i := 2) dx_L_law_1178 rfl rfl ?_
  refine go_lV0 sv_L_160 ⟨rfl, (Nat.le_of_ble_eq_true rfl)⟩ dx_L_law_1179 (Nat.le_of_ble_eq_true rfl) (Nat.le_of_ble_eq_true rfl) ?_
  refine m_next  (mx_fc hm f1) (fun δ2 h2 f2 => ?_)
  refine go_icmpS (tgt := 1538) dx_L_law_1182 rfl ?_
  exact K δ2 _ (xk_fl (xk_mono h1 (by omega) (by omega)) f2) h2
theorem lc_35 (hL : go_L E ≤ 3072) (hi : i + 6 ≤ go_L E) (hT : Tm < 2147483647) (h : xk_at Tm δ S) (hm : mx_at δ S) (K : ∀ δ' S', xk_at (Tm + 1) δ' S' → mx_at δ' S' → Go E (d + 20) lw_mm mx_L_law lw_φ 1538 (lvs i) [] δ' Q) : Go E (d + 20) lw_mm mx_L_law lw_φ 1187 (lvs i) [] δ Q := by
  refine go_aload_n (i := 1) dx_L_law_1187 rfl rfl ?_
  refine go_arg 1 dx_L_law_1188 dx_L_law_1189 dx_L_law_1190 dx_L_law_1191 dx_L_law_1192 hL (by omega) ?_
  refine go_lV1 sv_L_161 ⟨rfl, (Nat.le_of_ble_eq_true rfl)⟩ dx_L_law_1193 (Nat.le_of_ble_eq_true rfl) (Nat.le_of_ble_eq_true rfl) ?_
  refine x_lengths (ax_iI E i 1) h (fun δ1 h1 f1 => ?_)
  refine go_aload_n (i := 2) dx_L_law_1196 rfl rfl ?_
  refine go_arg 1 dx_L_law_1197 dx_L_law_1198 dx_L_law_1199 dx_L_law_1200 dx_L_law_1201 hL (by omega) ?_
  refine go_lV1 sv_L_164 ⟨rfl, (Nat.le_of_ble_eq_true rfl)⟩ dx_L_law_1202 (Nat.le_of_ble_eq_true rfl) (Nat.le_of_ble_eq_true rfl) ?_
  refine m_lengths (ax_iI E i 1) (mx_fc hm f1) (fun δ2 h2 f2 => ?_)
  refine go_icmpS (tgt := 1538) dx_L_law_1205 rfl ?_
  exact K δ2 _ (xk_fl (xk_mono h1 (by omega) (by omega)) f2) h2
theorem lc_36 (hL : go_L E ≤ 3072) (hi : i + 6 ≤ go_L E) (hT : Tm < 2147483647) (h : xk_at Tm δ S) (hm : mx_at δ S) (K : ∀ δ' S', xk_at (Tm + 1) δ' S' → mx_at δ' S' → Go E (d + 20) lw_mm mx_L_law lw_φ 1538 (lvs i) [] δ' Q) : Go E (d + 20) lw_mm mx_L_law lw_φ 1210 (lvs i) [] δ Q := by
  refine go_aload_n (i := 1) dx_L_law_1210 rfl rfl ?_
  refine go_arg 1 dx_L_law_1211 dx_L_law_1212 dx_L_law_1213 dx_L_law_1214 dx_L_law_1215 hL (by omega) ?_
  refine go_arg 2 dx_L_law_1216 dx_L_law_1217 dx_L_law_1218 dx_L_law_1219 dx_L_law_1220 hL (by omega) ?_
  refine go_lV2 sv_L_165 ⟨rfl, (Nat.le_of_ble_eq_true rfl)⟩ dx_L_law_1221 (Nat.le_of_ble_eq_true rfl) (Nat.le_of_ble_eq_true rfl) ?_
  refine x_shapes (ax_iI E i 1) (ax_iI E i 2) h (fun δ1 h1 f1 => ?_)
  refine go_aload_n (i := 2) dx_L_law_1224 rfl rfl ?_
  refine go_arg 1 dx_L_law_1225 dx_L_law_1226 dx_L_law_1227 dx_L_law_1228 dx_L_law_1229 hL (by omega) ?_
  refine go_arg 2 dx_L_law_1230 dx_L_law_1231 dx_L_law_1232 dx_L_law_1233 dx_L_law_1234 hL (by omega) ?_
  refine go_lV2 sv_L_168 ⟨rfl, (Nat.le_of_ble_eq_true rfl)⟩ dx_L_law_1235 (Nat.le_of_ble_eq_true rfl) (Nat.le_of_ble_eq_true rfl) ?_
  refine m_shapes (ax_iI E i 1) (ax_iI E i 2) (mx_fc hm f1) (fun δ2 h2 f2 => ?_)
  refine go_lcmpS (tgt := 1538) dx_L_law_1238 dx_L_law_1239 rfl ?_
  exact K δ2 _ (xk_fl (xk_mono h1 (by omega) (by omega)) f2) h2
theorem lc_37 (hL : go_L E ≤ 3072) (hi : i + 6 ≤ go_L E) (hT : Tm < 2147483647) (h : xk_at Tm δ S) (hm : mx_at δ S) (K : ∀ δ' S', xk_at (Tm + 1) δ' S' → mx_at δ' S' → Go E (d + 20) lw_mm mx_L_law lw_φ 1538 (lvs i) [] δ' Q) : Go E (d + 20) lw_mm mx_L_law lw_φ 1244 (lvs i) [] δ Q := by
  refine go_aload_n (i := 1) dx_L_law_1244 rfl rfl ?_
  refine go_lV0 sv_L_169 ⟨rfl, (Nat.le_of_ble_eq_true rfl)⟩ dx_L_law_1245 (Nat.le_of_ble_eq_true rfl) (Nat.le_of_ble_eq_true rfl) ?_
  refine x_changes  h (fun δ1 h1 f1 => ?_)
  refine go_aload_n (i := 2) dx_L_law_1248 rfl rfl ?_
  refine go_lV0 sv_L_172 ⟨rfl, (Nat.le_of_ble_eq_true rfl)⟩ dx_L_law_1249 (Nat.le_of_ble_eq_true rfl) (Nat.le_of_ble_eq_true rfl) ?_
  refine m_changes  (mx_fc hm f1) (fun δ2 h2 f2 => ?_)
  refine go_icmpS (tgt := 1538) dx_L_law_1252 rfl ?_
  exact K δ2 _ (xk_fl (xk_mono h1 (by omega) (by omega)) f2) h2
theorem lc_38 (hL : go_L E ≤ 3072) (hi : i + 6 ≤ go_L E) (hT : Tm < 2147483647) (h : xk_at Tm δ S) (hm : mx_at δ S) (K : ∀ δ' S', xk_at (Tm + 1) δ' S' → mx_at δ' S' → Go E (d + 20) lw_mm mx_L_law lw_φ 1538 (lvs i) [] δ' Q) : Go E (d + 20) lw_mm mx_L_law lw_φ 1257 (lvs i) [] δ Q := by
  refine go_aload_n (i := 1) dx_L_law_1257 rfl rfl ?_
  refine go_arg 1 dx_L_law_1258 dx_L_law_1259 dx_L_law_1260 dx_L_law_1261 dx_L_law_1262 hL (by omega) ?_
  refine go_lV1 sv_L_173 ⟨rfl, (Nat.le_of_ble_eq_true rfl)⟩ dx_L_law_1263 (Nat.le_of_ble_eq_true rfl) (Nat.le_of_ble_eq_true rfl) ?_
  refine x_changed (ax_iI E i 1) h (fun δ1 h1 f1 => ?_)
  refine go_aload_n (i := 2) dx_L_law_1266 rfl rfl ?_
  refine go_arg 1 dx_L_law_1267 dx_L_law_1268 dx_L_law_1269 dx_L_law_1270 dx_L_law_1271 hL (by omega) ?_
  refine go_lV1 sv_L_176 ⟨rfl, (Nat.le_of_ble_eq_true rfl)⟩ dx_L_law_1272 (Nat.le_of_ble_eq_true rfl) (Nat.le_of_ble_eq_true rfl) ?_
  refine m_changed (ax_iI E i 1) (mx_fc hm f1) (fun δ2 h2 f2 => ?_)
  refine go_icmpS (tgt := 1538) dx_L_law_1275 rfl ?_
  exact K δ2 _ (xk_fl (xk_mono h1 (by omega) (by omega)) f2) h2
theorem lc_39 (hL : go_L E ≤ 3072) (hi : i + 6 ≤ go_L E) (hT : Tm < 2147483647) (h : xk_at Tm δ S) (hm : mx_at δ S) (K : ∀ δ' S', xk_at (Tm + 1) δ' S' → mx_at δ' S' → Go E (d + 20) lw_mm mx_L_law lw_φ 1538 (lvs i) [] δ' Q) : Go E (d + 20) lw_mm mx_L_law lw_φ 1280 (lvs i) [] δ Q := by
  refine go_aload_n (i := 1) dx_L_law_1280 rfl rfl ?_
  refine go_arg 1 dx_L_law_1281 dx_L_law_1282 dx_L_law_1283 dx_L_law_1284 dx_L_law_1285 hL (by omega) ?_
  refine go_lV1 sv_L_177 ⟨rfl, (Nat.le_of_ble_eq_true rfl)⟩ dx_L_law_1286 (Nat.le_of_ble_eq_true rfl) (Nat.le_of_ble_eq_true rfl) ?_
  refine x_words (ax_iI E i 1) h (fun δ1 h1 f1 => ?_)
  refine go_aload_n (i := 2) dx_L_law_1289 rfl rfl ?_
  refine go_arg 1 dx_L_law_1290 dx_L_law_1291 dx_L_law_1292 dx_L_law_1293 dx_L_law_1294 hL (by omega) ?_
  refine go_lV1 sv_L_180 ⟨rfl, (Nat.le_of_ble_eq_true rfl)⟩ dx_L_law_1295 (Nat.le_of_ble_eq_true rfl) (Nat.le_of_ble_eq_true rfl) ?_
  refine m_words (ax_iI E i 1) (mx_fc hm f1) (fun δ2 h2 f2 => ?_)
  refine go_icmpS (tgt := 1538) dx_L_law_1298 rfl ?_
  exact K δ2 _ (xk_fl (xk_mono h1 (by omega) (by omega)) f2) h2
theorem lc_40 (hL : go_L E ≤ 3072) (hi : i + 6 ≤ go_L E) (hT : Tm < 2147483647) (h : xk_at Tm δ S) (hm : mx_at δ S) (K : ∀ δ' S', xk_at (Tm + 1) δ' S' → mx_at δ' S' → Go E (d + 20) lw_mm mx_L_law lw_φ 1538 (lvs i) [] δ' Q) : Go E (d + 20) lw_mm mx_L_law lw_φ 1303 (lvs i) [] δ Q := by
  refine go_aload_n (i := 1) dx_L_law_1303 rfl rfl ?_
  refine go_arg 1 dx_L_law_1304 dx_L_law_1305 dx_L_law_1306 dx_L_law_1307 dx_L_law_1308 hL (by omega) ?_
  refine go_arg 2 dx_L_law_1309 dx_L_law_1310 dx_L_law_1311 dx_L_law_1312 dx_L_law_1313 hL (by omega) ?_
  refine go_lV2 sv_L_181 ⟨rfl, (Nat.le_of_ble_eq_true rfl)⟩ dx_L_law_1314 (Nat.le_of_ble_eq_true rfl) (Nat.le_of_ble_eq_true rfl) ?_
  refine x_first (ax_iI E i 1) (ax_iI E i 2) h (fun δ1 h1 f1 => ?_)
  refine go_aload_n (i := 2) dx_L_law_1317 rfl rfl ?_
  refine go_arg 1 dx_L_law_1318 dx_L_law_1319 dx_L_law_1320 dx_L_law_1321 dx_L_law_1322 hL (by omega) ?_
  refine go_arg 2 dx_L_law_1323 dx_L_law_1324 dx_L_law_1325 dx_L_law_1326 dx_L_law_1327 hL (by omega) ?_
  refine go_lV2 sv_L_184 ⟨rfl, (Nat.le_of_ble_eq_true rfl)⟩ dx_L_law_1328 (Nat.le_of_ble_eq_true rfl) (Nat.le_of_ble_eq_true rfl) ?_
  refine m_first (ax_iI E i 1) (ax_iI E i 2) (mx_fc hm f1) (fun δ2 h2 f2 => ?_)
  refine go_icmpS (tgt := 1538) dx_L_law_1331 rfl ?_
  exact K δ2 _ (xk_fl (xk_mono h1 (by omega) (by omega)) f2) h2
theorem lc_41 (hL : go_L E ≤ 3072) (hi : i + 6 ≤ go_L E) (hT : Tm < 2147483647) (h : xk_at Tm δ S) (hm : mx_at δ S) (K : ∀ δ' S', xk_at (Tm + 1) δ' S' → mx_at δ' S' → Go E (d + 20) lw_mm mx_L_law lw_φ 1538 (lvs i) [] δ' Q) : Go E (d + 20) lw_mm mx_L_law lw_φ 1336 (lvs i) [] δ Q := by
  refine go_aload_n (i := 1) dx_L_law_1336 rfl rfl ?_
  refine go_arg 1 dx_L_law_1337 dx_L_law_1338 dx_L_law_1339 dx_L_law_1340 dx_L_law_1341 hL (by omega) ?_
  refine go_arg 2 dx_L_law_1342 dx_L_law_1343 dx_L_law_1344 dx_L_law_1345 dx_L_law_1346 hL (by omega) ?_
  refine go_lV2 sv_L_185 ⟨rfl, (Nat.le_of_ble_eq_true rfl)⟩ dx_L_law_1347 (Nat.le_of_ble_eq_true rfl) (Nat.le_of_ble_eq_true rfl) ?_
  refine x_tray (ax_iI E i 1) (ax_iI E i 2) h hT (fun δ1 h1 f1 => ?_)
  refine go_aload_n (i := 2) dx_L_law_1350 rfl rfl ?_
  refine go_arg 1 dx_L_law_1351 dx_L_law_1352 dx_L_law_1353 dx_L_law_1354 dx_L_law_1355 hL (by omega) ?_
  refine go_arg 2 dx_L_law_1356 dx_L_law_1357 dx_L_law_1358 dx_L_law_1359 dx_L_law_1360 hL (by omega) ?_
  refine go_lV2 sv_L_188 ⟨rfl, (Nat.le_of_ble_eq_true rfl)⟩ dx_L_law_1361 (Nat.le_of_ble_eq_true rfl) (Nat.le_of_ble_eq_true rfl) ?_
  refine n_tray (ax_iI E i 1) (ax_iI E i 2) (mx_fc hm f1) (fun δ2 h2 f2 => ?_)
  refine go_icmpS (tgt := 1538) dx_L_law_1364 rfl ?_
  exact K δ2 _ (xk_fl h1 f2) h2
theorem lc_42 (hL : go_L E ≤ 3072) (hi : i + 6 ≤ go_L E) (hT : Tm < 2147483647) (h : xk_at Tm δ S) (hm : mx_at δ S) (K : ∀ δ' S', xk_at (Tm + 1) δ' S' → mx_at δ' S' → Go E (d + 20) lw_mm mx_L_law lw_φ 1538 (lvs i) [] δ' Q) : Go E (d + 20) lw_mm mx_L_law lw_φ 1369 (lvs i) [] δ Q := by
  refine go_aload_n (i := 1) dx_L_law_1369 rfl rfl ?_
  refine go_arg 1 dx_L_law_1370 dx_L_law_1371 dx_L_law_1372 dx_L_law_1373 dx_L_law_1374 hL (by omega) ?_
  refine go_arg 2 dx_L_law_1375 dx_L_law_1376 dx_L_law_1377 dx_L_law_1378 dx_L_law_1379 hL (by omega) ?_
  refine go_arg 3 dx_L_law_1380 dx_L_law_1381 dx_L_law_1382 dx_L_law_1383 dx_L_law_1384 hL (by omega) ?_
  refine go_lV3 sv_L_189 ⟨rfl, (Nat.le_of_ble_eq_true rfl)⟩ dx_L_law_1385 (Nat.le_of_ble_eq_true rfl) (Nat.le_of_ble_eq_true rfl) ?_
  refine x_copy (ax_iI E i 1) (ax_iI E i 2) (ax_iI E i 3) h (fun δ1 h1 f1 => ?_)
  refine go_aload_n (i := 2) dx_L_law_1388 rfl rfl ?_
  refine go_arg 1 dx_L_law_1389 dx_L_law_1390 dx_L_law_1391 dx_L_law_1392 dx_L_law_1393 hL (by omega) ?_
  refine go_arg 2 dx_L_law_1394 dx_L_law_1395 dx_L_law_1396 dx_L_law_1397 dx_L_law_1398 hL (by omega) ?_
  refine go_arg 3 dx_L_law_1399 dx_L_law_1400 dx_L_law_1401 dx_L_law_1402 dx_L_law_1403 hL (by omega) ?_
  refine go_lV3 sv_L_192 ⟨rfl, (Nat.le_of_ble_eq_true rfl)⟩ dx_L_law_1404 (Nat.le_of_ble_eq_true rfl) (Nat.le_of_ble_eq_true rfl) ?_
  refine m_copy (ax_iI E i 1) (ax_iI E i 2) (ax_iI E i 3) (mx_fc hm f1) (fun δ2 h2 f2 => ?_)
  refine go_icmpS (tgt := 1538) dx_L_law_1407 rfl ?_
  exact K δ2 _ (xk_fl (xk_mono h1 (by omega) (by omega)) f2) h2
theorem lc_43 (hL : go_L E ≤ 3072) (hi : i + 6 ≤ go_L E) (hT : Tm < 2147483647) (h : xk_at Tm δ S) (hm : mx_at δ S) (K : ∀ δ' S', xk_at (Tm + 1) δ' S' → mx_at δ' S' → Go E (d + 20) lw_mm mx_L_law lw_φ 1538 (lvs i) [] δ' Q) : Go E (d + 20) lw_mm mx_L_law lw_φ 1412 (lvs i) [] δ Q := by
  refine go_aload_n (i := 1) dx_L_law_1412 rfl rfl ?_
  refine go_arg 1 dx_L_law_1413 dx_L_law_1414 dx_L_law_1415 dx_L_law_1416 dx_L_law_1417 hL (by omega) ?_
  refine go_arg 2 dx_L_law_1418 dx_L_law_1419 dx_L_law_1420 dx_L_law_1421 dx_L_law_1422 hL (by omega) ?_
  refine go_lV2 sv_L_193 ⟨rfl, (Nat.le_of_ble_eq_true rfl)⟩ dx_L_law_1423 (Nat.le_of_ble_eq_true rfl) (Nat.le_of_ble_eq_true rfl) ?_
  refine x_number (ax_iI E i 1) (ax_iI E i 2) h (fun δ1 h1 f1 => ?_)
  refine go_aload_n (i := 2) dx_L_law_1426 rfl rfl ?_
  refine go_arg 1 dx_L_law_1427 dx_L_law_1428 dx_L_law_1429 dx_L_law_1430 dx_L_law_1431 hL (by omega) ?_
  refine go_arg 2 dx_L_law_1432 dx_L_law_1433 dx_L_law_1434 dx_L_law_1435 dx_L_law_1436 hL (by omega) ?_
  refine go_lV2 sv_L_196 ⟨rfl, (Nat.le_of_ble_eq_true rfl)⟩ dx_L_law_1437 (Nat.le_of_ble_eq_true rfl) (Nat.le_of_ble_eq_true rfl) ?_
  refine n_number (ax_iI E i 1) (ax_iI E i 2) (mx_fc hm f1) (fun δ2 h2 f2 => ?_)
  refine go_lcmpS (tgt := 1538) dx_L_law_1440 dx_L_law_1441 rfl ?_
  exact K δ2 _ (xk_fl (xk_mono h1 (by omega) (by omega)) f2) h2
theorem lc_44 (hL : go_L E ≤ 3072) (hi : i + 6 ≤ go_L E) (hT : Tm < 2147483647) (h : xk_at Tm δ S) (hm : mx_at δ S) (K : ∀ δ' S', xk_at (Tm + 1) δ' S' → mx_at δ' S' → Go E (d + 20) lw_mm mx_L_law lw_φ 1538 (lvs i) [] δ' Q) : Go E (d + 20) lw_mm mx_L_law lw_φ 1446 (lvs i) [] δ Q := by
  refine go_aload_n (i := 1) dx_L_law_1446 rfl rfl ?_
  refine go_arg 1 dx_L_law_1447 dx_L_law_1448 dx_L_law_1449 dx_L_law_1450 dx_L_law_1451 hL (by omega) ?_
  refine go_lV1 sv_L_197 ⟨rfl, (Nat.le_of_ble_eq_true rfl)⟩ dx_L_law_1452 (Nat.le_of_ble_eq_true rfl) (Nat.le_of_ble_eq_true rfl) ?_
  refine x_undo (ax_iI E i 1) h hT (fun δ1 h1 f1 => ?_)
  refine go_aload_n (i := 2) dx_L_law_1455 rfl rfl ?_
  refine go_arg 1 dx_L_law_1456 dx_L_law_1457 dx_L_law_1458 dx_L_law_1459 dx_L_law_1460 hL (by omega) ?_
  refine go_lV1 sv_L_200 ⟨rfl, (Nat.le_of_ble_eq_true rfl)⟩ dx_L_law_1461 (Nat.le_of_ble_eq_true rfl) (Nat.le_of_ble_eq_true rfl) ?_
  refine n_undo (ax_iI E i 1) (mx_fc hm f1) (fun δ2 h2 f2 => ?_)
  refine go_icmpS (tgt := 1538) dx_L_law_1464 rfl ?_
  exact K δ2 _ (xk_fl h1 f2) h2
theorem lc_45 (hL : go_L E ≤ 3072) (hi : i + 6 ≤ go_L E) (hT : Tm < 2147483647) (h : xk_at Tm δ S) (hm : mx_at δ S) (K : ∀ δ' S', xk_at (Tm + 1) δ' S' → mx_at δ' S' → Go E (d + 20) lw_mm mx_L_law lw_φ 1538 (lvs i) [] δ' Q) : Go E (d + 20) lw_mm mx_L_law lw_φ 1469 (lvs i) [] δ Q := by
  refine go_aload_n (i := 1) dx_L_law_1469 rfl rfl ?_
  refine go_arg 1 dx_L_law_1470 dx_L_law_1471 dx_L_law_1472 dx_L_law_1473 dx_L_law_1474 hL (by omega) ?_
  refine go_lV1 sv_L_201 ⟨rfl, (Nat.le_of_ble_eq_true rfl)⟩ dx_L_law_1475 (Nat.le_of_ble_eq_true rfl) (Nat.le_of_ble_eq_true rfl) ?_
  refine x_image (ax_iI E i 1) h hT (fun δ1 h1 f1 => ?_)
  refine go_aload_n (i := 2) dx_L_law_1478 rfl rfl ?_
  refine go_arg 1 dx_L_law_1479 dx_L_law_1480 dx_L_law_1481 dx_L_law_1482 dx_L_law_1483 hL (by omega) ?_
  refine go_lV1 sv_L_204 ⟨rfl, (Nat.le_of_ble_eq_true rfl)⟩ dx_L_law_1484 (Nat.le_of_ble_eq_true rfl) (Nat.le_of_ble_eq_true rfl) ?_
  refine n_image (ax_iI E i 1) (mx_fc hm f1) (fun δ2 h2 f2 => ?_)
  refine go_icmpS (tgt := 1538) dx_L_law_1487 rfl ?_
  exact K δ2 _ (xk_fl h1 f2) h2
theorem lc_46 (hL : go_L E ≤ 3072) (hi : i + 6 ≤ go_L E) (hT : Tm < 2147483647) (h : xk_at Tm δ S) (hm : mx_at δ S) (K : ∀ δ' S', xk_at (Tm + 1) δ' S' → mx_at δ' S' → Go E (d + 20) lw_mm mx_L_law lw_φ 1538 (lvs i) [] δ' Q) : Go E (d + 20) lw_mm mx_L_law lw_φ 1492 (lvs i) [] δ Q := by
  refine go_aload_n (i := 1) dx_L_law_1492 rfl rfl ?_
  refine go_arg 1 dx_L_law_1493 dx_L_law_1494 dx_L_law_1495 dx_L_law_1496 dx_L_law_1497 hL (by omega) ?_
  refine go_lV1 sv_L_205 ⟨rfl, (Nat.le_of_ble_eq_true rfl)⟩ dx_L_law_1498 (Nat.le_of_ble_eq_true rfl) (Nat.le_of_ble_eq_true rfl) ?_
  refine x_restore (ax_iI E i 1) h hT (fun δ1 h1 f1 => ?_)
  refine go_aload_n (i := 2) dx_L_law_1501 rfl rfl ?_
  refine go_arg 1 dx_L_law_1502 dx_L_law_1503 dx_L_law_1504 dx_L_law_1505 dx_L_law_1506 hL (by omega) ?_
  refine go_lV1 sv_L_208 ⟨rfl, (Nat.le_of_ble_eq_true rfl)⟩ dx_L_law_1507 (Nat.le_of_ble_eq_true rfl) (Nat.le_of_ble_eq_true rfl) ?_
  refine n_restore (ax_iI E i 1) (mx_fc hm f1) (fun δ2 h2 f2 => ?_)
  refine go_icmpS (tgt := 1538) dx_L_law_1510 rfl ?_
  exact K δ2 _ (xk_fl h1 f2) h2
theorem lc_47 (hL : go_L E ≤ 3072) (hi : i + 6 ≤ go_L E) (hT : Tm < 2147483647) (h : xk_at Tm δ S) (hm : mx_at δ S) (K : ∀ δ' S', xk_at (Tm + 1) δ' S' → mx_at δ' S' → Go E (d + 20) lw_mm mx_L_law lw_φ 1538 (lvs i) [] δ' Q) : Go E (d + 20) lw_mm mx_L_law lw_φ 1515 (lvs i) [] δ Q := by
  refine go_aload_n (i := 1) dx_L_law_1515 rfl rfl ?_
  refine go_arg 1 dx_L_law_1516 dx_L_law_1517 dx_L_law_1518 dx_L_law_1519 dx_L_law_1520 hL (by omega) ?_
  refine go_lV1 sv_L_209 ⟨rfl, (Nat.le_of_ble_eq_true rfl)⟩ dx_L_law_1521 (Nat.le_of_ble_eq_true rfl) (Nat.le_of_ble_eq_true rfl) ?_
  refine x_count (ax_iI E i 1) h (fun δ1 h1 f1 => ?_)
  refine go_aload_n (i := 2) dx_L_law_1524 rfl rfl ?_
  refine go_arg 1 dx_L_law_1525 dx_L_law_1526 dx_L_law_1527 dx_L_law_1528 dx_L_law_1529 hL (by omega) ?_
  refine go_lV1 sv_L_212 ⟨rfl, (Nat.le_of_ble_eq_true rfl)⟩ dx_L_law_1530 (Nat.le_of_ble_eq_true rfl) (Nat.le_of_ble_eq_true rfl) ?_
  refine m_count (ax_iI E i 1) (mx_fc hm f1) (fun δ2 h2 f2 => ?_)
  refine go_icmpS (tgt := 1538) dx_L_law_1533 rfl ?_
  exact K δ2 _ (xk_fl (xk_mono h1 (by omega) (by omega)) f2) h2
theorem lc_all {k : Nat} (hk : k < 64) (hL : go_L E ≤ 3072) (hi : i + 6 ≤ go_L E) (hT : Tm < 2147483647) (h : xk_at Tm δ S) (hm : mx_at δ S) (K : ∀ δ' S', xk_at (Tm + 1) δ' S' → mx_at δ' S' → Go E (d + 20) lw_mm mx_L_law lw_φ 1538 (lvs i) [] δ' Q) : Go E (d + 20) lw_mm mx_L_law lw_φ 33 (lvs i) [vv_I (k : Int)] δ Q := by
  by_cases q0 : k = 0
  · subst q0
    exact go_tableIn (off := 207) (tgt := 240) dx_L_law_33 ⟨by omega, by omega⟩ (by omega) (by omega) rfl (by decide) (lc_0 hL hi hT h hm K)
  by_cases q1 : k = 1
  · subst q1
    exact go_tableIn (off := 270) (tgt := 303) dx_L_law_33 ⟨by omega, by omega⟩ (by omega) (by omega) rfl (by decide) (lc_1 hL hi hT h hm K)
  by_cases q2 : k = 2
  · subst q2
    exact go_tableIn (off := 293) (tgt := 326) dx_L_law_33 ⟨by omega, by omega⟩ (by omega) (by omega) rfl (by decide) (lc_2 hL hi hT h hm K)
  by_cases q3 : k = 3
  · subst q3
    exact go_tableIn (off := 316) (tgt := 349) dx_L_law_33 ⟨by omega, by omega⟩ (by omega) (by omega) rfl (by decide) (lc_3 hL hi hT h hm K)
  by_cases q4 : k = 4
  · subst q4
    exact go_tableIn (off := 339) (tgt := 372) dx_L_law_33 ⟨by omega, by omega⟩ (by omega) (by omega) rfl (by decide) (lc_4 hL hi hT h hm K)
  by_cases q5 : k = 5
  · subst q5
    exact go_tableIn (off := 362) (tgt := 395) dx_L_law_33 ⟨by omega, by omega⟩ (by omega) (by omega) rfl (by decide) (lc_5 hL hi hT h hm K)
  by_cases q6 : k = 6
  · subst q6
    exact go_tableIn (off := 385) (tgt := 418) dx_L_law_33 ⟨by omega, by omega⟩ (by omega) (by omega) rfl (by decide) (lc_6 hL hi hT h hm K)
  by_cases q7 : k = 7
  · subst q7
    exact go_tableIn (off := 418) (tgt := 451) dx_L_law_33 ⟨by omega, by omega⟩ (by omega) (by omega) rfl (by decide) (lc_7 hL hi hT h hm K)
  by_cases q8 : k = 8
  · subst q8
    exact go_tableIn (off := 431) (tgt := 464) dx_L_law_33 ⟨by omega, by omega⟩ (by omega) (by omega) rfl (by decide) (lc_8 hL hi hT h hm K)
  by_cases q9 : k = 9
  · subst q9
    exact go_tableIn (off := 464) (tgt := 497) dx_L_law_33 ⟨by omega, by omega⟩ (by omega) (by omega) rfl (by decide) (lc_9 hL hi hT h hm K)
  by_cases q10 : k = 10
  · subst q10
    exact go_tableIn (off := 497) (tgt := 530) dx_L_law_33 ⟨by omega, by omega⟩ (by omega) (by omega) rfl (by decide) (lc_10 hL hi hT h hm K)
  by_cases q11 : k = 11
  · subst q11
    exact go_tableIn (off := 520) (tgt := 553) dx_L_law_33 ⟨by omega, by omega⟩ (by omega) (by omega) rfl (by decide) (lc_11 hL hi hT h hm K)
  by_cases q12 : k = 12
  · subst q12
    exact go_tableIn (off := 533) (tgt := 566) dx_L_law_33 ⟨by omega, by omega⟩ (by omega) (by omega) rfl (by decide) (lc_12 hL hi hT h hm K)
  by_cases q13 : k = 13
  · subst q13
    exact go_tableIn (off := 556) (tgt := 589) dx_L_law_33 ⟨by omega, by omega⟩ (by omega) (by omega) rfl (by decide) (lc_13 hL hi hT h hm K)
  by_cases q14 : k = 14
  · subst q14
    exact go_tableIn (off := 579) (tgt := 612) dx_L_law_33 ⟨by omega, by omega⟩ (by omega) (by omega) rfl (by decide) (lc_14 hL hi hT h hm K)
  by_cases q15 : k = 15
  · subst q15
    exact go_tableIn (off := 613) (tgt := 646) dx_L_law_33 ⟨by omega, by omega⟩ (by omega) (by omega) rfl (by decide) (lc_15 hL hi hT h hm K)
  by_cases q16 : k = 16
  · subst q16
    exact go_tableIn (off := 626) (tgt := 659) dx_L_law_33 ⟨by omega, by omega⟩ (by omega) (by omega) rfl (by decide) (lc_16 hL hi hT h hm K)
  by_cases q17 : k = 17
  · subst q17
    exact go_tableIn (off := 669) (tgt := 702) dx_L_law_33 ⟨by omega, by omega⟩ (by omega) (by omega) rfl (by decide) (lc_17 hL hi hT h hm K)
  by_cases q18 : k = 18
  · subst q18
    exact go_tableIn (off := 682) (tgt := 715) dx_L_law_33 ⟨by omega, by omega⟩ (by omega) (by omega) rfl (by decide) (lc_18 hL hi hT h hm K)
  by_cases q19 : k = 19
  · subst q19
    exact go_tableIn (off := 725) (tgt := 758) dx_L_law_33 ⟨by omega, by omega⟩ (by omega) (by omega) rfl (by decide) (lc_19 hL hi hT h hm K)
  by_cases q20 : k = 20
  · subst q20
    exact go_tableIn (off := 778) (tgt := 811) dx_L_law_33 ⟨by omega, by omega⟩ (by omega) (by omega) rfl (by decide) (lc_20 hL hi hT h hm K)
  by_cases q21 : k = 21
  · subst q21
    exact go_tableIn (off := 811) (tgt := 844) dx_L_law_33 ⟨by omega, by omega⟩ (by omega) (by omega) rfl (by decide) (lc_21 hL hi hT h hm K)
  by_cases q22 : k = 22
  · subst q22
    exact go_tableIn (off := 844) (tgt := 877) dx_L_law_33 ⟨by omega, by omega⟩ (by omega) (by omega) rfl (by decide) (lc_22 hL hi hT h hm K)
  by_cases q23 : k = 23
  · subst q23
    exact go_tableIn (off := 888) (tgt := 921) dx_L_law_33 ⟨by omega, by omega⟩ (by omega) (by omega) rfl (by decide) (lc_23 hL hi hT h hm K)
  by_cases q24 : k = 24
  · subst q24
    exact go_tableIn (off := 911) (tgt := 944) dx_L_law_33 ⟨by omega, by omega⟩ (by omega) (by omega) rfl (by decide) (lc_24 hL hi hT h hm K)
  by_cases q25 : k = 25
  · subst q25
    exact go_tableIn (off := 924) (tgt := 957) dx_L_law_33 ⟨by omega, by omega⟩ (by omega) (by omega) rfl (by decide) (lc_25 hL hi hT h hm K)
  by_cases q26 : k = 26
  · subst q26
    exact go_tableIn (off := 957) (tgt := 990) dx_L_law_33 ⟨by omega, by omega⟩ (by omega) (by omega) rfl (by decide) (lc_26 hL hi hT h hm K)
  by_cases q27 : k = 27
  · subst q27
    exact go_tableIn (off := 1000) (tgt := 1033) dx_L_law_33 ⟨by omega, by omega⟩ (by omega) (by omega) rfl (by decide) (lc_27 hL hi hT h hm K)
  by_cases q28 : k = 28
  · subst q28
    exact go_tableIn (off := 1023) (tgt := 1056) dx_L_law_33 ⟨by omega, by omega⟩ (by omega) (by omega) rfl (by decide) (lc_28 hL hi hT h hm K)
  by_cases q29 : k = 29
  · subst q29
    exact go_tableIn (off := 1056) (tgt := 1089) dx_L_law_33 ⟨by omega, by omega⟩ (by omega) (by omega) rfl (by decide) (lc_29 hL hi hT h hm K)
  by_cases q30 : k = 30
  · subst q30
    exact go_tableIn (off := 1079) (tgt := 1112) dx_L_law_33 ⟨by omega, by omega⟩ (by omega) (by omega) rfl (by decide) (lc_30 hL hi hT h hm K)
  by_cases q31 : k = 31
  · subst q31
    exact go_tableIn (off := 1092) (tgt := 1125) dx_L_law_33 ⟨by omega, by omega⟩ (by omega) (by omega) rfl (by decide) (lc_31 hL hi hT h hm K)
  by_cases q32 : k = 32
  · subst q32
    exact go_tableIn (off := 1115) (tgt := 1148) dx_L_law_33 ⟨by omega, by omega⟩ (by omega) (by omega) rfl (by decide) (lc_32 hL hi hT h hm K)
  by_cases q33 : k = 33
  · subst q33
    exact go_tableIn (off := 1128) (tgt := 1161) dx_L_law_33 ⟨by omega, by omega⟩ (by omega) (by omega) rfl (by decide) (lc_33 hL hi hT h hm K)
  by_cases q34 : k = 34
  · subst q34
    exact go_tableIn (off := 1141) (tgt := 1174) dx_L_law_33 ⟨by omega, by omega⟩ (by omega) (by omega) rfl (by decide) (lc_34 hL hi hT h hm K)
  by_cases q35 : k = 35
  · subst q35
    exact go_tableIn (off := 1154) (tgt := 1187) dx_L_law_33 ⟨by omega, by omega⟩ (by omega) (by omega) rfl (by decide) (lc_35 hL hi hT h hm K)
  by_cases q36 : k = 36
  · subst q36
    exact go_tableIn (off := 1177) (tgt := 1210) dx_L_law_33 ⟨by omega, by omega⟩ (by omega) (by omega) rfl (by decide) (lc_36 hL hi hT h hm K)
  by_cases q37 : k = 37
  · subst q37
    exact go_tableIn (off := 1211) (tgt := 1244) dx_L_law_33 ⟨by omega, by omega⟩ (by omega) (by omega) rfl (by decide) (lc_37 hL hi hT h hm K)
  by_cases q38 : k = 38
  · subst q38
    exact go_tableIn (off := 1224) (tgt := 1257) dx_L_law_33 ⟨by omega, by omega⟩ (by omega) (by omega) rfl (by decide) (lc_38 hL hi hT h hm K)
  by_cases q39 : k = 39
  · subst q39
    exact go_tableIn (off := 1247) (tgt := 1280) dx_L_law_33 ⟨by omega, by omega⟩ (by omega) (by omega) rfl (by decide) (lc_39 hL hi hT h hm K)
  by_cases q40 : k = 40
  · subst q40
    exact go_tableIn (off := 1270) (tgt := 1303) dx_L_law_33 ⟨by omega, by omega⟩ (by omega) (by omega) rfl (by decide) (lc_40 hL hi hT h hm K)
  by_cases q41 : k = 41
  · subst q41
    exact go_tableIn (off := 1303) (tgt := 1336) dx_L_law_33 ⟨by omega, by omega⟩ (by omega) (by omega) rfl (by decide) (lc_41 hL hi hT h hm K)
  by_cases q42 : k = 42
  · subst q42
    exact go_tableIn (off := 1336) (tgt := 1369) dx_L_law_33 ⟨by omega, by omega⟩ (by omega) (by omega) rfl (by decide) (lc_42 hL hi hT h hm K)
  by_cases q43 : k = 43
  · subst q43
    exact go_tableIn (off := 1379) (tgt := 1412) dx_L_law_33 ⟨by omega, by omega⟩ (by omega) (by omega) rfl (by decide) (lc_43 hL hi hT h hm K)
  by_cases q44 : k = 44
  · subst q44
    exact go_tableIn (off := 1413) (tgt := 1446) dx_L_law_33 ⟨by omega, by omega⟩ (by omega) (by omega) rfl (by decide) (lc_44 hL hi hT h hm K)
  by_cases q45 : k = 45
  · subst q45
    exact go_tableIn (off := 1436) (tgt := 1469) dx_L_law_33 ⟨by omega, by omega⟩ (by omega) (by omega) rfl (by decide) (lc_45 hL hi hT h hm K)
  by_cases q46 : k = 46
  · subst q46
    exact go_tableIn (off := 1459) (tgt := 1492) dx_L_law_33 ⟨by omega, by omega⟩ (by omega) (by omega) rfl (by decide) (lc_46 hL hi hT h hm K)
  by_cases q47 : k = 47
  · subst q47
    exact go_tableIn (off := 1482) (tgt := 1515) dx_L_law_33 ⟨by omega, by omega⟩ (by omega) (by omega) rfl (by decide) (lc_47 hL hi hT h hm K)
  exact go_tableOut (tgt := 1538) dx_L_law_33 ⟨by omega, by omega⟩ (by omega) (by decide) (K δ S (xk_mono h (by omega) (by omega)) hm)
/-- the loop over the script -/
theorem lw_loop (hL : go_L E ≤ 3072) (hQ : ∀ δ, Q [vv_I 1] lw_φ δ) : ∀ (n i : Nat) (δ : Nat → Nat → Int) (S : sS), go_L E ≤ i + n → i ≤ 3078 → xk_at (1 + (i : Int)) δ S → mx_at δ S → Go E (d + 20) lw_mm mx_L_law lw_φ 18 (lvs i) [] δ Q := by
  intro n
  induction n using Nat.strongRecOn with
  | ind n ih =>
    intro i δ S hn hi h hm
    refine go_iload_n (i := 3) dx_L_law_18 rfl rfl ?_
    refine go_aload_nS (i := 0) (j := 2) dx_L_law_19 rfl rfl ?_
    refine go_slen3 dx_L_law_20 ?_
    refine go_bipush dx_L_law_21 rfl ?_
    refine go_isub dx_L_law_23 ?_
    refine go_icmp_gt (tgt := 1544) dx_L_law_24 rfl ⟨by omega, by omega⟩ ⟨by omega, by omega⟩ (fun c => ?_) (fun c => ?_)
    · refine go_iconst dx_L_law_1544 ?_
      exact go_zreturn dx_L_law_1545 rfl (Or.inr rfl) (Nat.le_refl _) (Nat.le_refl _) (hQ δ)
    · refine go_aload_nS (i := 0) (j := 2) dx_L_law_27 rfl rfl ?_
      refine go_iload_n (i := 3) dx_L_law_28 rfl rfl ?_
      refine go_sld3 dx_L_law_29 (by omega) (by omega) (by omega) ?_
      refine go_bipush dx_L_law_30 rfl ?_
      refine go_iand dx_L_law_32 ?_
      obtain ⟨k, hk, ek⟩ := bv_and63 (go_xs E ((i : Int)).toNat).toInt
      refine go_asI (y := (k : Int)) ek ?_
      refine lc_all hk hL (by omega) (by omega) h hm (fun δ' S' h' hm' => ?_)
      refine go_iinc (lv' := lvs (i + 6)) dx_L_law_1538 rfl (by decide) (by rfl) ?_
      refine go_goto (tgt := 18) dx_L_law_1541 rfl ?_
      exact ih (n - 6) (by omega) (i + 6) δ' S' (by omega) (by omega) (xk_mono h' (by omega) (by omega)) hm'
end GLCASE
