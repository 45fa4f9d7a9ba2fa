/-! ===== the law's own loop ===== -/
section Law
variable {G : GT} {K : KT} {M : MT} {b L i : Nat} {xs : Nat → Int32} {pc : Nat} {ls : List (Option Value)} {st : List Value}
/-- the script lies where it lay -/
def SC (G : GT) (K : KT) (b L : Nat) (xs : Nat → Int32) : Prop := va_X b L xs (gS G) (gS G).heap ∧ b < (gS G).heap.size ∧ ¬ aK K b
theorem r_sld {x : Int32} {j : Nat} (hG : GF G K RL cL_law 13) (hX : SC G K b L xs) (hd : decode cL_law pc = .ok (.iaload, 1)) (hx : ix x L j) (kk : J G K M (pc + 1) ls (.int (xs j) :: st)) : J G K M pc ls (.int x :: .ref b :: st) := by
  intro hn H locs lc hP hS hl
  refine va_sld hG.1 hG.2.1 hX.1 hX.2.1 hX.2.2 hS hx.1 hd ?_
  rw [hx.2.1]
  exact kk hn H locs lc hP hS hl
theorem r_slen (hG : GF G K RL cL_law 13) (hX : SC G K b L xs) (hd : decode cL_law pc = .ok (.arraylength, 1)) (kk : J G K M (pc + 1) ls (.int (nI L) :: st)) : J G K M pc ls (.ref b :: st) := by
  intro hn H locs lc hP hS hl
  exact va_slen hG.1 hG.2.1 hX.1 hX.2.1 hX.2.2 hS hd (kk hn H locs lc hP hS hl)
theorem ix_sc {c : Nat} (hi : i + 6 ≤ L) (hL : L ≤ 3072) (hc : c < 6) : ix (nI i + nI c) L (i + c) := by
  rw [show nI i + nI c = nI (i + c) from nI_add _ _]
  exact ix_nI (by omega) (by omega)
/-- behind a round -/
def NX (G : GT) (K : KT) (b i : Nat) : Prop := ∀ M', OKX M' → R2 M' M' → J G K M' 2152 [some (.ref b), some (rf K 0), some (rf K 140), some (.int (nI i))] []
theorem law_0 (hG : GF G K RL cL_law 13) (hX : SC G K b L xs) (hL : L ≤ 3072) (hi : i + 6 ≤ L) (hx : OKX M) (hr : R2 M M) (hn : NX G K b i) : J G K M 284 [some (.ref b), some (rf K 0), some (rf K 140), some (.int (nI i))] [] := by
  refine r_aload_n (pc := 284) hG dL_law_284 rfl ?_
  refine r_aloadR (pc := 285) hG dL_law_285 rfl ?_
  refine r_iload_n (pc := 286) hG dL_law_286 rfl ?_
  refine r_iconst (v := nI 1) (pc := 287) hG dL_law_287 rfl ?_
  refine r_iadd (pc := 288) hG dL_law_288 ?_
  refine r_sld (pc := 289) (j := i + 1) hG hX dL_law_289 (ix_sc hi hL (by omega)) ?_
  refine r_aloadR (pc := 290) hG dL_law_290 rfl ?_
  refine r_iload_n (pc := 291) hG dL_law_291 rfl ?_
  refine r_iconst (v := nI 2) (pc := 292) hG dL_law_292 rfl ?_
  refine r_iadd (pc := 293) hG dL_law_293 ?_
  refine r_sld (pc := 294) (j := i + 2) hG hX dL_law_294 (ix_sc hi hL (by omega)) ?_
  refine r_aloadR (pc := 295) hG dL_law_295 rfl ?_
  refine r_iload_n (pc := 296) hG dL_law_296 rfl ?_
  refine r_iconst (v := nI 3) (pc := 297) hG dL_law_297 rfl ?_
  refine r_iadd (pc := 298) hG dL_law_298 ?_
  refine r_sld (pc := 299) (j := i + 3) hG hX dL_law_299 (ix_sc hi hL (by omega)) ?_
  obtain ⟨q1, q2, q3, q4⟩ := fin_row hx hr (a0 := (xs (i + 1))) (a1 := (xs (i + 2))) (a2 := (xs (i + 3)))
  refine cv_X8_row (pc := 300) hG dL_law_300 tw_380 (c_X8_row hx) (by decide) (Nat.le_of_ble_eq_true rfl) ?_
  generalize sp_X8_row M (xs (i + 1)) (xs (i + 2)) (xs (i + 3)) = p at q1 q2 q3 q4 ⊢
  refine r_aload_n (pc := 303) hG dL_law_303 rfl ?_
  refine r_aloadR (pc := 304) hG dL_law_304 rfl ?_
  refine r_iload_n (pc := 305) hG dL_law_305 rfl ?_
  refine r_iconst (v := nI 1) (pc := 306) hG dL_law_306 rfl ?_
  refine r_iadd (pc := 307) hG dL_law_307 ?_
  refine r_sld (pc := 308) (j := i + 1) hG hX dL_law_308 (ix_sc hi hL (by omega)) ?_
  refine r_aloadR (pc := 309) hG dL_law_309 rfl ?_
  refine r_iload_n (pc := 310) hG dL_law_310 rfl ?_
  refine r_iconst (v := nI 2) (pc := 311) hG dL_law_311 rfl ?_
  refine r_iadd (pc := 312) hG dL_law_312 ?_
  refine r_sld (pc := 313) (j := i + 2) hG hX dL_law_313 (ix_sc hi hL (by omega)) ?_
  refine r_aloadR (pc := 314) hG dL_law_314 rfl ?_
  refine r_iload_n (pc := 315) hG dL_law_315 rfl ?_
  refine r_iconst (v := nI 3) (pc := 316) hG dL_law_316 rfl ?_
  refine r_iadd (pc := 317) hG dL_law_317 ?_
  refine r_sld (pc := 318) (j := i + 3) hG hX dL_law_318 (ix_sc hi hL (by omega)) ?_
  refine cv_X9_row (pc := 319) hG dL_law_319 tw_1263 (c_X9_row q1) (by decide) (Nat.le_of_ble_eq_true rfl) ?_
  generalize sp_X9_row p.2 (xs (i + 1)) (xs (i + 2)) (xs (i + 3)) = q at q2 q3 q4 ⊢
  refine r_icmp_eq (pc := 322) (tgt := 2152) hG dL_law_322 (by decide) (fun _ => hn _ q3 q4) (fun c => absurd q2 c)
theorem law_1 (hG : GF G K RL cL_law 13) (hX : SC G K b L xs) (hL : L ≤ 3072) (hi : i + 6 ≤ L) (hx : OKX M) (hr : R2 M M) (hn : NX G K b i) : J G K M 327 [some (.ref b), some (rf K 0), some (rf K 140), some (.int (nI i))] [] := by
  refine r_aload_n (pc := 327) hG dL_law_327 rfl ?_
  refine r_aloadR (pc := 328) hG dL_law_328 rfl ?_
  refine r_iload_n (pc := 329) hG dL_law_329 rfl ?_
  refine r_iconst (v := nI 1) (pc := 330) hG dL_law_330 rfl ?_
  refine r_iadd (pc := 331) hG dL_law_331 ?_
  refine r_sld (pc := 332) (j := i + 1) hG hX dL_law_332 (ix_sc hi hL (by omega)) ?_
  refine r_aloadR (pc := 333) hG dL_law_333 rfl ?_
  refine r_iload_n (pc := 334) hG dL_law_334 rfl ?_
  refine r_iconst (v := nI 2) (pc := 335) hG dL_law_335 rfl ?_
  refine r_iadd (pc := 336) hG dL_law_336 ?_
  refine r_sld (pc := 337) (j := i + 2) hG hX dL_law_337 (ix_sc hi hL (by omega)) ?_
  refine r_aloadR (pc := 338) hG dL_law_338 rfl ?_
  refine r_iload_n (pc := 339) hG dL_law_339 rfl ?_
  refine r_iconst (v := nI 3) (pc := 340) hG dL_law_340 rfl ?_
  refine r_iadd (pc := 341) hG dL_law_341 ?_
  refine r_sld (pc := 342) (j := i + 3) hG hX dL_law_342 (ix_sc hi hL (by omega)) ?_
  refine r_i2l (pc := 343) hG dL_law_343 ?_
  refine r_bipush (v := 32) (pc := 344) hG dL_law_344 rfl ?_
  refine r_lshl (pc := 346) hG dL_law_346 ?_
  refine r_aloadR (pc := 347) hG dL_law_347 rfl ?_
  refine r_iload_n (pc := 348) hG dL_law_348 rfl ?_
  refine r_iconst (v := nI 4) (pc := 349) hG dL_law_349 rfl ?_
  refine r_iadd (pc := 350) hG dL_law_350 ?_
  refine r_sld (pc := 351) (j := i + 4) hG hX dL_law_351 (ix_sc hi hL (by omega)) ?_
  refine r_i2l (pc := 352) hG dL_law_352 ?_
  refine r_ldc2 (pc := 353) hG dL_law_353 tw_1711 ?_
  refine r_land (pc := 356) hG dL_law_356 ?_
  refine r_lor (pc := 357) hG dL_law_357 ?_
  obtain ⟨q1, q2, q3, q4⟩ := fin_set hx hr (a0 := (xs (i + 1))) (a1 := (xs (i + 2))) (a2 := ((Int32.toInt64 (xs (i + 3)) <<< ((32 : Int32).toInt64 &&& 63)) ||| (Int32.toInt64 (xs (i + 4)) &&& 4294967295)))
  refine cv_X8_set (pc := 358) hG dL_law_358 tw_398 (c_X8_set hx) (by decide) (Nat.le_of_ble_eq_true rfl) ?_
  generalize sp_X8_set M (xs (i + 1)) (xs (i + 2)) ((Int32.toInt64 (xs (i + 3)) <<< ((32 : Int32).toInt64 &&& 63)) ||| (Int32.toInt64 (xs (i + 4)) &&& 4294967295)) = p at q1 q2 q3 q4 ⊢
  refine r_aload_n (pc := 361) hG dL_law_361 rfl ?_
  refine r_aloadR (pc := 362) hG dL_law_362 rfl ?_
  refine r_iload_n (pc := 363) hG dL_law_363 rfl ?_
  refine r_iconst (v := nI 1) (pc := 364) hG dL_law_364 rfl ?_
  refine r_iadd (pc := 365) hG dL_law_365 ?_
  refine r_sld (pc := 366) (j := i + 1) hG hX dL_law_366 (ix_sc hi hL (by omega)) ?_
  refine r_aloadR (pc := 367) hG dL_law_367 rfl ?_
  refine r_iload_n (pc := 368) hG dL_law_368 rfl ?_
  refine r_iconst (v := nI 2) (pc := 369) hG dL_law_369 rfl ?_
  refine r_iadd (pc := 370) hG dL_law_370 ?_
  refine r_sld (pc := 371) (j := i + 2) hG hX dL_law_371 (ix_sc hi hL (by omega)) ?_
  refine r_aloadR (pc := 372) hG dL_law_372 rfl ?_
  refine r_iload_n (pc := 373) hG dL_law_373 rfl ?_
  refine r_iconst (v := nI 3) (pc := 374) hG dL_law_374 rfl ?_
  refine r_iadd (pc := 375) hG dL_law_375 ?_
  refine r_sld (pc := 376) (j := i + 3) hG hX dL_law_376 (ix_sc hi hL (by omega)) ?_
  refine r_i2l (pc := 377) hG dL_law_377 ?_
  refine r_bipush (v := 32) (pc := 378) hG dL_law_378 rfl ?_
  refine r_lshl (pc := 380) hG dL_law_380 ?_
  refine r_aloadR (pc := 381) hG dL_law_381 rfl ?_
  refine r_iload_n (pc := 382) hG dL_law_382 rfl ?_
  refine r_iconst (v := nI 4) (pc := 383) hG dL_law_383 rfl ?_
  refine r_iadd (pc := 384) hG dL_law_384 ?_
  refine r_sld (pc := 385) (j := i + 4) hG hX dL_law_385 (ix_sc hi hL (by omega)) ?_
  refine r_i2l (pc := 386) hG dL_law_386 ?_
  refine r_ldc2 (pc := 387) hG dL_law_387 tw_1711 ?_
  refine r_land (pc := 390) hG dL_law_390 ?_
  refine r_lor (pc := 391) hG dL_law_391 ?_
  refine cv_X9_set (pc := 392) hG dL_law_392 tw_1277 (c_X9_set q1) (by decide) (Nat.le_of_ble_eq_true rfl) ?_
  generalize sp_X9_set p.2 (xs (i + 1)) (xs (i + 2)) ((Int32.toInt64 (xs (i + 3)) <<< ((32 : Int32).toInt64 &&& 63)) ||| (Int32.toInt64 (xs (i + 4)) &&& 4294967295)) = q at q2 q3 q4 ⊢
  refine r_icmp_eq (pc := 395) (tgt := 2152) hG dL_law_395 (by decide) (fun _ => hn _ q3 q4) (fun c => absurd q2 c)
theorem law_2 (hG : GF G K RL cL_law 13) (hX : SC G K b L xs) (hL : L ≤ 3072) (hi : i + 6 ≤ L) (hx : OKX M) (hr : R2 M M) (hn : NX G K b i) : J G K M 400 [some (.ref b), some (rf K 0), some (rf K 140), some (.int (nI i))] [] := by
  refine r_aload_n (pc := 400) hG dL_law_400 rfl ?_
  refine r_aloadR (pc := 401) hG dL_law_401 rfl ?_
  refine r_iload_n (pc := 402) hG dL_law_402 rfl ?_
  refine r_iconst (v := nI 1) (pc := 403) hG dL_law_403 rfl ?_
  refine r_iadd (pc := 404) hG dL_law_404 ?_
  refine r_sld (pc := 405) (j := i + 1) hG hX dL_law_405 (ix_sc hi hL (by omega)) ?_
  refine r_aloadR (pc := 406) hG dL_law_406 rfl ?_
  refine r_iload_n (pc := 407) hG dL_law_407 rfl ?_
  refine r_iconst (v := nI 2) (pc := 408) hG dL_law_408 rfl ?_
  refine r_iadd (pc := 409) hG dL_law_409 ?_
  refine r_sld (pc := 410) (j := i + 2) hG hX dL_law_410 (ix_sc hi hL (by omega)) ?_
  refine r_aloadR (pc := 411) hG dL_law_411 rfl ?_
  refine r_iload_n (pc := 412) hG dL_law_412 rfl ?_
  refine r_iconst (v := nI 3) (pc := 413) hG dL_law_413 rfl ?_
  refine r_iadd (pc := 414) hG dL_law_414 ?_
  refine r_sld (pc := 415) (j := i + 3) hG hX dL_law_415 (ix_sc hi hL (by omega)) ?_
  refine r_aloadR (pc := 416) hG dL_law_416 rfl ?_
  refine r_iload_n (pc := 417) hG dL_law_417 rfl ?_
  refine r_iconst (v := nI 4) (pc := 418) hG dL_law_418 rfl ?_
  refine r_iadd (pc := 419) hG dL_law_419 ?_
  refine r_sld (pc := 420) (j := i + 4) hG hX dL_law_420 (ix_sc hi hL (by omega)) ?_
  refine r_aloadR (pc := 421) hG dL_law_421 rfl ?_
  refine r_iload_n (pc := 422) hG dL_law_422 rfl ?_
  refine r_iconst (v := nI 5) (pc := 423) hG dL_law_423 rfl ?_
  refine r_iadd (pc := 424) hG dL_law_424 ?_
  refine r_sld (pc := 425) (j := i + 5) hG hX dL_law_425 (ix_sc hi hL (by omega)) ?_
  obtain ⟨q1, q2, q3, q4⟩ := fin_copy hx hr (a0 := (xs (i + 1))) (a1 := (xs (i + 2))) (a2 := (xs (i + 3))) (a3 := (xs (i + 4))) (a4 := (xs (i + 5)))
  refine cv_X8_copy (pc := 426) hG dL_law_426 tw_415 (c_X8_copy hx) (by decide) (Nat.le_of_ble_eq_true rfl) ?_
  generalize sp_X8_copy M (xs (i + 1)) (xs (i + 2)) (xs (i + 3)) (xs (i + 4)) (xs (i + 5)) = p at q1 q2 q3 q4 ⊢
  refine r_aload_n (pc := 429) hG dL_law_429 rfl ?_
  refine r_aloadR (pc := 430) hG dL_law_430 rfl ?_
  refine r_iload_n (pc := 431) hG dL_law_431 rfl ?_
  refine r_iconst (v := nI 1) (pc := 432) hG dL_law_432 rfl ?_
  refine r_iadd (pc := 433) hG dL_law_433 ?_
  refine r_sld (pc := 434) (j := i + 1) hG hX dL_law_434 (ix_sc hi hL (by omega)) ?_
  refine r_aloadR (pc := 435) hG dL_law_435 rfl ?_
  refine r_iload_n (pc := 436) hG dL_law_436 rfl ?_
  refine r_iconst (v := nI 2) (pc := 437) hG dL_law_437 rfl ?_
  refine r_iadd (pc := 438) hG dL_law_438 ?_
  refine r_sld (pc := 439) (j := i + 2) hG hX dL_law_439 (ix_sc hi hL (by omega)) ?_
  refine r_aloadR (pc := 440) hG dL_law_440 rfl ?_
  refine r_iload_n (pc := 441) hG dL_law_441 rfl ?_
  refine r_iconst (v := nI 3) (pc := 442) hG dL_law_442 rfl ?_
  refine r_iadd (pc := 443) hG dL_law_443 ?_
  refine r_sld (pc := 444) (j := i + 3) hG hX dL_law_444 (ix_sc hi hL (by omega)) ?_
  refine r_aloadR (pc := 445) hG dL_law_445 rfl ?_
  refine r_iload_n (pc := 446) hG dL_law_446 rfl ?_
  refine r_iconst (v := nI 4) (pc := 447) hG dL_law_447 rfl ?_
  refine r_iadd (pc := 448) hG dL_law_448 ?_
  refine r_sld (pc := 449) (j := i + 4) hG hX dL_law_449 (ix_sc hi hL (by omega)) ?_
  refine r_aloadR (pc := 450) hG dL_law_450 rfl ?_
  refine r_iload_n (pc := 451) hG dL_law_451 rfl ?_
  refine r_iconst (v := nI 5) (pc := 452) hG dL_law_452 rfl ?_
  refine r_iadd (pc := 453) hG dL_law_453 ?_
  refine r_sld (pc := 454) (j := i + 5) hG hX dL_law_454 (ix_sc hi hL (by omega)) ?_
  refine cv_X9_copy (pc := 455) hG dL_law_455 tw_1292 (c_X9_copy q1) (by decide) (Nat.le_of_ble_eq_true rfl) ?_
  generalize sp_X9_copy p.2 (xs (i + 1)) (xs (i + 2)) (xs (i + 3)) (xs (i + 4)) (xs (i + 5)) = q at q2 q3 q4 ⊢
  refine r_icmp_eq (pc := 458) (tgt := 2152) hG dL_law_458 (by decide) (fun _ => hn _ q3 q4) (fun c => absurd q2 c)
theorem law_3 (hG : GF G K RL cL_law 13) (hX : SC G K b L xs) (hL : L ≤ 3072) (hi : i + 6 ≤ L) (hx : OKX M) (hr : R2 M M) (hn : NX G K b i) : J G K M 463 [some (.ref b), some (rf K 0), some (rf K 140), some (.int (nI i))] [] := by
  refine r_aload_n (pc := 463) hG dL_law_463 rfl ?_
  refine r_aloadR (pc := 464) hG dL_law_464 rfl ?_
  refine r_iload_n (pc := 465) hG dL_law_465 rfl ?_
  refine r_iconst (v := nI 1) (pc := 466) hG dL_law_466 rfl ?_
  refine r_iadd (pc := 467) hG dL_law_467 ?_
  refine r_sld (pc := 468) (j := i + 1) hG hX dL_law_468 (ix_sc hi hL (by omega)) ?_
  refine r_aloadR (pc := 469) hG dL_law_469 rfl ?_
  refine r_iload_n (pc := 470) hG dL_law_470 rfl ?_
  refine r_iconst (v := nI 2) (pc := 471) hG dL_law_471 rfl ?_
  refine r_iadd (pc := 472) hG dL_law_472 ?_
  refine r_sld (pc := 473) (j := i + 2) hG hX dL_law_473 (ix_sc hi hL (by omega)) ?_
  obtain ⟨q1, q2, q3, q4⟩ := fin_element hx hr (a0 := (xs (i + 1))) (a1 := (xs (i + 2)))
  refine cv_X8_element (pc := 474) hG dL_law_474 tw_426 (c_X8_element hx) (by decide) (Nat.le_of_ble_eq_true rfl) ?_
  generalize sp_X8_element M (xs (i + 1)) (xs (i + 2)) = p at q1 q2 q3 q4 ⊢
  refine r_aload_n (pc := 477) hG dL_law_477 rfl ?_
  refine r_aloadR (pc := 478) hG dL_law_478 rfl ?_
  refine r_iload_n (pc := 479) hG dL_law_479 rfl ?_
  refine r_iconst (v := nI 1) (pc := 480) hG dL_law_480 rfl ?_
  refine r_iadd (pc := 481) hG dL_law_481 ?_
  refine r_sld (pc := 482) (j := i + 1) hG hX dL_law_482 (ix_sc hi hL (by omega)) ?_
  refine r_aloadR (pc := 483) hG dL_law_483 rfl ?_
  refine r_iload_n (pc := 484) hG dL_law_484 rfl ?_
  refine r_iconst (v := nI 2) (pc := 485) hG dL_law_485 rfl ?_
  refine r_iadd (pc := 486) hG dL_law_486 ?_
  refine r_sld (pc := 487) (j := i + 2) hG hX dL_law_487 (ix_sc hi hL (by omega)) ?_
  refine cv_X9_element (pc := 488) hG dL_law_488 tw_1296 (c_X9_element q1) (by decide) (Nat.le_of_ble_eq_true rfl) ?_
  generalize sp_X9_element p.2 (xs (i + 1)) (xs (i + 2)) = q at q2 q3 q4 ⊢
  refine r_lcmp (pc := 491) hG dL_law_491 ?_
  refine r_lc_eq (pc := 492) (tgt := 2152) hG dL_law_492 (by decide) (fun _ => hn _ q3 q4) (fun c => absurd q2 c)
theorem law_4 (hG : GF G K RL cL_law 13) (hX : SC G K b L xs) (hL : L ≤ 3072) (hi : i + 6 ≤ L) (hx : OKX M) (hr : R2 M M) (hn : NX G K b i) : J G K M 497 [some (.ref b), some (rf K 0), some (rf K 140), some (.int (nI i))] [] := by
  refine r_aload_n (pc := 497) hG dL_law_497 rfl ?_
  refine r_aloadR (pc := 498) hG dL_law_498 rfl ?_
  refine r_iload_n (pc := 499) hG dL_law_499 rfl ?_
  refine r_iconst (v := nI 1) (pc := 500) hG dL_law_500 rfl ?_
  refine r_iadd (pc := 501) hG dL_law_501 ?_
  refine r_sld (pc := 502) (j := i + 1) hG hX dL_law_502 (ix_sc hi hL (by omega)) ?_
  obtain ⟨q1, q2, q3, q4⟩ := fin_holds hx hr (a0 := (xs (i + 1)))
  refine cv_X8_holds (pc := 503) hG dL_law_503 tw_430 (c_X8_holds hx) (by decide) (Nat.le_of_ble_eq_true rfl) ?_
  generalize sp_X8_holds M (xs (i + 1)) = p at q1 q2 q3 q4 ⊢
  refine r_aload_n (pc := 506) hG dL_law_506 rfl ?_
  refine r_aloadR (pc := 507) hG dL_law_507 rfl ?_
  refine r_iload_n (pc := 508) hG dL_law_508 rfl ?_
  refine r_iconst (v := nI 1) (pc := 509) hG dL_law_509 rfl ?_
  refine r_iadd (pc := 510) hG dL_law_510 ?_
  refine r_sld (pc := 511) (j := i + 1) hG hX dL_law_511 (ix_sc hi hL (by omega)) ?_
  refine cv_X9_holds (pc := 512) hG dL_law_512 tw_1300 (c_X9_holds q1) (by decide) (Nat.le_of_ble_eq_true rfl) ?_
  generalize sp_X9_holds p.2 (xs (i + 1)) = q at q2 q3 q4 ⊢
  refine r_icmp_eq (pc := 515) (tgt := 2152) hG dL_law_515 (by decide) (fun _ => hn _ q3 q4) (fun c => absurd q2 c)
theorem law_5 (hG : GF G K RL cL_law 13) (hX : SC G K b L xs) (hL : L ≤ 3072) (hi : i + 6 ≤ L) (hx : OKX M) (hr : R2 M M) (hn : NX G K b i) : J G K M 520 [some (.ref b), some (rf K 0), some (rf K 140), some (.int (nI i))] [] := by
  refine r_aload_n (pc := 520) hG dL_law_520 rfl ?_
  refine r_aloadR (pc := 521) hG dL_law_521 rfl ?_
  refine r_iload_n (pc := 522) hG dL_law_522 rfl ?_
  refine r_iconst (v := nI 1) (pc := 523) hG dL_law_523 rfl ?_
  refine r_iadd (pc := 524) hG dL_law_524 ?_
  refine r_sld (pc := 525) (j := i + 1) hG hX dL_law_525 (ix_sc hi hL (by omega)) ?_
  refine r_aloadR (pc := 526) hG dL_law_526 rfl ?_
  refine r_iload_n (pc := 527) hG dL_law_527 rfl ?_
  refine r_iconst (v := nI 2) (pc := 528) hG dL_law_528 rfl ?_
  refine r_iadd (pc := 529) hG dL_law_529 ?_
  refine r_sld (pc := 530) (j := i + 2) hG hX dL_law_530 (ix_sc hi hL (by omega)) ?_
  obtain ⟨q1, q2, q3, q4⟩ := fin_show hx hr (a0 := (xs (i + 1))) (a1 := (xs (i + 2)))
  refine cv_X8_show (pc := 531) hG dL_law_531 tw_438 (c_X8_show hx) (by decide) (Nat.le_of_ble_eq_true rfl) ?_
  generalize sp_X8_show M (xs (i + 1)) (xs (i + 2)) = p at q1 q2 q3 q4 ⊢
  refine r_aload_n (pc := 534) hG dL_law_534 rfl ?_
  refine r_aloadR (pc := 535) hG dL_law_535 rfl ?_
  refine r_iload_n (pc := 536) hG dL_law_536 rfl ?_
  refine r_iconst (v := nI 1) (pc := 537) hG dL_law_537 rfl ?_
  refine r_iadd (pc := 538) hG dL_law_538 ?_
  refine r_sld (pc := 539) (j := i + 1) hG hX dL_law_539 (ix_sc hi hL (by omega)) ?_
  refine r_aloadR (pc := 540) hG dL_law_540 rfl ?_
  refine r_iload_n (pc := 541) hG dL_law_541 rfl ?_
  refine r_iconst (v := nI 2) (pc := 542) hG dL_law_542 rfl ?_
  refine r_iadd (pc := 543) hG dL_law_543 ?_
  refine r_sld (pc := 544) (j := i + 2) hG hX dL_law_544 (ix_sc hi hL (by omega)) ?_
  refine cv_X9_show (pc := 545) hG dL_law_545 tw_1304 (c_X9_show q1) (by decide) (Nat.le_of_ble_eq_true rfl) ?_
  generalize sp_X9_show p.2 (xs (i + 1)) (xs (i + 2)) = q at q2 q3 q4 ⊢
  refine r_icmp_eq (pc := 548) (tgt := 2152) hG dL_law_548 (by decide) (fun _ => hn _ q3 q4) (fun c => absurd q2 c)
theorem law_6 (hG : GF G K RL cL_law 13) (hX : SC G K b L xs) (hL : L ≤ 3072) (hi : i + 6 ≤ L) (hx : OKX M) (hr : R2 M M) (hn : NX G K b i) : J G K M 553 [some (.ref b), some (rf K 0), some (rf K 140), some (.int (nI i))] [] := by
  refine r_aload_n (pc := 553) hG dL_law_553 rfl ?_
  refine r_aloadR (pc := 554) hG dL_law_554 rfl ?_
  refine r_iload_n (pc := 555) hG dL_law_555 rfl ?_
  refine r_iconst (v := nI 1) (pc := 556) hG dL_law_556 rfl ?_
  refine r_iadd (pc := 557) hG dL_law_557 ?_
  refine r_sld (pc := 558) (j := i + 1) hG hX dL_law_558 (ix_sc hi hL (by omega)) ?_
  refine r_aloadR (pc := 559) hG dL_law_559 rfl ?_
  refine r_iload_n (pc := 560) hG dL_law_560 rfl ?_
  refine r_iconst (v := nI 2) (pc := 561) hG dL_law_561 rfl ?_
  refine r_iadd (pc := 562) hG dL_law_562 ?_
  refine r_sld (pc := 563) (j := i + 2) hG hX dL_law_563 (ix_sc hi hL (by omega)) ?_
  obtain ⟨q1, q2, q3, q4⟩ := fin_says hx hr (a0 := (xs (i + 1))) (a1 := (xs (i + 2)))
  refine cv_X8_says (pc := 564) hG dL_law_564 tw_451 (c_X8_says hx) (by decide) (Nat.le_of_ble_eq_true rfl) ?_
  generalize sp_X8_says M (xs (i + 1)) (xs (i + 2)) = p at q1 q2 q3 q4 ⊢
  refine r_aload_n (pc := 567) hG dL_law_567 rfl ?_
  refine r_aloadR (pc := 568) hG dL_law_568 rfl ?_
  refine r_iload_n (pc := 569) hG dL_law_569 rfl ?_
  refine r_iconst (v := nI 1) (pc := 570) hG dL_law_570 rfl ?_
  refine r_iadd (pc := 571) hG dL_law_571 ?_
  refine r_sld (pc := 572) (j := i + 1) hG hX dL_law_572 (ix_sc hi hL (by omega)) ?_
  refine r_aloadR (pc := 573) hG dL_law_573 rfl ?_
  refine r_iload_n (pc := 574) hG dL_law_574 rfl ?_
  refine r_iconst (v := nI 2) (pc := 575) hG dL_law_575 rfl ?_
  refine r_iadd (pc := 576) hG dL_law_576 ?_
  refine r_sld (pc := 577) (j := i + 2) hG hX dL_law_577 (ix_sc hi hL (by omega)) ?_
  refine cv_X9_says (pc := 578) hG dL_law_578 tw_1312 (c_X9_says q1) (by decide) (Nat.le_of_ble_eq_true rfl) ?_
  generalize sp_X9_says p.2 (xs (i + 1)) (xs (i + 2)) = q at q2 q3 q4 ⊢
  refine r_icmp_eq (pc := 581) (tgt := 2152) hG dL_law_581 (by decide) (fun _ => hn _ q3 q4) (fun c => absurd q2 c)
theorem law_7 (hG : GF G K RL cL_law 13) (hX : SC G K b L xs) (hL : L ≤ 3072) (hi : i + 6 ≤ L) (hx : OKX M) (hr : R2 M M) (hn : NX G K b i) : J G K M 586 [some (.ref b), some (rf K 0), some (rf K 140), some (.int (nI i))] [] := by
  refine r_aload_n (pc := 586) hG dL_law_586 rfl ?_
  refine r_aloadR (pc := 587) hG dL_law_587 rfl ?_
  refine r_iload_n (pc := 588) hG dL_law_588 rfl ?_
  refine r_iconst (v := nI 1) (pc := 589) hG dL_law_589 rfl ?_
  refine r_iadd (pc := 590) hG dL_law_590 ?_
  refine r_sld (pc := 591) (j := i + 1) hG hX dL_law_591 (ix_sc hi hL (by omega)) ?_
  obtain ⟨q1, q2, q3, q4⟩ := fin_paves hx hr (a0 := (xs (i + 1)))
  refine cv_X8_paves (pc := 592) hG dL_law_592 tw_467 (c_X8_paves hx) (by decide) (Nat.le_of_ble_eq_true rfl) ?_
  generalize sp_X8_paves M (xs (i + 1)) = p at q1 q2 q3 q4 ⊢
  refine r_aload_n (pc := 595) hG dL_law_595 rfl ?_
  refine r_aloadR (pc := 596) hG dL_law_596 rfl ?_
  refine r_iload_n (pc := 597) hG dL_law_597 rfl ?_
  refine r_iconst (v := nI 1) (pc := 598) hG dL_law_598 rfl ?_
  refine r_iadd (pc := 599) hG dL_law_599 ?_
  refine r_sld (pc := 600) (j := i + 1) hG hX dL_law_600 (ix_sc hi hL (by omega)) ?_
  refine cv_X9_paves (pc := 601) hG dL_law_601 tw_1323 (c_X9_paves q1) (by decide) (Nat.le_of_ble_eq_true rfl) ?_
  generalize sp_X9_paves p.2 (xs (i + 1)) = q at q2 q3 q4 ⊢
  refine r_icmp_eq (pc := 604) (tgt := 2152) hG dL_law_604 (by decide) (fun _ => hn _ q3 q4) (fun c => absurd q2 c)
theorem law_8 (hG : GF G K RL cL_law 13) (hX : SC G K b L xs) (hL : L ≤ 3072) (hi : i + 6 ≤ L) (hx : OKX M) (hr : R2 M M) (hn : NX G K b i) : J G K M 609 [some (.ref b), some (rf K 0), some (rf K 140), some (.int (nI i))] [] := by
  refine r_aload_n (pc := 609) hG dL_law_609 rfl ?_
  refine r_aloadR (pc := 610) hG dL_law_610 rfl ?_
  refine r_iload_n (pc := 611) hG dL_law_611 rfl ?_
  refine r_iconst (v := nI 1) (pc := 612) hG dL_law_612 rfl ?_
  refine r_iadd (pc := 613) hG dL_law_613 ?_
  refine r_sld (pc := 614) (j := i + 1) hG hX dL_law_614 (ix_sc hi hL (by omega)) ?_
  refine r_aloadR (pc := 615) hG dL_law_615 rfl ?_
  refine r_iload_n (pc := 616) hG dL_law_616 rfl ?_
  refine r_iconst (v := nI 2) (pc := 617) hG dL_law_617 rfl ?_
  refine r_iadd (pc := 618) hG dL_law_618 ?_
  refine r_sld (pc := 619) (j := i + 2) hG hX dL_law_619 (ix_sc hi hL (by omega)) ?_
  refine r_aloadR (pc := 620) hG dL_law_620 rfl ?_
  refine r_iload_n (pc := 621) hG dL_law_621 rfl ?_
  refine r_iconst (v := nI 3) (pc := 622) hG dL_law_622 rfl ?_
  refine r_iadd (pc := 623) hG dL_law_623 ?_
  refine r_sld (pc := 624) (j := i + 3) hG hX dL_law_624 (ix_sc hi hL (by omega)) ?_
  obtain ⟨q1, q2, q3, q4⟩ := fin_window hx hr (a0 := (xs (i + 1))) (a1 := (xs (i + 2))) (a2 := (xs (i + 3)))
  refine cv_X8_window (pc := 625) hG dL_law_625 tw_471 (c_X8_window hx) (by decide) (Nat.le_of_ble_eq_true rfl) ?_
  generalize sp_X8_window M (xs (i + 1)) (xs (i + 2)) (xs (i + 3)) = p at q1 q2 q3 q4 ⊢
  refine r_aload_n (pc := 628) hG dL_law_628 rfl ?_
  refine r_aloadR (pc := 629) hG dL_law_629 rfl ?_
  refine r_iload_n (pc := 630) hG dL_law_630 rfl ?_
  refine r_iconst (v := nI 1) (pc := 631) hG dL_law_631 rfl ?_
  refine r_iadd (pc := 632) hG dL_law_632 ?_
  refine r_sld (pc := 633) (j := i + 1) hG hX dL_law_633 (ix_sc hi hL (by omega)) ?_
  refine r_aloadR (pc := 634) hG dL_law_634 rfl ?_
  refine r_iload_n (pc := 635) hG dL_law_635 rfl ?_
  refine r_iconst (v := nI 2) (pc := 636) hG dL_law_636 rfl ?_
  refine r_iadd (pc := 637) hG dL_law_637 ?_
  refine r_sld (pc := 638) (j := i + 2) hG hX dL_law_638 (ix_sc hi hL (by omega)) ?_
  refine r_aloadR (pc := 639) hG dL_law_639 rfl ?_
  refine r_iload_n (pc := 640) hG dL_law_640 rfl ?_
  refine r_iconst (v := nI 3) (pc := 641) hG dL_law_641 rfl ?_
  refine r_iadd (pc := 642) hG dL_law_642 ?_
  refine r_sld (pc := 643) (j := i + 3) hG hX dL_law_643 (ix_sc hi hL (by omega)) ?_
  refine cv_X9_window (pc := 644) hG dL_law_644 tw_1327 (c_X9_window q1) (by decide) (Nat.le_of_ble_eq_true rfl) ?_
  generalize sp_X9_window p.2 (xs (i + 1)) (xs (i + 2)) (xs (i + 3)) = q at q2 q3 q4 ⊢
  refine r_icmp_eq (pc := 647) (tgt := 2152) hG dL_law_647 (by decide) (fun _ => hn _ q3 q4) (fun c => absurd q2 c)
theorem law_9 (hG : GF G K RL cL_law 13) (hX : SC G K b L xs) (hL : L ≤ 3072) (hi : i + 6 ≤ L) (hx : OKX M) (hr : R2 M M) (hn : NX G K b i) : J G K M 652 [some (.ref b), some (rf K 0), some (rf K 140), some (.int (nI i))] [] := by
  refine r_aload_n (pc := 652) hG dL_law_652 rfl ?_
  refine r_aloadR (pc := 653) hG dL_law_653 rfl ?_
  refine r_iload_n (pc := 654) hG dL_law_654 rfl ?_
  refine r_iconst (v := nI 1) (pc := 655) hG dL_law_655 rfl ?_
  refine r_iadd (pc := 656) hG dL_law_656 ?_
  refine r_sld (pc := 657) (j := i + 1) hG hX dL_law_657 (ix_sc hi hL (by omega)) ?_
  refine r_aloadR (pc := 658) hG dL_law_658 rfl ?_
  refine r_iload_n (pc := 659) hG dL_law_659 rfl ?_
  refine r_iconst (v := nI 2) (pc := 660) hG dL_law_660 rfl ?_
  refine r_iadd (pc := 661) hG dL_law_661 ?_
  refine r_sld (pc := 662) (j := i + 2) hG hX dL_law_662 (ix_sc hi hL (by omega)) ?_
  refine r_aloadR (pc := 663) hG dL_law_663 rfl ?_
  refine r_iload_n (pc := 664) hG dL_law_664 rfl ?_
  refine r_iconst (v := nI 3) (pc := 665) hG dL_law_665 rfl ?_
  refine r_iadd (pc := 666) hG dL_law_666 ?_
  refine r_sld (pc := 667) (j := i + 3) hG hX dL_law_667 (ix_sc hi hL (by omega)) ?_
  obtain ⟨q1, q2, q3, q4⟩ := fin_person hx hr (a0 := (xs (i + 1))) (a1 := (xs (i + 2))) (a2 := (xs (i + 3)))
  refine cv_X8_person (pc := 668) hG dL_law_668 tw_490 (c_X8_person hx) (by decide) (Nat.le_of_ble_eq_true rfl) ?_
  generalize sp_X8_person M (xs (i + 1)) (xs (i + 2)) (xs (i + 3)) = p at q1 q2 q3 q4 ⊢
  refine r_aload_n (pc := 671) hG dL_law_671 rfl ?_
  refine r_aloadR (pc := 672) hG dL_law_672 rfl ?_
  refine r_iload_n (pc := 673) hG dL_law_673 rfl ?_
  refine r_iconst (v := nI 1) (pc := 674) hG dL_law_674 rfl ?_
  refine r_iadd (pc := 675) hG dL_law_675 ?_
  refine r_sld (pc := 676) (j := i + 1) hG hX dL_law_676 (ix_sc hi hL (by omega)) ?_
  refine r_aloadR (pc := 677) hG dL_law_677 rfl ?_
  refine r_iload_n (pc := 678) hG dL_law_678 rfl ?_
  refine r_iconst (v := nI 2) (pc := 679) hG dL_law_679 rfl ?_
  refine r_iadd (pc := 680) hG dL_law_680 ?_
  refine r_sld (pc := 681) (j := i + 2) hG hX dL_law_681 (ix_sc hi hL (by omega)) ?_
  refine r_aloadR (pc := 682) hG dL_law_682 rfl ?_
  refine r_iload_n (pc := 683) hG dL_law_683 rfl ?_
  refine r_iconst (v := nI 3) (pc := 684) hG dL_law_684 rfl ?_
  refine r_iadd (pc := 685) hG dL_law_685 ?_
  refine r_sld (pc := 686) (j := i + 3) hG hX dL_law_686 (ix_sc hi hL (by omega)) ?_
  refine cv_X9_person (pc := 687) hG dL_law_687 tw_1339 (c_X9_person q1) (by decide) (Nat.le_of_ble_eq_true rfl) ?_
  generalize sp_X9_person p.2 (xs (i + 1)) (xs (i + 2)) (xs (i + 3)) = q at q2 q3 q4 ⊢
  refine r_icmp_eq (pc := 690) (tgt := 2152) hG dL_law_690 (by decide) (fun _ => hn _ q3 q4) (fun c => absurd q2 c)
theorem law_10 (hG : GF G K RL cL_law 13) (hX : SC G K b L xs) (hL : L ≤ 3072) (hi : i + 6 ≤ L) (hx : OKX M) (hr : R2 M M) (hn : NX G K b i) : J G K M 695 [some (.ref b), some (rf K 0), some (rf K 140), some (.int (nI i))] [] := by
  refine r_aload_n (pc := 695) hG dL_law_695 rfl ?_
  refine r_aloadR (pc := 696) hG dL_law_696 rfl ?_
  refine r_iload_n (pc := 697) hG dL_law_697 rfl ?_
  refine r_iconst (v := nI 1) (pc := 698) hG dL_law_698 rfl ?_
  refine r_iadd (pc := 699) hG dL_law_699 ?_
  refine r_sld (pc := 700) (j := i + 1) hG hX dL_law_700 (ix_sc hi hL (by omega)) ?_
  refine r_aloadR (pc := 701) hG dL_law_701 rfl ?_
  refine r_iload_n (pc := 702) hG dL_law_702 rfl ?_
  refine r_iconst (v := nI 2) (pc := 703) hG dL_law_703 rfl ?_
  refine r_iadd (pc := 704) hG dL_law_704 ?_
  refine r_sld (pc := 705) (j := i + 2) hG hX dL_law_705 (ix_sc hi hL (by omega)) ?_
  obtain ⟨q1, q2, q3, q4⟩ := fin_put hx hr (a0 := (xs (i + 1))) (a1 := (xs (i + 2)))
  refine cv_X8_put (pc := 706) hG dL_law_706 tw_506 (c_X8_put hx) (by decide) (Nat.le_of_ble_eq_true rfl) ?_
  generalize sp_X8_put M (xs (i + 1)) (xs (i + 2)) = p at q1 q2 q3 q4 ⊢
  refine r_aload_n (pc := 709) hG dL_law_709 rfl ?_
  refine r_aloadR (pc := 710) hG dL_law_710 rfl ?_
  refine r_iload_n (pc := 711) hG dL_law_711 rfl ?_
  refine r_iconst (v := nI 1) (pc := 712) hG dL_law_712 rfl ?_
  refine r_iadd (pc := 713) hG dL_law_713 ?_
  refine r_sld (pc := 714) (j := i + 1) hG hX dL_law_714 (ix_sc hi hL (by omega)) ?_
  refine r_aloadR (pc := 715) hG dL_law_715 rfl ?_
  refine r_iload_n (pc := 716) hG dL_law_716 rfl ?_
  refine r_iconst (v := nI 2) (pc := 717) hG dL_law_717 rfl ?_
  refine r_iadd (pc := 718) hG dL_law_718 ?_
  refine r_sld (pc := 719) (j := i + 2) hG hX dL_law_719 (ix_sc hi hL (by omega)) ?_
  refine cv_X9_put (pc := 720) hG dL_law_720 tw_1347 (c_X9_put q1) (by decide) (Nat.le_of_ble_eq_true rfl) ?_
  generalize sp_X9_put p.2 (xs (i + 1)) (xs (i + 2)) = q at q2 q3 q4 ⊢
  refine r_icmp_eq (pc := 723) (tgt := 2152) hG dL_law_723 (by decide) (fun _ => hn _ q3 q4) (fun c => absurd q2 c)
theorem law_11 (hG : GF G K RL cL_law 13) (hX : SC G K b L xs) (hL : L ≤ 3072) (hi : i + 6 ≤ L) (hx : OKX M) (hr : R2 M M) (hn : NX G K b i) : J G K M 728 [some (.ref b), some (rf K 0), some (rf K 140), some (.int (nI i))] [] := by
  refine r_aload_n (pc := 728) hG dL_law_728 rfl ?_
  refine r_aloadR (pc := 729) hG dL_law_729 rfl ?_
  refine r_iload_n (pc := 730) hG dL_law_730 rfl ?_
  refine r_iconst (v := nI 1) (pc := 731) hG dL_law_731 rfl ?_
  refine r_iadd (pc := 732) hG dL_law_732 ?_
  refine r_sld (pc := 733) (j := i + 1) hG hX dL_law_733 (ix_sc hi hL (by omega)) ?_
  refine r_aloadR (pc := 734) hG dL_law_734 rfl ?_
  refine r_iload_n (pc := 735) hG dL_law_735 rfl ?_
  refine r_iconst (v := nI 2) (pc := 736) hG dL_law_736 rfl ?_
  refine r_iadd (pc := 737) hG dL_law_737 ?_
  refine r_sld (pc := 738) (j := i + 2) hG hX dL_law_738 (ix_sc hi hL (by omega)) ?_
  obtain ⟨q1, q2, q3, q4⟩ := fin_tell hx hr (a0 := (xs (i + 1))) (a1 := (xs (i + 2)))
  refine cv_X8_tell (pc := 739) hG dL_law_739 tw_510 (c_X8_tell hx) (by decide) (Nat.le_of_ble_eq_true rfl) ?_
  generalize sp_X8_tell M (xs (i + 1)) (xs (i + 2)) = p at q1 q2 q3 q4 ⊢
  refine r_aload_n (pc := 742) hG dL_law_742 rfl ?_
  refine r_aloadR (pc := 743) hG dL_law_743 rfl ?_
  refine r_iload_n (pc := 744) hG dL_law_744 rfl ?_
  refine r_iconst (v := nI 1) (pc := 745) hG dL_law_745 rfl ?_
  refine r_iadd (pc := 746) hG dL_law_746 ?_
  refine r_sld (pc := 747) (j := i + 1) hG hX dL_law_747 (ix_sc hi hL (by omega)) ?_
  refine r_aloadR (pc := 748) hG dL_law_748 rfl ?_
  refine r_iload_n (pc := 749) hG dL_law_749 rfl ?_
  refine r_iconst (v := nI 2) (pc := 750) hG dL_law_750 rfl ?_
  refine r_iadd (pc := 751) hG dL_law_751 ?_
  refine r_sld (pc := 752) (j := i + 2) hG hX dL_law_752 (ix_sc hi hL (by omega)) ?_
  refine cv_X9_tell (pc := 753) hG dL_law_753 tw_1351 (c_X9_tell q1) (by decide) (Nat.le_of_ble_eq_true rfl) ?_
  generalize sp_X9_tell p.2 (xs (i + 1)) (xs (i + 2)) = q at q2 q3 q4 ⊢
  refine r_icmp_eq (pc := 756) (tgt := 2152) hG dL_law_756 (by decide) (fun _ => hn _ q3 q4) (fun c => absurd q2 c)
theorem law_12 (hG : GF G K RL cL_law 13) (hX : SC G K b L xs) (hL : L ≤ 3072) (hi : i + 6 ≤ L) (hx : OKX M) (hr : R2 M M) (hn : NX G K b i) : J G K M 761 [some (.ref b), some (rf K 0), some (rf K 140), some (.int (nI i))] [] := by
  refine r_aload_n (pc := 761) hG dL_law_761 rfl ?_
  refine r_aloadR (pc := 762) hG dL_law_762 rfl ?_
  refine r_iload_n (pc := 763) hG dL_law_763 rfl ?_
  refine r_iconst (v := nI 1) (pc := 764) hG dL_law_764 rfl ?_
  refine r_iadd (pc := 765) hG dL_law_765 ?_
  refine r_sld (pc := 766) (j := i + 1) hG hX dL_law_766 (ix_sc hi hL (by omega)) ?_
  obtain ⟨q1, q2, q3, q4⟩ := fin_feed hx hr (a0 := (xs (i + 1)))
  refine cv_X8_feed (pc := 767) hG dL_law_767 tw_517 (c_X8_feed hx) (by decide) (Nat.le_of_ble_eq_true rfl) ?_
  generalize sp_X8_feed M (xs (i + 1)) = p at q1 q2 q3 q4 ⊢
  refine r_aload_n (pc := 770) hG dL_law_770 rfl ?_
  refine r_aloadR (pc := 771) hG dL_law_771 rfl ?_
  refine r_iload_n (pc := 772) hG dL_law_772 rfl ?_
  refine r_iconst (v := nI 1) (pc := 773) hG dL_law_773 rfl ?_
  refine r_iadd (pc := 774) hG dL_law_774 ?_
  refine r_sld (pc := 775) (j := i + 1) hG hX dL_law_775 (ix_sc hi hL (by omega)) ?_
  refine cv_X9_feed (pc := 776) hG dL_law_776 tw_1355 (c_X9_feed q1) (by decide) (Nat.le_of_ble_eq_true rfl) ?_
  generalize sp_X9_feed p.2 (xs (i + 1)) = q at q2 q3 q4 ⊢
  refine r_icmp_eq (pc := 779) (tgt := 2152) hG dL_law_779 (by decide) (fun _ => hn _ q3 q4) (fun c => absurd q2 c)
theorem law_13 (hG : GF G K RL cL_law 13) (hX : SC G K b L xs) (hL : L ≤ 3072) (hi : i + 6 ≤ L) (hx : OKX M) (hr : R2 M M) (hn : NX G K b i) : J G K M 784 [some (.ref b), some (rf K 0), some (rf K 140), some (.int (nI i))] [] := by
  refine r_aload_n (pc := 784) hG dL_law_784 rfl ?_
  obtain ⟨q1, q2, q3, q4⟩ := fin_wipe hx hr
  refine cv_X8_wipe (pc := 785) hG dL_law_785 tw_521 (c_X8_wipe hx) (by decide) (Nat.le_of_ble_eq_true rfl) ?_
  generalize sp_X8_wipe M = p at q1 q2 q3 q4 ⊢
  refine r_aload_n (pc := 788) hG dL_law_788 rfl ?_
  refine cv_X9_wipe (pc := 789) hG dL_law_789 tw_1359 (c_X9_wipe q1) (by decide) (Nat.le_of_ble_eq_true rfl) ?_
  generalize sp_X9_wipe p.2 = q at q2 q3 q4 ⊢
  refine r_icmp_eq (pc := 792) (tgt := 2152) hG dL_law_792 (by decide) (fun _ => hn _ q3 q4) (fun c => absurd q2 c)
theorem law_14 (hG : GF G K RL cL_law 13) (hX : SC G K b L xs) (hL : L ≤ 3072) (hi : i + 6 ≤ L) (hx : OKX M) (hr : R2 M M) (hn : NX G K b i) : J G K M 797 [some (.ref b), some (rf K 0), some (rf K 140), some (.int (nI i))] [] := by
  refine r_aload_n (pc := 797) hG dL_law_797 rfl ?_
  obtain ⟨q1, q2, q3, q4⟩ := fin_street hx hr
  refine cv_X8_street (pc := 798) hG dL_law_798 tw_525 (c_X8_street hx) (by decide) (Nat.le_of_ble_eq_true rfl) ?_
  generalize sp_X8_street M = p at q1 q2 q3 q4 ⊢
  refine r_aload_n (pc := 801) hG dL_law_801 rfl ?_
  refine cv_X9_street (pc := 802) hG dL_law_802 tw_1363 (c_X9_street q1) (by decide) (Nat.le_of_ble_eq_true rfl) ?_
  generalize sp_X9_street p.2 = q at q2 q3 q4 ⊢
  refine r_icmp_eq (pc := 805) (tgt := 2152) hG dL_law_805 (by decide) (fun _ => hn _ q3 q4) (fun c => absurd q2 c)
theorem law_15 (hG : GF G K RL cL_law 13) (hX : SC G K b L xs) (hL : L ≤ 3072) (hi : i + 6 ≤ L) (hx : OKX M) (hr : R2 M M) (hn : NX G K b i) : J G K M 810 [some (.ref b), some (rf K 0), some (rf K 140), some (.int (nI i))] [] := by
  refine r_aload_n (pc := 810) hG dL_law_810 rfl ?_
  refine r_aloadR (pc := 811) hG dL_law_811 rfl ?_
  refine r_iload_n (pc := 812) hG dL_law_812 rfl ?_
  refine r_iconst (v := nI 1) (pc := 813) hG dL_law_813 rfl ?_
  refine r_iadd (pc := 814) hG dL_law_814 ?_
  refine r_sld (pc := 815) (j := i + 1) hG hX dL_law_815 (ix_sc hi hL (by omega)) ?_
  refine r_aloadR (pc := 816) hG dL_law_816 rfl ?_
  refine r_iload_n (pc := 817) hG dL_law_817 rfl ?_
  refine r_iconst (v := nI 2) (pc := 818) hG dL_law_818 rfl ?_
  refine r_iadd (pc := 819) hG dL_law_819 ?_
  refine r_sld (pc := 820) (j := i + 2) hG hX dL_law_820 (ix_sc hi hL (by omega)) ?_
  obtain ⟨q1, q2, q3, q4⟩ := fin_personOf hx hr (a0 := (xs (i + 1))) (a1 := (xs (i + 2)))
  refine cv_X8_personOf (pc := 821) hG dL_law_821 tw_655 (c_X8_personOf hx) (by decide) (Nat.le_of_ble_eq_true rfl) ?_
  generalize sp_X8_personOf M (xs (i + 1)) (xs (i + 2)) = p at q1 q2 q3 q4 ⊢
  refine r_aload_n (pc := 824) hG dL_law_824 rfl ?_
  refine r_aloadR (pc := 825) hG dL_law_825 rfl ?_
  refine r_iload_n (pc := 826) hG dL_law_826 rfl ?_
  refine r_iconst (v := nI 1) (pc := 827) hG dL_law_827 rfl ?_
  refine r_iadd (pc := 828) hG dL_law_828 ?_
  refine r_sld (pc := 829) (j := i + 1) hG hX dL_law_829 (ix_sc hi hL (by omega)) ?_
  refine r_aloadR (pc := 830) hG dL_law_830 rfl ?_
  refine r_iload_n (pc := 831) hG dL_law_831 rfl ?_
  refine r_iconst (v := nI 2) (pc := 832) hG dL_law_832 rfl ?_
  refine r_iadd (pc := 833) hG dL_law_833 ?_
  refine r_sld (pc := 834) (j := i + 2) hG hX dL_law_834 (ix_sc hi hL (by omega)) ?_
  refine cv_X9_personOf (pc := 835) hG dL_law_835 tw_1418 (c_X9_personOf q1) (by decide) (Nat.le_of_ble_eq_true rfl) ?_
  generalize sp_X9_personOf p.2 (xs (i + 1)) (xs (i + 2)) = q at q2 q3 q4 ⊢
  refine r_icmp_eq (pc := 838) (tgt := 2152) hG dL_law_838 (by decide) (fun _ => hn _ q3 q4) (fun c => absurd q2 c)
theorem law_16 (hG : GF G K RL cL_law 13) (hX : SC G K b L xs) (hL : L ≤ 3072) (hi : i + 6 ≤ L) (hx : OKX M) (hr : R2 M M) (hn : NX G K b i) : J G K M 843 [some (.ref b), some (rf K 0), some (rf K 140), some (.int (nI i))] [] := by
  refine r_aload_n (pc := 843) hG dL_law_843 rfl ?_
  refine r_aloadR (pc := 844) hG dL_law_844 rfl ?_
  refine r_iload_n (pc := 845) hG dL_law_845 rfl ?_
  refine r_iconst (v := nI 1) (pc := 846) hG dL_law_846 rfl ?_
  refine r_iadd (pc := 847) hG dL_law_847 ?_
  refine r_sld (pc := 848) (j := i + 1) hG hX dL_law_848 (ix_sc hi hL (by omega)) ?_
  refine r_aloadR (pc := 849) hG dL_law_849 rfl ?_
  refine r_iload_n (pc := 850) hG dL_law_850 rfl ?_
  refine r_iconst (v := nI 2) (pc := 851) hG dL_law_851 rfl ?_
  refine r_iadd (pc := 852) hG dL_law_852 ?_
  refine r_sld (pc := 853) (j := i + 2) hG hX dL_law_853 (ix_sc hi hL (by omega)) ?_
  obtain ⟨q1, q2, q3, q4⟩ := fin_windowOf hx hr (a0 := (xs (i + 1))) (a1 := (xs (i + 2)))
  refine cv_X8_windowOf (pc := 854) hG dL_law_854 tw_665 (c_X8_windowOf hx) (by decide) (Nat.le_of_ble_eq_true rfl) ?_
  generalize sp_X8_windowOf M (xs (i + 1)) (xs (i + 2)) = p at q1 q2 q3 q4 ⊢
  refine r_aload_n (pc := 857) hG dL_law_857 rfl ?_
  refine r_aloadR (pc := 858) hG dL_law_858 rfl ?_
  refine r_iload_n (pc := 859) hG dL_law_859 rfl ?_
  refine r_iconst (v := nI 1) (pc := 860) hG dL_law_860 rfl ?_
  refine r_iadd (pc := 861) hG dL_law_861 ?_
  refine r_sld (pc := 862) (j := i + 1) hG hX dL_law_862 (ix_sc hi hL (by omega)) ?_
  refine r_aloadR (pc := 863) hG dL_law_863 rfl ?_
  refine r_iload_n (pc := 864) hG dL_law_864 rfl ?_
  refine r_iconst (v := nI 2) (pc := 865) hG dL_law_865 rfl ?_
  refine r_iadd (pc := 866) hG dL_law_866 ?_
  refine r_sld (pc := 867) (j := i + 2) hG hX dL_law_867 (ix_sc hi hL (by omega)) ?_
  refine cv_X9_windowOf (pc := 868) hG dL_law_868 tw_1426 (c_X9_windowOf q1) (by decide) (Nat.le_of_ble_eq_true rfl) ?_
  generalize sp_X9_windowOf p.2 (xs (i + 1)) (xs (i + 2)) = q at q2 q3 q4 ⊢
  refine r_icmp_eq (pc := 871) (tgt := 2152) hG dL_law_871 (by decide) (fun _ => hn _ q3 q4) (fun c => absurd q2 c)
theorem law_17 (hG : GF G K RL cL_law 13) (hX : SC G K b L xs) (hL : L ≤ 3072) (hi : i + 6 ≤ L) (hx : OKX M) (hr : R2 M M) (hn : NX G K b i) : J G K M 876 [some (.ref b), some (rf K 0), some (rf K 140), some (.int (nI i))] [] := by
  refine r_aload_n (pc := 876) hG dL_law_876 rfl ?_
  refine r_aloadR (pc := 877) hG dL_law_877 rfl ?_
  refine r_iload_n (pc := 878) hG dL_law_878 rfl ?_
  refine r_iconst (v := nI 1) (pc := 879) hG dL_law_879 rfl ?_
  refine r_iadd (pc := 880) hG dL_law_880 ?_
  refine r_sld (pc := 881) (j := i + 1) hG hX dL_law_881 (ix_sc hi hL (by omega)) ?_
  refine r_aloadR (pc := 882) hG dL_law_882 rfl ?_
  refine r_iload_n (pc := 883) hG dL_law_883 rfl ?_
  refine r_iconst (v := nI 2) (pc := 884) hG dL_law_884 rfl ?_
  refine r_iadd (pc := 885) hG dL_law_885 ?_
  refine r_sld (pc := 886) (j := i + 2) hG hX dL_law_886 (ix_sc hi hL (by omega)) ?_
  refine r_aloadR (pc := 887) hG dL_law_887 rfl ?_
  refine r_iload_n (pc := 888) hG dL_law_888 rfl ?_
  refine r_iconst (v := nI 3) (pc := 889) hG dL_law_889 rfl ?_
  refine r_iadd (pc := 890) hG dL_law_890 ?_
  refine r_sld (pc := 891) (j := i + 3) hG hX dL_law_891 (ix_sc hi hL (by omega)) ?_
  obtain ⟨q1, q2, q3, q4⟩ := fin_lands hx hr (a0 := (xs (i + 1))) (a1 := (xs (i + 2))) (a2 := (xs (i + 3)))
  refine cv_X8_lands (pc := 892) hG dL_law_892 tw_673 (c_X8_lands hx) (by decide) (Nat.le_of_ble_eq_true rfl) ?_
  generalize sp_X8_lands M (xs (i + 1)) (xs (i + 2)) (xs (i + 3)) = p at q1 q2 q3 q4 ⊢
  refine r_aload_n (pc := 895) hG dL_law_895 rfl ?_
  refine r_aloadR (pc := 896) hG dL_law_896 rfl ?_
  refine r_iload_n (pc := 897) hG dL_law_897 rfl ?_
  refine r_iconst (v := nI 1) (pc := 898) hG dL_law_898 rfl ?_
  refine r_iadd (pc := 899) hG dL_law_899 ?_
  refine r_sld (pc := 900) (j := i + 1) hG hX dL_law_900 (ix_sc hi hL (by omega)) ?_
  refine r_aloadR (pc := 901) hG dL_law_901 rfl ?_
  refine r_iload_n (pc := 902) hG dL_law_902 rfl ?_
  refine r_iconst (v := nI 2) (pc := 903) hG dL_law_903 rfl ?_
  refine r_iadd (pc := 904) hG dL_law_904 ?_
  refine r_sld (pc := 905) (j := i + 2) hG hX dL_law_905 (ix_sc hi hL (by omega)) ?_
  refine r_aloadR (pc := 906) hG dL_law_906 rfl ?_
  refine r_iload_n (pc := 907) hG dL_law_907 rfl ?_
  refine r_iconst (v := nI 3) (pc := 908) hG dL_law_908 rfl ?_
  refine r_iadd (pc := 909) hG dL_law_909 ?_
  refine r_sld (pc := 910) (j := i + 3) hG hX dL_law_910 (ix_sc hi hL (by omega)) ?_
  refine cv_X9_lands (pc := 911) hG dL_law_911 tw_1434 (c_X9_lands q1) (by decide) (Nat.le_of_ble_eq_true rfl) ?_
  generalize sp_X9_lands p.2 (xs (i + 1)) (xs (i + 2)) (xs (i + 3)) = q at q2 q3 q4 ⊢
  refine r_icmp_eq (pc := 914) (tgt := 2152) hG dL_law_914 (by decide) (fun _ => hn _ q3 q4) (fun c => absurd q2 c)
theorem law_18 (hG : GF G K RL cL_law 13) (hX : SC G K b L xs) (hL : L ≤ 3072) (hi : i + 6 ≤ L) (hx : OKX M) (hr : R2 M M) (hn : NX G K b i) : J G K M 919 [some (.ref b), some (rf K 0), some (rf K 140), some (.int (nI i))] [] := by
  refine r_aload_n (pc := 919) hG dL_law_919 rfl ?_
  refine r_aloadR (pc := 920) hG dL_law_920 rfl ?_
  refine r_iload_n (pc := 921) hG dL_law_921 rfl ?_
  refine r_iconst (v := nI 1) (pc := 922) hG dL_law_922 rfl ?_
  refine r_iadd (pc := 923) hG dL_law_923 ?_
  refine r_sld (pc := 924) (j := i + 1) hG hX dL_law_924 (ix_sc hi hL (by omega)) ?_
  refine r_aloadR (pc := 925) hG dL_law_925 rfl ?_
  refine r_iload_n (pc := 926) hG dL_law_926 rfl ?_
  refine r_iconst (v := nI 2) (pc := 927) hG dL_law_927 rfl ?_
  refine r_iadd (pc := 928) hG dL_law_928 ?_
  refine r_sld (pc := 929) (j := i + 2) hG hX dL_law_929 (ix_sc hi hL (by omega)) ?_
  refine r_aloadR (pc := 930) hG dL_law_930 rfl ?_
  refine r_iload_n (pc := 931) hG dL_law_931 rfl ?_
  refine r_iconst (v := nI 3) (pc := 932) hG dL_law_932 rfl ?_
  refine r_iadd (pc := 933) hG dL_law_933 ?_
  refine r_sld (pc := 934) (j := i + 3) hG hX dL_law_934 (ix_sc hi hL (by omega)) ?_
  obtain ⟨q1, q2, q3, q4⟩ := fin_caught hx hr (a0 := (xs (i + 1))) (a1 := (xs (i + 2))) (a2 := (xs (i + 3)))
  refine cv_X8_caught (pc := 935) hG dL_law_935 tw_686 (c_X8_caught hx) (by decide) (Nat.le_of_ble_eq_true rfl) ?_
  generalize sp_X8_caught M (xs (i + 1)) (xs (i + 2)) (xs (i + 3)) = p at q1 q2 q3 q4 ⊢
  refine r_aload_n (pc := 938) hG dL_law_938 rfl ?_
  refine r_aloadR (pc := 939) hG dL_law_939 rfl ?_
  refine r_iload_n (pc := 940) hG dL_law_940 rfl ?_
  refine r_iconst (v := nI 1) (pc := 941) hG dL_law_941 rfl ?_
  refine r_iadd (pc := 942) hG dL_law_942 ?_
  refine r_sld (pc := 943) (j := i + 1) hG hX dL_law_943 (ix_sc hi hL (by omega)) ?_
  refine r_aloadR (pc := 944) hG dL_law_944 rfl ?_
  refine r_iload_n (pc := 945) hG dL_law_945 rfl ?_
  refine r_iconst (v := nI 2) (pc := 946) hG dL_law_946 rfl ?_
  refine r_iadd (pc := 947) hG dL_law_947 ?_
  refine r_sld (pc := 948) (j := i + 2) hG hX dL_law_948 (ix_sc hi hL (by omega)) ?_
  refine r_aloadR (pc := 949) hG dL_law_949 rfl ?_
  refine r_iload_n (pc := 950) hG dL_law_950 rfl ?_
  refine r_iconst (v := nI 3) (pc := 951) hG dL_law_951 rfl ?_
  refine r_iadd (pc := 952) hG dL_law_952 ?_
  refine r_sld (pc := 953) (j := i + 3) hG hX dL_law_953 (ix_sc hi hL (by omega)) ?_
  refine cv_X9_caught (pc := 954) hG dL_law_954 tw_1446 (c_X9_caught q1) (by decide) (Nat.le_of_ble_eq_true rfl) ?_
  generalize sp_X9_caught p.2 (xs (i + 1)) (xs (i + 2)) (xs (i + 3)) = q at q2 q3 q4 ⊢
  refine r_icmp_eq (pc := 957) (tgt := 2152) hG dL_law_957 (by decide) (fun _ => hn _ q3 q4) (fun c => absurd q2 c)
theorem law_19 (hG : GF G K RL cL_law 13) (hX : SC G K b L xs) (hL : L ≤ 3072) (hi : i + 6 ≤ L) (hx : OKX M) (hr : R2 M M) (hn : NX G K b i) : J G K M 962 [some (.ref b), some (rf K 0), some (rf K 140), some (.int (nI i))] [] := by
  refine r_aload_n (pc := 962) hG dL_law_962 rfl ?_
  refine r_aloadR (pc := 963) hG dL_law_963 rfl ?_
  refine r_iload_n (pc := 964) hG dL_law_964 rfl ?_
  refine r_iconst (v := nI 1) (pc := 965) hG dL_law_965 rfl ?_
  refine r_iadd (pc := 966) hG dL_law_966 ?_
  refine r_sld (pc := 967) (j := i + 1) hG hX dL_law_967 (ix_sc hi hL (by omega)) ?_
  refine r_aloadR (pc := 968) hG dL_law_968 rfl ?_
  refine r_iload_n (pc := 969) hG dL_law_969 rfl ?_
  refine r_iconst (v := nI 2) (pc := 970) hG dL_law_970 rfl ?_
  refine r_iadd (pc := 971) hG dL_law_971 ?_
  refine r_sld (pc := 972) (j := i + 2) hG hX dL_law_972 (ix_sc hi hL (by omega)) ?_
  obtain ⟨q1, q2, q3, q4⟩ := fin_slow hx hr (a0 := (xs (i + 1))) (a1 := (xs (i + 2)))
  refine cv_X8_slow (pc := 973) hG dL_law_973 tw_715 (c_X8_slow hx) (by decide) (Nat.le_of_ble_eq_true rfl) ?_
  generalize sp_X8_slow M (xs (i + 1)) (xs (i + 2)) = p at q1 q2 q3 q4 ⊢
  refine r_aload_n (pc := 976) hG dL_law_976 rfl ?_
  refine r_aloadR (pc := 977) hG dL_law_977 rfl ?_
  refine r_iload_n (pc := 978) hG dL_law_978 rfl ?_
  refine r_iconst (v := nI 1) (pc := 979) hG dL_law_979 rfl ?_
  refine r_iadd (pc := 980) hG dL_law_980 ?_
  refine r_sld (pc := 981) (j := i + 1) hG hX dL_law_981 (ix_sc hi hL (by omega)) ?_
  refine r_aloadR (pc := 982) hG dL_law_982 rfl ?_
  refine r_iload_n (pc := 983) hG dL_law_983 rfl ?_
  refine r_iconst (v := nI 2) (pc := 984) hG dL_law_984 rfl ?_
  refine r_iadd (pc := 985) hG dL_law_985 ?_
  refine r_sld (pc := 986) (j := i + 2) hG hX dL_law_986 (ix_sc hi hL (by omega)) ?_
  refine cv_X9_slow (pc := 987) hG dL_law_987 tw_1467 (c_X9_slow q1) (by decide) (Nat.le_of_ble_eq_true rfl) ?_
  generalize sp_X9_slow p.2 (xs (i + 1)) (xs (i + 2)) = q at q2 q3 q4 ⊢
  refine r_icmp_eq (pc := 990) (tgt := 2152) hG dL_law_990 (by decide) (fun _ => hn _ q3 q4) (fun c => absurd q2 c)
theorem law_20 (hG : GF G K RL cL_law 13) (hX : SC G K b L xs) (hL : L ≤ 3072) (hi : i + 6 ≤ L) (hx : OKX M) (hr : R2 M M) (hn : NX G K b i) : J G K M 995 [some (.ref b), some (rf K 0), some (rf K 140), some (.int (nI i))] [] := by
  refine r_aload_n (pc := 995) hG dL_law_995 rfl ?_
  refine r_aloadR (pc := 996) hG dL_law_996 rfl ?_
  refine r_iload_n (pc := 997) hG dL_law_997 rfl ?_
  refine r_iconst (v := nI 1) (pc := 998) hG dL_law_998 rfl ?_
  refine r_iadd (pc := 999) hG dL_law_999 ?_
  refine r_sld (pc := 1000) (j := i + 1) hG hX dL_law_1000 (ix_sc hi hL (by omega)) ?_
  refine r_aloadR (pc := 1001) hG dL_law_1001 rfl ?_
  refine r_iload_n (pc := 1002) hG dL_law_1002 rfl ?_
  refine r_iconst (v := nI 2) (pc := 1003) hG dL_law_1003 rfl ?_
  refine r_iadd (pc := 1004) hG dL_law_1004 ?_
  refine r_sld (pc := 1005) (j := i + 2) hG hX dL_law_1005 (ix_sc hi hL (by omega)) ?_
  obtain ⟨q1, q2, q3, q4⟩ := fin_comes hx hr (a0 := (xs (i + 1))) (a1 := (xs (i + 2)))
  refine cv_X8_comes (pc := 1006) hG dL_law_1006 tw_728 (c_X8_comes hx) (by decide) (Nat.le_of_ble_eq_true rfl) ?_
  generalize sp_X8_comes M (xs (i + 1)) (xs (i + 2)) = p at q1 q2 q3 q4 ⊢
  refine r_aload_n (pc := 1009) hG dL_law_1009 rfl ?_
  refine r_aloadR (pc := 1010) hG dL_law_1010 rfl ?_
  refine r_iload_n (pc := 1011) hG dL_law_1011 rfl ?_
  refine r_iconst (v := nI 1) (pc := 1012) hG dL_law_1012 rfl ?_
  refine r_iadd (pc := 1013) hG dL_law_1013 ?_
  refine r_sld (pc := 1014) (j := i + 1) hG hX dL_law_1014 (ix_sc hi hL (by omega)) ?_
  refine r_aloadR (pc := 1015) hG dL_law_1015 rfl ?_
  refine r_iload_n (pc := 1016) hG dL_law_1016 rfl ?_
  refine r_iconst (v := nI 2) (pc := 1017) hG dL_law_1017 rfl ?_
  refine r_iadd (pc := 1018) hG dL_law_1018 ?_
  refine r_sld (pc := 1019) (j := i + 2) hG hX dL_law_1019 (ix_sc hi hL (by omega)) ?_
  refine cv_X9_comes (pc := 1020) hG dL_law_1020 tw_1471 (c_X9_comes q1) (by decide) (Nat.le_of_ble_eq_true rfl) ?_
  generalize sp_X9_comes p.2 (xs (i + 1)) (xs (i + 2)) = q at q2 q3 q4 ⊢
  refine r_icmp_eq (pc := 1023) (tgt := 2152) hG dL_law_1023 (by decide) (fun _ => hn _ q3 q4) (fun c => absurd q2 c)
theorem law_21 (hG : GF G K RL cL_law 13) (hX : SC G K b L xs) (hL : L ≤ 3072) (hi : i + 6 ≤ L) (hx : OKX M) (hr : R2 M M) (hn : NX G K b i) : J G K M 1028 [some (.ref b), some (rf K 0), some (rf K 140), some (.int (nI i))] [] := by
  refine r_aload_n (pc := 1028) hG dL_law_1028 rfl ?_
  refine r_aloadR (pc := 1029) hG dL_law_1029 rfl ?_
  refine r_iload_n (pc := 1030) hG dL_law_1030 rfl ?_
  refine r_iconst (v := nI 1) (pc := 1031) hG dL_law_1031 rfl ?_
  refine r_iadd (pc := 1032) hG dL_law_1032 ?_
  refine r_sld (pc := 1033) (j := i + 1) hG hX dL_law_1033 (ix_sc hi hL (by omega)) ?_
  refine r_aloadR (pc := 1034) hG dL_law_1034 rfl ?_
  refine r_iload_n (pc := 1035) hG dL_law_1035 rfl ?_
  refine r_iconst (v := nI 2) (pc := 1036) hG dL_law_1036 rfl ?_
  refine r_iadd (pc := 1037) hG dL_law_1037 ?_
  refine r_sld (pc := 1038) (j := i + 2) hG hX dL_law_1038 (ix_sc hi hL (by omega)) ?_
  refine r_aloadR (pc := 1039) hG dL_law_1039 rfl ?_
  refine r_iload_n (pc := 1040) hG dL_law_1040 rfl ?_
  refine r_iconst (v := nI 3) (pc := 1041) hG dL_law_1041 rfl ?_
  refine r_iadd (pc := 1042) hG dL_law_1042 ?_
  refine r_sld (pc := 1043) (j := i + 3) hG hX dL_law_1043 (ix_sc hi hL (by omega)) ?_
  obtain ⟨q1, q2, q3, q4⟩ := fin_throwsFor hx hr (a0 := (xs (i + 1))) (a1 := (xs (i + 2))) (a2 := (xs (i + 3)))
  refine cv_X8_throwsFor (pc := 1044) hG dL_law_1044 tw_742 (c_X8_throwsFor hx) (by decide) (Nat.le_of_ble_eq_true rfl) ?_
  generalize sp_X8_throwsFor M (xs (i + 1)) (xs (i + 2)) (xs (i + 3)) = p at q1 q2 q3 q4 ⊢
  refine r_aload_n (pc := 1047) hG dL_law_1047 rfl ?_
  refine r_aloadR (pc := 1048) hG dL_law_1048 rfl ?_
  refine r_iload_n (pc := 1049) hG dL_law_1049 rfl ?_
  refine r_iconst (v := nI 1) (pc := 1050) hG dL_law_1050 rfl ?_
  refine r_iadd (pc := 1051) hG dL_law_1051 ?_
  refine r_sld (pc := 1052) (j := i + 1) hG hX dL_law_1052 (ix_sc hi hL (by omega)) ?_
  refine r_aloadR (pc := 1053) hG dL_law_1053 rfl ?_
  refine r_iload_n (pc := 1054) hG dL_law_1054 rfl ?_
  refine r_iconst (v := nI 2) (pc := 1055) hG dL_law_1055 rfl ?_
  refine r_iadd (pc := 1056) hG dL_law_1056 ?_
  refine r_sld (pc := 1057) (j := i + 2) hG hX dL_law_1057 (ix_sc hi hL (by omega)) ?_
  refine r_aloadR (pc := 1058) hG dL_law_1058 rfl ?_
  refine r_iload_n (pc := 1059) hG dL_law_1059 rfl ?_
  refine r_iconst (v := nI 3) (pc := 1060) hG dL_law_1060 rfl ?_
  refine r_iadd (pc := 1061) hG dL_law_1061 ?_
  refine r_sld (pc := 1062) (j := i + 3) hG hX dL_law_1062 (ix_sc hi hL (by omega)) ?_
  refine cv_X9_throwsFor (pc := 1063) hG dL_law_1063 tw_1479 (c_X9_throwsFor q1) (by decide) (Nat.le_of_ble_eq_true rfl) ?_
  generalize sp_X9_throwsFor p.2 (xs (i + 1)) (xs (i + 2)) (xs (i + 3)) = q at q2 q3 q4 ⊢
  refine r_icmp_eq (pc := 1066) (tgt := 2152) hG dL_law_1066 (by decide) (fun _ => hn _ q3 q4) (fun c => absurd q2 c)
theorem law_22 (hG : GF G K RL cL_law 13) (hX : SC G K b L xs) (hL : L ≤ 3072) (hi : i + 6 ≤ L) (hx : OKX M) (hr : R2 M M) (hn : NX G K b i) : J G K M 1071 [some (.ref b), some (rf K 0), some (rf K 140), some (.int (nI i))] [] := by
  refine r_aload_n (pc := 1071) hG dL_law_1071 rfl ?_
  refine r_aloadR (pc := 1072) hG dL_law_1072 rfl ?_
  refine r_iload_n (pc := 1073) hG dL_law_1073 rfl ?_
  refine r_iconst (v := nI 1) (pc := 1074) hG dL_law_1074 rfl ?_
  refine r_iadd (pc := 1075) hG dL_law_1075 ?_
  refine r_sld (pc := 1076) (j := i + 1) hG hX dL_law_1076 (ix_sc hi hL (by omega)) ?_
  obtain ⟨q1, q2, q3, q4⟩ := fin_hit hx hr (a0 := (xs (i + 1)))
  refine cv_X8_hit (pc := 1077) hG dL_law_1077 tw_755 (c_X8_hit hx) (by decide) (Nat.le_of_ble_eq_true rfl) ?_
  generalize sp_X8_hit M (xs (i + 1)) = p at q1 q2 q3 q4 ⊢
  refine r_aload_n (pc := 1080) hG dL_law_1080 rfl ?_
  refine r_aloadR (pc := 1081) hG dL_law_1081 rfl ?_
  refine r_iload_n (pc := 1082) hG dL_law_1082 rfl ?_
  refine r_iconst (v := nI 1) (pc := 1083) hG dL_law_1083 rfl ?_
  refine r_iadd (pc := 1084) hG dL_law_1084 ?_
  refine r_sld (pc := 1085) (j := i + 1) hG hX dL_law_1085 (ix_sc hi hL (by omega)) ?_
  refine cv_X9_hit (pc := 1086) hG dL_law_1086 tw_1483 (c_X9_hit q1) (by decide) (Nat.le_of_ble_eq_true rfl) ?_
  generalize sp_X9_hit p.2 (xs (i + 1)) = q at q2 q3 q4 ⊢
  refine r_icmp_eq (pc := 1089) (tgt := 2152) hG dL_law_1089 (by decide) (fun _ => hn _ q3 q4) (fun c => absurd q2 c)
theorem law_23 (hG : GF G K RL cL_law 13) (hX : SC G K b L xs) (hL : L ≤ 3072) (hi : i + 6 ≤ L) (hx : OKX M) (hr : R2 M M) (hn : NX G K b i) : J G K M 1094 [some (.ref b), some (rf K 0), some (rf K 140), some (.int (nI i))] [] := by
  refine r_aload_n (pc := 1094) hG dL_law_1094 rfl ?_
  refine r_aloadR (pc := 1095) hG dL_law_1095 rfl ?_
  refine r_iload_n (pc := 1096) hG dL_law_1096 rfl ?_
  refine r_iconst (v := nI 1) (pc := 1097) hG dL_law_1097 rfl ?_
  refine r_iadd (pc := 1098) hG dL_law_1098 ?_
  refine r_sld (pc := 1099) (j := i + 1) hG hX dL_law_1099 (ix_sc hi hL (by omega)) ?_
  refine r_aloadR (pc := 1100) hG dL_law_1100 rfl ?_
  refine r_iload_n (pc := 1101) hG dL_law_1101 rfl ?_
  refine r_iconst (v := nI 2) (pc := 1102) hG dL_law_1102 rfl ?_
  refine r_iadd (pc := 1103) hG dL_law_1103 ?_
  refine r_sld (pc := 1104) (j := i + 2) hG hX dL_law_1104 (ix_sc hi hL (by omega)) ?_
  obtain ⟨q1, q2, q3, q4⟩ := fin_open hx hr (a0 := (xs (i + 1))) (a1 := (xs (i + 2)))
  refine cv_X8_open (pc := 1105) hG dL_law_1105 tw_772 (c_X8_open hx) (by decide) (Nat.le_of_ble_eq_true rfl) ?_
  generalize sp_X8_open M (xs (i + 1)) (xs (i + 2)) = p at q1 q2 q3 q4 ⊢
  refine r_aload_n (pc := 1108) hG dL_law_1108 rfl ?_
  refine r_aloadR (pc := 1109) hG dL_law_1109 rfl ?_
  refine r_iload_n (pc := 1110) hG dL_law_1110 rfl ?_
  refine r_iconst (v := nI 1) (pc := 1111) hG dL_law_1111 rfl ?_
  refine r_iadd (pc := 1112) hG dL_law_1112 ?_
  refine r_sld (pc := 1113) (j := i + 1) hG hX dL_law_1113 (ix_sc hi hL (by omega)) ?_
  refine r_aloadR (pc := 1114) hG dL_law_1114 rfl ?_
  refine r_iload_n (pc := 1115) hG dL_law_1115 rfl ?_
  refine r_iconst (v := nI 2) (pc := 1116) hG dL_law_1116 rfl ?_
  refine r_iadd (pc := 1117) hG dL_law_1117 ?_
  refine r_sld (pc := 1118) (j := i + 2) hG hX dL_law_1118 (ix_sc hi hL (by omega)) ?_
  refine cv_X9_open (pc := 1119) hG dL_law_1119 tw_1491 (c_X9_open q1) (by decide) (Nat.le_of_ble_eq_true rfl) ?_
  generalize sp_X9_open p.2 (xs (i + 1)) (xs (i + 2)) = q at q2 q3 q4 ⊢
  refine r_icmp_eq (pc := 1122) (tgt := 2152) hG dL_law_1122 (by decide) (fun _ => hn _ q3 q4) (fun c => absurd q2 c)
theorem law_24 (hG : GF G K RL cL_law 13) (hX : SC G K b L xs) (hL : L ≤ 3072) (hi : i + 6 ≤ L) (hx : OKX M) (hr : R2 M M) (hn : NX G K b i) : J G K M 1127 [some (.ref b), some (rf K 0), some (rf K 140), some (.int (nI i))] [] := by
  refine r_aload_n (pc := 1127) hG dL_law_1127 rfl ?_
  refine r_aloadR (pc := 1128) hG dL_law_1128 rfl ?_
  refine r_iload_n (pc := 1129) hG dL_law_1129 rfl ?_
  refine r_iconst (v := nI 1) (pc := 1130) hG dL_law_1130 rfl ?_
  refine r_iadd (pc := 1131) hG dL_law_1131 ?_
  refine r_sld (pc := 1132) (j := i + 1) hG hX dL_law_1132 (ix_sc hi hL (by omega)) ?_
  refine r_aloadR (pc := 1133) hG dL_law_1133 rfl ?_
  refine r_iload_n (pc := 1134) hG dL_law_1134 rfl ?_
  refine r_iconst (v := nI 2) (pc := 1135) hG dL_law_1135 rfl ?_
  refine r_iadd (pc := 1136) hG dL_law_1136 ?_
  refine r_sld (pc := 1137) (j := i + 2) hG hX dL_law_1137 (ix_sc hi hL (by omega)) ?_
  refine r_aloadR (pc := 1138) hG dL_law_1138 rfl ?_
  refine r_iload_n (pc := 1139) hG dL_law_1139 rfl ?_
  refine r_iconst (v := nI 3) (pc := 1140) hG dL_law_1140 rfl ?_
  refine r_iadd (pc := 1141) hG dL_law_1141 ?_
  refine r_sld (pc := 1142) (j := i + 3) hG hX dL_law_1142 (ix_sc hi hL (by omega)) ?_
  obtain ⟨q1, q2, q3, q4⟩ := fin_whose hx hr (a0 := (xs (i + 1))) (a1 := (xs (i + 2))) (a2 := (xs (i + 3)))
  refine cv_X8_whose (pc := 1143) hG dL_law_1143 tw_786 (c_X8_whose hx) (by decide) (Nat.le_of_ble_eq_true rfl) ?_
  generalize sp_X8_whose M (xs (i + 1)) (xs (i + 2)) (xs (i + 3)) = p at q1 q2 q3 q4 ⊢
  refine r_aload_n (pc := 1146) hG dL_law_1146 rfl ?_
  refine r_aloadR (pc := 1147) hG dL_law_1147 rfl ?_
  refine r_iload_n (pc := 1148) hG dL_law_1148 rfl ?_
  refine r_iconst (v := nI 1) (pc := 1149) hG dL_law_1149 rfl ?_
  refine r_iadd (pc := 1150) hG dL_law_1150 ?_
  refine r_sld (pc := 1151) (j := i + 1) hG hX dL_law_1151 (ix_sc hi hL (by omega)) ?_
  refine r_aloadR (pc := 1152) hG dL_law_1152 rfl ?_
  refine r_iload_n (pc := 1153) hG dL_law_1153 rfl ?_
  refine r_iconst (v := nI 2) (pc := 1154) hG dL_law_1154 rfl ?_
  refine r_iadd (pc := 1155) hG dL_law_1155 ?_
  refine r_sld (pc := 1156) (j := i + 2) hG hX dL_law_1156 (ix_sc hi hL (by omega)) ?_
  refine r_aloadR (pc := 1157) hG dL_law_1157 rfl ?_
  refine r_iload_n (pc := 1158) hG dL_law_1158 rfl ?_
  refine r_iconst (v := nI 3) (pc := 1159) hG dL_law_1159 rfl ?_
  refine r_iadd (pc := 1160) hG dL_law_1160 ?_
  refine r_sld (pc := 1161) (j := i + 3) hG hX dL_law_1161 (ix_sc hi hL (by omega)) ?_
  refine cv_X9_whose (pc := 1162) hG dL_law_1162 tw_1503 (c_X9_whose q1) (by decide) (Nat.le_of_ble_eq_true rfl) ?_
  generalize sp_X9_whose p.2 (xs (i + 1)) (xs (i + 2)) (xs (i + 3)) = q at q2 q3 q4 ⊢
  refine r_icmp_eq (pc := 1165) (tgt := 2152) hG dL_law_1165 (by decide) (fun _ => hn _ q3 q4) (fun c => absurd q2 c)
theorem law_25 (hG : GF G K RL cL_law 13) (hX : SC G K b L xs) (hL : L ≤ 3072) (hi : i + 6 ≤ L) (hx : OKX M) (hr : R2 M M) (hn : NX G K b i) : J G K M 1170 [some (.ref b), some (rf K 0), some (rf K 140), some (.int (nI i))] [] := by
  refine r_aload_n (pc := 1170) hG dL_law_1170 rfl ?_
  refine r_aloadR (pc := 1171) hG dL_law_1171 rfl ?_
  refine r_iload_n (pc := 1172) hG dL_law_1172 rfl ?_
  refine r_iconst (v := nI 1) (pc := 1173) hG dL_law_1173 rfl ?_
  refine r_iadd (pc := 1174) hG dL_law_1174 ?_
  refine r_sld (pc := 1175) (j := i + 1) hG hX dL_law_1175 (ix_sc hi hL (by omega)) ?_
  refine r_aloadR (pc := 1176) hG dL_law_1176 rfl ?_
  refine r_iload_n (pc := 1177) hG dL_law_1177 rfl ?_
  refine r_iconst (v := nI 2) (pc := 1178) hG dL_law_1178 rfl ?_
  refine r_iadd (pc := 1179) hG dL_law_1179 ?_
  refine r_sld (pc := 1180) (j := i + 2) hG hX dL_law_1180 (ix_sc hi hL (by omega)) ?_
  obtain ⟨q1, q2, q3, q4⟩ := fin_fond hx hr (a0 := (xs (i + 1))) (a1 := (xs (i + 2)))
  refine cv_X8_fond (pc := 1181) hG dL_law_1181 tw_810 (c_X8_fond hx) (by decide) (Nat.le_of_ble_eq_true rfl) ?_
  generalize sp_X8_fond M (xs (i + 1)) (xs (i + 2)) = p at q1 q2 q3 q4 ⊢
  refine r_aload_n (pc := 1184) hG dL_law_1184 rfl ?_
  refine r_aloadR (pc := 1185) hG dL_law_1185 rfl ?_
  refine r_iload_n (pc := 1186) hG dL_law_1186 rfl ?_
  refine r_iconst (v := nI 1) (pc := 1187) hG dL_law_1187 rfl ?_
  refine r_iadd (pc := 1188) hG dL_law_1188 ?_
  refine r_sld (pc := 1189) (j := i + 1) hG hX dL_law_1189 (ix_sc hi hL (by omega)) ?_
  refine r_aloadR (pc := 1190) hG dL_law_1190 rfl ?_
  refine r_iload_n (pc := 1191) hG dL_law_1191 rfl ?_
  refine r_iconst (v := nI 2) (pc := 1192) hG dL_law_1192 rfl ?_
  refine r_iadd (pc := 1193) hG dL_law_1193 ?_
  refine r_sld (pc := 1194) (j := i + 2) hG hX dL_law_1194 (ix_sc hi hL (by omega)) ?_
  refine cv_X9_fond (pc := 1195) hG dL_law_1195 tw_1511 (c_X9_fond q1) (by decide) (Nat.le_of_ble_eq_true rfl) ?_
  generalize sp_X9_fond p.2 (xs (i + 1)) (xs (i + 2)) = q at q2 q3 q4 ⊢
  refine r_icmp_eq (pc := 1198) (tgt := 2152) hG dL_law_1198 (by decide) (fun _ => hn _ q3 q4) (fun c => absurd q2 c)
theorem law_26 (hG : GF G K RL cL_law 13) (hX : SC G K b L xs) (hL : L ≤ 3072) (hi : i + 6 ≤ L) (hx : OKX M) (hr : R2 M M) (hn : NX G K b i) : J G K M 1203 [some (.ref b), some (rf K 0), some (rf K 140), some (.int (nI i))] [] := by
  refine r_aload_n (pc := 1203) hG dL_law_1203 rfl ?_
  refine r_aloadR (pc := 1204) hG dL_law_1204 rfl ?_
  refine r_iload_n (pc := 1205) hG dL_law_1205 rfl ?_
  refine r_iconst (v := nI 1) (pc := 1206) hG dL_law_1206 rfl ?_
  refine r_iadd (pc := 1207) hG dL_law_1207 ?_
  refine r_sld (pc := 1208) (j := i + 1) hG hX dL_law_1208 (ix_sc hi hL (by omega)) ?_
  obtain ⟨q1, q2, q3, q4⟩ := fin_pairs hx hr (a0 := (xs (i + 1)))
  refine cv_X8_pairs (pc := 1209) hG dL_law_1209 tw_819 (c_X8_pairs hx) (by decide) (Nat.le_of_ble_eq_true rfl) ?_
  generalize sp_X8_pairs M (xs (i + 1)) = p at q1 q2 q3 q4 ⊢
  refine r_aload_n (pc := 1212) hG dL_law_1212 rfl ?_
  refine r_aloadR (pc := 1213) hG dL_law_1213 rfl ?_
  refine r_iload_n (pc := 1214) hG dL_law_1214 rfl ?_
  refine r_iconst (v := nI 1) (pc := 1215) hG dL_law_1215 rfl ?_
  refine r_iadd (pc := 1216) hG dL_law_1216 ?_
  refine r_sld (pc := 1217) (j := i + 1) hG hX dL_law_1217 (ix_sc hi hL (by omega)) ?_
  refine cv_X9_pairs (pc := 1218) hG dL_law_1218 tw_1519 (c_X9_pairs q1) (by decide) (Nat.le_of_ble_eq_true rfl) ?_
  generalize sp_X9_pairs p.2 (xs (i + 1)) = q at q2 q3 q4 ⊢
  refine r_icmp_eq (pc := 1221) (tgt := 2152) hG dL_law_1221 (by decide) (fun _ => hn _ q3 q4) (fun c => absurd q2 c)
theorem law_27 (hG : GF G K RL cL_law 13) (hX : SC G K b L xs) (hL : L ≤ 3072) (hi : i + 6 ≤ L) (hx : OKX M) (hr : R2 M M) (hn : NX G K b i) : J G K M 1226 [some (.ref b), some (rf K 0), some (rf K 140), some (.int (nI i))] [] := by
  refine r_aload_n (pc := 1226) hG dL_law_1226 rfl ?_
  refine r_aloadR (pc := 1227) hG dL_law_1227 rfl ?_
  refine r_iload_n (pc := 1228) hG dL_law_1228 rfl ?_
  refine r_iconst (v := nI 1) (pc := 1229) hG dL_law_1229 rfl ?_
  refine r_iadd (pc := 1230) hG dL_law_1230 ?_
  refine r_sld (pc := 1231) (j := i + 1) hG hX dL_law_1231 (ix_sc hi hL (by omega)) ?_
  refine r_aloadR (pc := 1232) hG dL_law_1232 rfl ?_
  refine r_iload_n (pc := 1233) hG dL_law_1233 rfl ?_
  refine r_iconst (v := nI 2) (pc := 1234) hG dL_law_1234 rfl ?_
  refine r_iadd (pc := 1235) hG dL_law_1235 ?_
  refine r_sld (pc := 1236) (j := i + 2) hG hX dL_law_1236 (ix_sc hi hL (by omega)) ?_
  obtain ⟨q1, q2, q3, q4⟩ := fin_winds hx hr (a0 := (xs (i + 1))) (a1 := (xs (i + 2)))
  refine cv_X8_winds (pc := 1237) hG dL_law_1237 tw_862 (c_X8_winds hx) (by decide) (Nat.le_of_ble_eq_true rfl) ?_
  generalize sp_X8_winds M (xs (i + 1)) (xs (i + 2)) = p at q1 q2 q3 q4 ⊢
  refine r_aload_n (pc := 1240) hG dL_law_1240 rfl ?_
  refine r_aloadR (pc := 1241) hG dL_law_1241 rfl ?_
  refine r_iload_n (pc := 1242) hG dL_law_1242 rfl ?_
  refine r_iconst (v := nI 1) (pc := 1243) hG dL_law_1243 rfl ?_
  refine r_iadd (pc := 1244) hG dL_law_1244 ?_
  refine r_sld (pc := 1245) (j := i + 1) hG hX dL_law_1245 (ix_sc hi hL (by omega)) ?_
  refine r_aloadR (pc := 1246) hG dL_law_1246 rfl ?_
  refine r_iload_n (pc := 1247) hG dL_law_1247 rfl ?_
  refine r_iconst (v := nI 2) (pc := 1248) hG dL_law_1248 rfl ?_
  refine r_iadd (pc := 1249) hG dL_law_1249 ?_
  refine r_sld (pc := 1250) (j := i + 2) hG hX dL_law_1250 (ix_sc hi hL (by omega)) ?_
  refine cv_X9_winds (pc := 1251) hG dL_law_1251 tw_1527 (c_X9_winds q1) (by decide) (Nat.le_of_ble_eq_true rfl) ?_
  generalize sp_X9_winds p.2 (xs (i + 1)) (xs (i + 2)) = q at q2 q3 q4 ⊢
  refine r_icmp_eq (pc := 1254) (tgt := 2152) hG dL_law_1254 (by decide) (fun _ => hn _ q3 q4) (fun c => absurd q2 c)
theorem law_28 (hG : GF G K RL cL_law 13) (hX : SC G K b L xs) (hL : L ≤ 3072) (hi : i + 6 ≤ L) (hx : OKX M) (hr : R2 M M) (hn : NX G K b i) : J G K M 1259 [some (.ref b), some (rf K 0), some (rf K 140), some (.int (nI i))] [] := by
  refine r_aload_n (pc := 1259) hG dL_law_1259 rfl ?_
  refine r_aloadR (pc := 1260) hG dL_law_1260 rfl ?_
  refine r_iload_n (pc := 1261) hG dL_law_1261 rfl ?_
  refine r_iconst (v := nI 1) (pc := 1262) hG dL_law_1262 rfl ?_
  refine r_iadd (pc := 1263) hG dL_law_1263 ?_
  refine r_sld (pc := 1264) (j := i + 1) hG hX dL_law_1264 (ix_sc hi hL (by omega)) ?_
  refine r_aloadR (pc := 1265) hG dL_law_1265 rfl ?_
  refine r_iload_n (pc := 1266) hG dL_law_1266 rfl ?_
  refine r_iconst (v := nI 2) (pc := 1267) hG dL_law_1267 rfl ?_
  refine r_iadd (pc := 1268) hG dL_law_1268 ?_
  refine r_sld (pc := 1269) (j := i + 2) hG hX dL_law_1269 (ix_sc hi hL (by omega)) ?_
  refine r_aloadR (pc := 1270) hG dL_law_1270 rfl ?_
  refine r_iload_n (pc := 1271) hG dL_law_1271 rfl ?_
  refine r_iconst (v := nI 3) (pc := 1272) hG dL_law_1272 rfl ?_
  refine r_iadd (pc := 1273) hG dL_law_1273 ?_
  refine r_sld (pc := 1274) (j := i + 3) hG hX dL_law_1274 (ix_sc hi hL (by omega)) ?_
  obtain ⟨q1, q2, q3, q4⟩ := fin_kinds hx hr (a0 := (xs (i + 1))) (a1 := (xs (i + 2))) (a2 := (xs (i + 3)))
  refine cv_X8_kinds (pc := 1275) hG dL_law_1275 tw_886 (c_X8_kinds hx) (by decide) (Nat.le_of_ble_eq_true rfl) ?_
  generalize sp_X8_kinds M (xs (i + 1)) (xs (i + 2)) (xs (i + 3)) = p at q1 q2 q3 q4 ⊢
  refine r_aload_n (pc := 1278) hG dL_law_1278 rfl ?_
  refine r_aloadR (pc := 1279) hG dL_law_1279 rfl ?_
  refine r_iload_n (pc := 1280) hG dL_law_1280 rfl ?_
  refine r_iconst (v := nI 1) (pc := 1281) hG dL_law_1281 rfl ?_
  refine r_iadd (pc := 1282) hG dL_law_1282 ?_
  refine r_sld (pc := 1283) (j := i + 1) hG hX dL_law_1283 (ix_sc hi hL (by omega)) ?_
  refine r_aloadR (pc := 1284) hG dL_law_1284 rfl ?_
  refine r_iload_n (pc := 1285) hG dL_law_1285 rfl ?_
  refine r_iconst (v := nI 2) (pc := 1286) hG dL_law_1286 rfl ?_
  refine r_iadd (pc := 1287) hG dL_law_1287 ?_
  refine r_sld (pc := 1288) (j := i + 2) hG hX dL_law_1288 (ix_sc hi hL (by omega)) ?_
  refine r_aloadR (pc := 1289) hG dL_law_1289 rfl ?_
  refine r_iload_n (pc := 1290) hG dL_law_1290 rfl ?_
  refine r_iconst (v := nI 3) (pc := 1291) hG dL_law_1291 rfl ?_
  refine r_iadd (pc := 1292) hG dL_law_1292 ?_
  refine r_sld (pc := 1293) (j := i + 3) hG hX dL_law_1293 (ix_sc hi hL (by omega)) ?_
  refine cv_X9_kinds (pc := 1294) hG dL_law_1294 tw_1550 (c_X9_kinds q1) (by decide) (Nat.le_of_ble_eq_true rfl) ?_
  generalize sp_X9_kinds p.2 (xs (i + 1)) (xs (i + 2)) (xs (i + 3)) = q at q2 q3 q4 ⊢
  refine r_icmp_eq (pc := 1297) (tgt := 2152) hG dL_law_1297 (by decide) (fun _ => hn _ q3 q4) (fun c => absurd q2 c)
theorem law_29 (hG : GF G K RL cL_law 13) (hX : SC G K b L xs) (hL : L ≤ 3072) (hi : i + 6 ≤ L) (hx : OKX M) (hr : R2 M M) (hn : NX G K b i) : J G K M 1302 [some (.ref b), some (rf K 0), some (rf K 140), some (.int (nI i))] [] := by
  refine r_aload_n (pc := 1302) hG dL_law_1302 rfl ?_
  refine r_aloadR (pc := 1303) hG dL_law_1303 rfl ?_
  refine r_iload_n (pc := 1304) hG dL_law_1304 rfl ?_
  refine r_iconst (v := nI 1) (pc := 1305) hG dL_law_1305 rfl ?_
  refine r_iadd (pc := 1306) hG dL_law_1306 ?_
  refine r_sld (pc := 1307) (j := i + 1) hG hX dL_law_1307 (ix_sc hi hL (by omega)) ?_
  refine r_aloadR (pc := 1308) hG dL_law_1308 rfl ?_
  refine r_iload_n (pc := 1309) hG dL_law_1309 rfl ?_
  refine r_iconst (v := nI 2) (pc := 1310) hG dL_law_1310 rfl ?_
  refine r_iadd (pc := 1311) hG dL_law_1311 ?_
  refine r_sld (pc := 1312) (j := i + 2) hG hX dL_law_1312 (ix_sc hi hL (by omega)) ?_
  refine r_aloadR (pc := 1313) hG dL_law_1313 rfl ?_
  refine r_iload_n (pc := 1314) hG dL_law_1314 rfl ?_
  refine r_iconst (v := nI 3) (pc := 1315) hG dL_law_1315 rfl ?_
  refine r_iadd (pc := 1316) hG dL_law_1316 ?_
  refine r_sld (pc := 1317) (j := i + 3) hG hX dL_law_1317 (ix_sc hi hL (by omega)) ?_
  refine r_aloadR (pc := 1318) hG dL_law_1318 rfl ?_
  refine r_iload_n (pc := 1319) hG dL_law_1319 rfl ?_
  refine r_iconst (v := nI 4) (pc := 1320) hG dL_law_1320 rfl ?_
  refine r_iadd (pc := 1321) hG dL_law_1321 ?_
  refine r_sld (pc := 1322) (j := i + 4) hG hX dL_law_1322 (ix_sc hi hL (by omega)) ?_
  obtain ⟨q1, q2, q3, q4⟩ := fin_chance hx hr (a0 := (xs (i + 1))) (a1 := (xs (i + 2))) (a2 := (xs (i + 3))) (a3 := (xs (i + 4)))
  refine cv_X8_chance (pc := 1323) hG dL_law_1323 tw_902 (c_X8_chance hx) (by decide) (Nat.le_of_ble_eq_true rfl) ?_
  generalize sp_X8_chance M (xs (i + 1)) (xs (i + 2)) (xs (i + 3)) (xs (i + 4)) = p at q1 q2 q3 q4 ⊢
  refine r_aload_n (pc := 1326) hG dL_law_1326 rfl ?_
  refine r_aloadR (pc := 1327) hG dL_law_1327 rfl ?_
  refine r_iload_n (pc := 1328) hG dL_law_1328 rfl ?_
  refine r_iconst (v := nI 1) (pc := 1329) hG dL_law_1329 rfl ?_
  refine r_iadd (pc := 1330) hG dL_law_1330 ?_
  refine r_sld (pc := 1331) (j := i + 1) hG hX dL_law_1331 (ix_sc hi hL (by omega)) ?_
  refine r_aloadR (pc := 1332) hG dL_law_1332 rfl ?_
  refine r_iload_n (pc := 1333) hG dL_law_1333 rfl ?_
  refine r_iconst (v := nI 2) (pc := 1334) hG dL_law_1334 rfl ?_
  refine r_iadd (pc := 1335) hG dL_law_1335 ?_
  refine r_sld (pc := 1336) (j := i + 2) hG hX dL_law_1336 (ix_sc hi hL (by omega)) ?_
  refine r_aloadR (pc := 1337) hG dL_law_1337 rfl ?_
  refine r_iload_n (pc := 1338) hG dL_law_1338 rfl ?_
  refine r_iconst (v := nI 3) (pc := 1339) hG dL_law_1339 rfl ?_
  refine r_iadd (pc := 1340) hG dL_law_1340 ?_
  refine r_sld (pc := 1341) (j := i + 3) hG hX dL_law_1341 (ix_sc hi hL (by omega)) ?_
  refine r_aloadR (pc := 1342) hG dL_law_1342 rfl ?_
  refine r_iload_n (pc := 1343) hG dL_law_1343 rfl ?_
  refine r_iconst (v := nI 4) (pc := 1344) hG dL_law_1344 rfl ?_
  refine r_iadd (pc := 1345) hG dL_law_1345 ?_
  refine r_sld (pc := 1346) (j := i + 4) hG hX dL_law_1346 (ix_sc hi hL (by omega)) ?_
  refine cv_X9_chance (pc := 1347) hG dL_law_1347 tw_1554 (c_X9_chance q1) (by decide) (Nat.le_of_ble_eq_true rfl) ?_
  generalize sp_X9_chance p.2 (xs (i + 1)) (xs (i + 2)) (xs (i + 3)) (xs (i + 4)) = q at q2 q3 q4 ⊢
  refine r_icmp_eq (pc := 1350) (tgt := 2152) hG dL_law_1350 (by decide) (fun _ => hn _ q3 q4) (fun c => absurd q2 c)
theorem law_30 (hG : GF G K RL cL_law 13) (hX : SC G K b L xs) (hL : L ≤ 3072) (hi : i + 6 ≤ L) (hx : OKX M) (hr : R2 M M) (hn : NX G K b i) : J G K M 1355 [some (.ref b), some (rf K 0), some (rf K 140), some (.int (nI i))] [] := by
  refine r_aload_n (pc := 1355) hG dL_law_1355 rfl ?_
  refine r_aloadR (pc := 1356) hG dL_law_1356 rfl ?_
  refine r_iload_n (pc := 1357) hG dL_law_1357 rfl ?_
  refine r_iconst (v := nI 1) (pc := 1358) hG dL_law_1358 rfl ?_
  refine r_iadd (pc := 1359) hG dL_law_1359 ?_
  refine r_sld (pc := 1360) (j := i + 1) hG hX dL_law_1360 (ix_sc hi hL (by omega)) ?_
  refine r_aloadR (pc := 1361) hG dL_law_1361 rfl ?_
  refine r_iload_n (pc := 1362) hG dL_law_1362 rfl ?_
  refine r_iconst (v := nI 2) (pc := 1363) hG dL_law_1363 rfl ?_
  refine r_iadd (pc := 1364) hG dL_law_1364 ?_
  refine r_sld (pc := 1365) (j := i + 2) hG hX dL_law_1365 (ix_sc hi hL (by omega)) ?_
  obtain ⟨q1, q2, q3, q4⟩ := fin_safest hx hr (a0 := (xs (i + 1))) (a1 := (xs (i + 2)))
  refine cv_X8_safest (pc := 1366) hG dL_law_1366 tw_912 (c_X8_safest hx) (by decide) (Nat.le_of_ble_eq_true rfl) ?_
  generalize sp_X8_safest M (xs (i + 1)) (xs (i + 2)) = p at q1 q2 q3 q4 ⊢
  refine r_aload_n (pc := 1369) hG dL_law_1369 rfl ?_
  refine r_aloadR (pc := 1370) hG dL_law_1370 rfl ?_
  refine r_iload_n (pc := 1371) hG dL_law_1371 rfl ?_
  refine r_iconst (v := nI 1) (pc := 1372) hG dL_law_1372 rfl ?_
  refine r_iadd (pc := 1373) hG dL_law_1373 ?_
  refine r_sld (pc := 1374) (j := i + 1) hG hX dL_law_1374 (ix_sc hi hL (by omega)) ?_
  refine r_aloadR (pc := 1375) hG dL_law_1375 rfl ?_
  refine r_iload_n (pc := 1376) hG dL_law_1376 rfl ?_
  refine r_iconst (v := nI 2) (pc := 1377) hG dL_law_1377 rfl ?_
  refine r_iadd (pc := 1378) hG dL_law_1378 ?_
  refine r_sld (pc := 1379) (j := i + 2) hG hX dL_law_1379 (ix_sc hi hL (by omega)) ?_
  refine cv_X9_safest (pc := 1380) hG dL_law_1380 tw_1563 (c_X9_safest q1) (by decide) (Nat.le_of_ble_eq_true rfl) ?_
  generalize sp_X9_safest p.2 (xs (i + 1)) (xs (i + 2)) = q at q2 q3 q4 ⊢
  refine r_icmp_eq (pc := 1383) (tgt := 2152) hG dL_law_1383 (by decide) (fun _ => hn _ q3 q4) (fun c => absurd q2 c)
theorem law_31 (hG : GF G K RL cL_law 13) (hX : SC G K b L xs) (hL : L ≤ 3072) (hi : i + 6 ≤ L) (hx : OKX M) (hr : R2 M M) (hn : NX G K b i) : J G K M 1388 [some (.ref b), some (rf K 0), some (rf K 140), some (.int (nI i))] [] := by
  refine r_aload_n (pc := 1388) hG dL_law_1388 rfl ?_
  refine r_aloadR (pc := 1389) hG dL_law_1389 rfl ?_
  refine r_iload_n (pc := 1390) hG dL_law_1390 rfl ?_
  refine r_iconst (v := nI 1) (pc := 1391) hG dL_law_1391 rfl ?_
  refine r_iadd (pc := 1392) hG dL_law_1392 ?_
  refine r_sld (pc := 1393) (j := i + 1) hG hX dL_law_1393 (ix_sc hi hL (by omega)) ?_
  refine r_aloadR (pc := 1394) hG dL_law_1394 rfl ?_
  refine r_iload_n (pc := 1395) hG dL_law_1395 rfl ?_
  refine r_iconst (v := nI 2) (pc := 1396) hG dL_law_1396 rfl ?_
  refine r_iadd (pc := 1397) hG dL_law_1397 ?_
  refine r_sld (pc := 1398) (j := i + 2) hG hX dL_law_1398 (ix_sc hi hL (by omega)) ?_
  obtain ⟨q1, q2, q3, q4⟩ := fin_queue hx hr (a0 := (xs (i + 1))) (a1 := (xs (i + 2)))
  refine cv_X8_queue (pc := 1399) hG dL_law_1399 tw_921 (c_X8_queue hx) (by decide) (Nat.le_of_ble_eq_true rfl) ?_
  generalize sp_X8_queue M (xs (i + 1)) (xs (i + 2)) = p at q1 q2 q3 q4 ⊢
  refine r_aload_n (pc := 1402) hG dL_law_1402 rfl ?_
  refine r_aloadR (pc := 1403) hG dL_law_1403 rfl ?_
  refine r_iload_n (pc := 1404) hG dL_law_1404 rfl ?_
  refine r_iconst (v := nI 1) (pc := 1405) hG dL_law_1405 rfl ?_
  refine r_iadd (pc := 1406) hG dL_law_1406 ?_
  refine r_sld (pc := 1407) (j := i + 1) hG hX dL_law_1407 (ix_sc hi hL (by omega)) ?_
  refine r_aloadR (pc := 1408) hG dL_law_1408 rfl ?_
  refine r_iload_n (pc := 1409) hG dL_law_1409 rfl ?_
  refine r_iconst (v := nI 2) (pc := 1410) hG dL_law_1410 rfl ?_
  refine r_iadd (pc := 1411) hG dL_law_1411 ?_
  refine r_sld (pc := 1412) (j := i + 2) hG hX dL_law_1412 (ix_sc hi hL (by omega)) ?_
  refine cv_X9_queue (pc := 1413) hG dL_law_1413 tw_1571 (c_X9_queue q1) (by decide) (Nat.le_of_ble_eq_true rfl) ?_
  generalize sp_X9_queue p.2 (xs (i + 1)) (xs (i + 2)) = q at q2 q3 q4 ⊢
  refine r_icmp_eq (pc := 1416) (tgt := 2152) hG dL_law_1416 (by decide) (fun _ => hn _ q3 q4) (fun c => absurd q2 c)
theorem law_32 (hG : GF G K RL cL_law 13) (hX : SC G K b L xs) (hL : L ≤ 3072) (hi : i + 6 ≤ L) (hx : OKX M) (hr : R2 M M) (hn : NX G K b i) : J G K M 1421 [some (.ref b), some (rf K 0), some (rf K 140), some (.int (nI i))] [] := by
  refine r_aload_n (pc := 1421) hG dL_law_1421 rfl ?_
  refine r_aloadR (pc := 1422) hG dL_law_1422 rfl ?_
  refine r_iload_n (pc := 1423) hG dL_law_1423 rfl ?_
  refine r_iconst (v := nI 1) (pc := 1424) hG dL_law_1424 rfl ?_
  refine r_iadd (pc := 1425) hG dL_law_1425 ?_
  refine r_sld (pc := 1426) (j := i + 1) hG hX dL_law_1426 (ix_sc hi hL (by omega)) ?_
  obtain ⟨q1, q2, q3, q4⟩ := fin_longest hx hr (a0 := (xs (i + 1)))
  refine cv_X8_longest (pc := 1427) hG dL_law_1427 tw_929 (c_X8_longest hx) (by decide) (Nat.le_of_ble_eq_true rfl) ?_
  generalize sp_X8_longest M (xs (i + 1)) = p at q1 q2 q3 q4 ⊢
  refine r_aload_n (pc := 1430) hG dL_law_1430 rfl ?_
  refine r_aloadR (pc := 1431) hG dL_law_1431 rfl ?_
  refine r_iload_n (pc := 1432) hG dL_law_1432 rfl ?_
  refine r_iconst (v := nI 1) (pc := 1433) hG dL_law_1433 rfl ?_
  refine r_iadd (pc := 1434) hG dL_law_1434 ?_
  refine r_sld (pc := 1435) (j := i + 1) hG hX dL_law_1435 (ix_sc hi hL (by omega)) ?_
  refine cv_X9_longest (pc := 1436) hG dL_law_1436 tw_1579 (c_X9_longest q1) (by decide) (Nat.le_of_ble_eq_true rfl) ?_
  generalize sp_X9_longest p.2 (xs (i + 1)) = q at q2 q3 q4 ⊢
  refine r_icmp_eq (pc := 1439) (tgt := 2152) hG dL_law_1439 (by decide) (fun _ => hn _ q3 q4) (fun c => absurd q2 c)
theorem law_33 (hG : GF G K RL cL_law 13) (hX : SC G K b L xs) (hL : L ≤ 3072) (hi : i + 6 ≤ L) (hx : OKX M) (hr : R2 M M) (hn : NX G K b i) : J G K M 1444 [some (.ref b), some (rf K 0), some (rf K 140), some (.int (nI i))] [] := by
  refine r_aload_n (pc := 1444) hG dL_law_1444 rfl ?_
  refine r_aloadR (pc := 1445) hG dL_law_1445 rfl ?_
  refine r_iload_n (pc := 1446) hG dL_law_1446 rfl ?_
  refine r_iconst (v := nI 1) (pc := 1447) hG dL_law_1447 rfl ?_
  refine r_iadd (pc := 1448) hG dL_law_1448 ?_
  refine r_sld (pc := 1449) (j := i + 1) hG hX dL_law_1449 (ix_sc hi hL (by omega)) ?_
  refine r_aloadR (pc := 1450) hG dL_law_1450 rfl ?_
  refine r_iload_n (pc := 1451) hG dL_law_1451 rfl ?_
  refine r_iconst (v := nI 2) (pc := 1452) hG dL_law_1452 rfl ?_
  refine r_iadd (pc := 1453) hG dL_law_1453 ?_
  refine r_sld (pc := 1454) (j := i + 2) hG hX dL_law_1454 (ix_sc hi hL (by omega)) ?_
  obtain ⟨q1, q2, q3, q4⟩ := fin_move hx hr (a0 := (xs (i + 1))) (a1 := (xs (i + 2)))
  refine cv_X8_move (pc := 1455) hG dL_law_1455 tw_942 (c_X8_move hx) (by decide) (Nat.le_of_ble_eq_true rfl) ?_
  generalize sp_X8_move M (xs (i + 1)) (xs (i + 2)) = p at q1 q2 q3 q4 ⊢
  refine r_aload_n (pc := 1458) hG dL_law_1458 rfl ?_
  refine r_aloadR (pc := 1459) hG dL_law_1459 rfl ?_
  refine r_iload_n (pc := 1460) hG dL_law_1460 rfl ?_
  refine r_iconst (v := nI 1) (pc := 1461) hG dL_law_1461 rfl ?_
  refine r_iadd (pc := 1462) hG dL_law_1462 ?_
  refine r_sld (pc := 1463) (j := i + 1) hG hX dL_law_1463 (ix_sc hi hL (by omega)) ?_
  refine r_aloadR (pc := 1464) hG dL_law_1464 rfl ?_
  refine r_iload_n (pc := 1465) hG dL_law_1465 rfl ?_
  refine r_iconst (v := nI 2) (pc := 1466) hG dL_law_1466 rfl ?_
  refine r_iadd (pc := 1467) hG dL_law_1467 ?_
  refine r_sld (pc := 1468) (j := i + 2) hG hX dL_law_1468 (ix_sc hi hL (by omega)) ?_
  refine cv_X9_move (pc := 1469) hG dL_law_1469 tw_1583 (c_X9_move q1) (by decide) (Nat.le_of_ble_eq_true rfl) ?_
  generalize sp_X9_move p.2 (xs (i + 1)) (xs (i + 2)) = q at q2 q3 q4 ⊢
  refine r_icmp_eq (pc := 1472) (tgt := 2152) hG dL_law_1472 (by decide) (fun _ => hn _ q3 q4) (fun c => absurd q2 c)
theorem law_34 (hG : GF G K RL cL_law 13) (hX : SC G K b L xs) (hL : L ≤ 3072) (hi : i + 6 ≤ L) (hx : OKX M) (hr : R2 M M) (hn : NX G K b i) : J G K M 1477 [some (.ref b), some (rf K 0), some (rf K 140), some (.int (nI i))] [] := by
  refine r_aload_n (pc := 1477) hG dL_law_1477 rfl ?_
  refine r_aloadR (pc := 1478) hG dL_law_1478 rfl ?_
  refine r_iload_n (pc := 1479) hG dL_law_1479 rfl ?_
  refine r_iconst (v := nI 1) (pc := 1480) hG dL_law_1480 rfl ?_
  refine r_iadd (pc := 1481) hG dL_law_1481 ?_
  refine r_sld (pc := 1482) (j := i + 1) hG hX dL_law_1482 (ix_sc hi hL (by omega)) ?_
  refine r_aloadR (pc := 1483) hG dL_law_1483 rfl ?_
  refine r_iload_n (pc := 1484) hG dL_law_1484 rfl ?_
  refine r_iconst (v := nI 2) (pc := 1485) hG dL_law_1485 rfl ?_
  refine r_iadd (pc := 1486) hG dL_law_1486 ?_
  refine r_sld (pc := 1487) (j := i + 2) hG hX dL_law_1487 (ix_sc hi hL (by omega)) ?_
  refine r_aloadR (pc := 1488) hG dL_law_1488 rfl ?_
  refine r_iload_n (pc := 1489) hG dL_law_1489 rfl ?_
  refine r_iconst (v := nI 3) (pc := 1490) hG dL_law_1490 rfl ?_
  refine r_iadd (pc := 1491) hG dL_law_1491 ?_
  refine r_sld (pc := 1492) (j := i + 3) hG hX dL_law_1492 (ix_sc hi hL (by omega)) ?_
  refine r_aloadR (pc := 1493) hG dL_law_1493 rfl ?_
  refine r_iload_n (pc := 1494) hG dL_law_1494 rfl ?_
  refine r_iconst (v := nI 4) (pc := 1495) hG dL_law_1495 rfl ?_
  refine r_iadd (pc := 1496) hG dL_law_1496 ?_
  refine r_sld (pc := 1497) (j := i + 4) hG hX dL_law_1497 (ix_sc hi hL (by omega)) ?_
  obtain ⟨q1, q2, q3, q4⟩ := fin_rival hx hr (a0 := (xs (i + 1))) (a1 := (xs (i + 2))) (a2 := (xs (i + 3))) (a3 := (xs (i + 4)))
  refine cv_X8_rival (pc := 1498) hG dL_law_1498 tw_959 (c_X8_rival hx) (by decide) (Nat.le_of_ble_eq_true rfl) ?_
  generalize sp_X8_rival M (xs (i + 1)) (xs (i + 2)) (xs (i + 3)) (xs (i + 4)) = p at q1 q2 q3 q4 ⊢
  refine r_aload_n (pc := 1501) hG dL_law_1501 rfl ?_
  refine r_aloadR (pc := 1502) hG dL_law_1502 rfl ?_
  refine r_iload_n (pc := 1503) hG dL_law_1503 rfl ?_
  refine r_iconst (v := nI 1) (pc := 1504) hG dL_law_1504 rfl ?_
  refine r_iadd (pc := 1505) hG dL_law_1505 ?_
  refine r_sld (pc := 1506) (j := i + 1) hG hX dL_law_1506 (ix_sc hi hL (by omega)) ?_
  refine r_aloadR (pc := 1507) hG dL_law_1507 rfl ?_
  refine r_iload_n (pc := 1508) hG dL_law_1508 rfl ?_
  refine r_iconst (v := nI 2) (pc := 1509) hG dL_law_1509 rfl ?_
  refine r_iadd (pc := 1510) hG dL_law_1510 ?_
  refine r_sld (pc := 1511) (j := i + 2) hG hX dL_law_1511 (ix_sc hi hL (by omega)) ?_
  refine r_aloadR (pc := 1512) hG dL_law_1512 rfl ?_
  refine r_iload_n (pc := 1513) hG dL_law_1513 rfl ?_
  refine r_iconst (v := nI 3) (pc := 1514) hG dL_law_1514 rfl ?_
  refine r_iadd (pc := 1515) hG dL_law_1515 ?_
  refine r_sld (pc := 1516) (j := i + 3) hG hX dL_law_1516 (ix_sc hi hL (by omega)) ?_
  refine r_aloadR (pc := 1517) hG dL_law_1517 rfl ?_
  refine r_iload_n (pc := 1518) hG dL_law_1518 rfl ?_
  refine r_iconst (v := nI 4) (pc := 1519) hG dL_law_1519 rfl ?_
  refine r_iadd (pc := 1520) hG dL_law_1520 ?_
  refine r_sld (pc := 1521) (j := i + 4) hG hX dL_law_1521 (ix_sc hi hL (by omega)) ?_
  refine cv_X9_rival (pc := 1522) hG dL_law_1522 tw_1587 (c_X9_rival q1) (by decide) (Nat.le_of_ble_eq_true rfl) ?_
  generalize sp_X9_rival p.2 (xs (i + 1)) (xs (i + 2)) (xs (i + 3)) (xs (i + 4)) = q at q2 q3 q4 ⊢
  refine r_icmp_eq (pc := 1525) (tgt := 2152) hG dL_law_1525 (by decide) (fun _ => hn _ q3 q4) (fun c => absurd q2 c)
theorem law_35 (hG : GF G K RL cL_law 13) (hX : SC G K b L xs) (hL : L ≤ 3072) (hi : i + 6 ≤ L) (hx : OKX M) (hr : R2 M M) (hn : NX G K b i) : J G K M 1530 [some (.ref b), some (rf K 0), some (rf K 140), some (.int (nI i))] [] := by
  refine r_aload_n (pc := 1530) hG dL_law_1530 rfl ?_
  refine r_aloadR (pc := 1531) hG dL_law_1531 rfl ?_
  refine r_iload_n (pc := 1532) hG dL_law_1532 rfl ?_
  refine r_iconst (v := nI 1) (pc := 1533) hG dL_law_1533 rfl ?_
  refine r_iadd (pc := 1534) hG dL_law_1534 ?_
  refine r_sld (pc := 1535) (j := i + 1) hG hX dL_law_1535 (ix_sc hi hL (by omega)) ?_
  obtain ⟨q1, q2, q3, q4⟩ := fin_having hx hr (a0 := (xs (i + 1)))
  refine cv_X8_having (pc := 1536) hG dL_law_1536 tw_964 (c_X8_having hx) (by decide) (Nat.le_of_ble_eq_true rfl) ?_
  generalize sp_X8_having M (xs (i + 1)) = p at q1 q2 q3 q4 ⊢
  refine r_aload_n (pc := 1539) hG dL_law_1539 rfl ?_
  refine r_aloadR (pc := 1540) hG dL_law_1540 rfl ?_
  refine r_iload_n (pc := 1541) hG dL_law_1541 rfl ?_
  refine r_iconst (v := nI 1) (pc := 1542) hG dL_law_1542 rfl ?_
  refine r_iadd (pc := 1543) hG dL_law_1543 ?_
  refine r_sld (pc := 1544) (j := i + 1) hG hX dL_law_1544 (ix_sc hi hL (by omega)) ?_
  refine cv_X9_having (pc := 1545) hG dL_law_1545 tw_1591 (c_X9_having q1) (by decide) (Nat.le_of_ble_eq_true rfl) ?_
  generalize sp_X9_having p.2 (xs (i + 1)) = q at q2 q3 q4 ⊢
  refine r_icmp_eq (pc := 1548) (tgt := 2152) hG dL_law_1548 (by decide) (fun _ => hn _ q3 q4) (fun c => absurd q2 c)
theorem law_36 (hG : GF G K RL cL_law 13) (hX : SC G K b L xs) (hL : L ≤ 3072) (hi : i + 6 ≤ L) (hx : OKX M) (hr : R2 M M) (hn : NX G K b i) : J G K M 1553 [some (.ref b), some (rf K 0), some (rf K 140), some (.int (nI i))] [] := by
  refine r_aload_n (pc := 1553) hG dL_law_1553 rfl ?_
  refine r_aloadR (pc := 1554) hG dL_law_1554 rfl ?_
  refine r_iload_n (pc := 1555) hG dL_law_1555 rfl ?_
  refine r_iconst (v := nI 1) (pc := 1556) hG dL_law_1556 rfl ?_
  refine r_iadd (pc := 1557) hG dL_law_1557 ?_
  refine r_sld (pc := 1558) (j := i + 1) hG hX dL_law_1558 (ix_sc hi hL (by omega)) ?_
  obtain ⟨q1, q2, q3, q4⟩ := fin_due hx hr (a0 := (xs (i + 1)))
  refine cv_X8_due (pc := 1559) hG dL_law_1559 tw_980 (c_X8_due hx) (by decide) (Nat.le_of_ble_eq_true rfl) ?_
  generalize sp_X8_due M (xs (i + 1)) = p at q1 q2 q3 q4 ⊢
  refine r_aload_n (pc := 1562) hG dL_law_1562 rfl ?_
  refine r_aloadR (pc := 1563) hG dL_law_1563 rfl ?_
  refine r_iload_n (pc := 1564) hG dL_law_1564 rfl ?_
  refine r_iconst (v := nI 1) (pc := 1565) hG dL_law_1565 rfl ?_
  refine r_iadd (pc := 1566) hG dL_law_1566 ?_
  refine r_sld (pc := 1567) (j := i + 1) hG hX dL_law_1567 (ix_sc hi hL (by omega)) ?_
  refine cv_X9_due (pc := 1568) hG dL_law_1568 tw_1600 (c_X9_due q1) (by decide) (Nat.le_of_ble_eq_true rfl) ?_
  generalize sp_X9_due p.2 (xs (i + 1)) = q at q2 q3 q4 ⊢
  refine r_icmp_eq (pc := 1571) (tgt := 2152) hG dL_law_1571 (by decide) (fun _ => hn _ q3 q4) (fun c => absurd q2 c)
theorem law_37 (hG : GF G K RL cL_law 13) (hX : SC G K b L xs) (hL : L ≤ 3072) (hi : i + 6 ≤ L) (hx : OKX M) (hr : R2 M M) (hn : NX G K b i) : J G K M 1576 [some (.ref b), some (rf K 0), some (rf K 140), some (.int (nI i))] [] := by
  refine r_aload_n (pc := 1576) hG dL_law_1576 rfl ?_
  refine r_aloadR (pc := 1577) hG dL_law_1577 rfl ?_
  refine r_iload_n (pc := 1578) hG dL_law_1578 rfl ?_
  refine r_iconst (v := nI 1) (pc := 1579) hG dL_law_1579 rfl ?_
  refine r_iadd (pc := 1580) hG dL_law_1580 ?_
  refine r_sld (pc := 1581) (j := i + 1) hG hX dL_law_1581 (ix_sc hi hL (by omega)) ?_
  refine r_aloadR (pc := 1582) hG dL_law_1582 rfl ?_
  refine r_iload_n (pc := 1583) hG dL_law_1583 rfl ?_
  refine r_iconst (v := nI 2) (pc := 1584) hG dL_law_1584 rfl ?_
  refine r_iadd (pc := 1585) hG dL_law_1585 ?_
  refine r_sld (pc := 1586) (j := i + 2) hG hX dL_law_1586 (ix_sc hi hL (by omega)) ?_
  obtain ⟨q1, q2, q3, q4⟩ := fin_lentFor hx hr (a0 := (xs (i + 1))) (a1 := (xs (i + 2)))
  refine cv_X8_lentFor (pc := 1587) hG dL_law_1587 tw_989 (c_X8_lentFor hx) (by decide) (Nat.le_of_ble_eq_true rfl) ?_
  generalize sp_X8_lentFor M (xs (i + 1)) (xs (i + 2)) = p at q1 q2 q3 q4 ⊢
  refine r_aload_n (pc := 1590) hG dL_law_1590 rfl ?_
  refine r_aloadR (pc := 1591) hG dL_law_1591 rfl ?_
  refine r_iload_n (pc := 1592) hG dL_law_1592 rfl ?_
  refine r_iconst (v := nI 1) (pc := 1593) hG dL_law_1593 rfl ?_
  refine r_iadd (pc := 1594) hG dL_law_1594 ?_
  refine r_sld (pc := 1595) (j := i + 1) hG hX dL_law_1595 (ix_sc hi hL (by omega)) ?_
  refine r_aloadR (pc := 1596) hG dL_law_1596 rfl ?_
  refine r_iload_n (pc := 1597) hG dL_law_1597 rfl ?_
  refine r_iconst (v := nI 2) (pc := 1598) hG dL_law_1598 rfl ?_
  refine r_iadd (pc := 1599) hG dL_law_1599 ?_
  refine r_sld (pc := 1600) (j := i + 2) hG hX dL_law_1600 (ix_sc hi hL (by omega)) ?_
  refine cv_X9_lentFor (pc := 1601) hG dL_law_1601 tw_1605 (c_X9_lentFor q1) (by decide) (Nat.le_of_ble_eq_true rfl) ?_
  generalize sp_X9_lentFor p.2 (xs (i + 1)) (xs (i + 2)) = q at q2 q3 q4 ⊢
  refine r_icmp_eq (pc := 1604) (tgt := 2152) hG dL_law_1604 (by decide) (fun _ => hn _ q3 q4) (fun c => absurd q2 c)
theorem law_38 (hG : GF G K RL cL_law 13) (hX : SC G K b L xs) (hL : L ≤ 3072) (hi : i + 6 ≤ L) (hx : OKX M) (hr : R2 M M) (hn : NX G K b i) : J G K M 1609 [some (.ref b), some (rf K 0), some (rf K 140), some (.int (nI i))] [] := by
  refine r_aload_n (pc := 1609) hG dL_law_1609 rfl ?_
  refine r_aloadR (pc := 1610) hG dL_law_1610 rfl ?_
  refine r_iload_n (pc := 1611) hG dL_law_1611 rfl ?_
  refine r_iconst (v := nI 1) (pc := 1612) hG dL_law_1612 rfl ?_
  refine r_iadd (pc := 1613) hG dL_law_1613 ?_
  refine r_sld (pc := 1614) (j := i + 1) hG hX dL_law_1614 (ix_sc hi hL (by omega)) ?_
  obtain ⟨q1, q2, q3, q4⟩ := fin_best hx hr (a0 := (xs (i + 1)))
  refine cv_X8_best (pc := 1615) hG dL_law_1615 tw_994 (c_X8_best hx) (by decide) (Nat.le_of_ble_eq_true rfl) ?_
  generalize sp_X8_best M (xs (i + 1)) = p at q1 q2 q3 q4 ⊢
  refine r_aload_n (pc := 1618) hG dL_law_1618 rfl ?_
  refine r_aloadR (pc := 1619) hG dL_law_1619 rfl ?_
  refine r_iload_n (pc := 1620) hG dL_law_1620 rfl ?_
  refine r_iconst (v := nI 1) (pc := 1621) hG dL_law_1621 rfl ?_
  refine r_iadd (pc := 1622) hG dL_law_1622 ?_
  refine r_sld (pc := 1623) (j := i + 1) hG hX dL_law_1623 (ix_sc hi hL (by omega)) ?_
  refine cv_X9_best (pc := 1624) hG dL_law_1624 tw_1609 (c_X9_best q1) (by decide) (Nat.le_of_ble_eq_true rfl) ?_
  generalize sp_X9_best p.2 (xs (i + 1)) = q at q2 q3 q4 ⊢
  refine r_icmp_eq (pc := 1627) (tgt := 2152) hG dL_law_1627 (by decide) (fun _ => hn _ q3 q4) (fun c => absurd q2 c)
theorem law_39 (hG : GF G K RL cL_law 13) (hX : SC G K b L xs) (hL : L ≤ 3072) (hi : i + 6 ≤ L) (hx : OKX M) (hr : R2 M M) (hn : NX G K b i) : J G K M 1632 [some (.ref b), some (rf K 0), some (rf K 140), some (.int (nI i))] [] := by
  refine r_aload_n (pc := 1632) hG dL_law_1632 rfl ?_
  refine r_aloadR (pc := 1633) hG dL_law_1633 rfl ?_
  refine r_iload_n (pc := 1634) hG dL_law_1634 rfl ?_
  refine r_iconst (v := nI 1) (pc := 1635) hG dL_law_1635 rfl ?_
  refine r_iadd (pc := 1636) hG dL_law_1636 ?_
  refine r_sld (pc := 1637) (j := i + 1) hG hX dL_law_1637 (ix_sc hi hL (by omega)) ?_
  obtain ⟨q1, q2, q3, q4⟩ := fin_bed hx hr (a0 := (xs (i + 1)))
  refine cv_X8_bed (pc := 1638) hG dL_law_1638 tw_1010 (c_X8_bed hx) (by decide) (Nat.le_of_ble_eq_true rfl) ?_
  generalize sp_X8_bed M (xs (i + 1)) = p at q1 q2 q3 q4 ⊢
  refine r_aload_n (pc := 1641) hG dL_law_1641 rfl ?_
  refine r_aloadR (pc := 1642) hG dL_law_1642 rfl ?_
  refine r_iload_n (pc := 1643) hG dL_law_1643 rfl ?_
  refine r_iconst (v := nI 1) (pc := 1644) hG dL_law_1644 rfl ?_
  refine r_iadd (pc := 1645) hG dL_law_1645 ?_
  refine r_sld (pc := 1646) (j := i + 1) hG hX dL_law_1646 (ix_sc hi hL (by omega)) ?_
  refine cv_X9_bed (pc := 1647) hG dL_law_1647 tw_1614 (c_X9_bed q1) (by decide) (Nat.le_of_ble_eq_true rfl) ?_
  generalize sp_X9_bed p.2 (xs (i + 1)) = q at q2 q3 q4 ⊢
  refine r_icmp_eq (pc := 1650) (tgt := 2152) hG dL_law_1650 (by decide) (fun _ => hn _ q3 q4) (fun c => absurd q2 c)
theorem law_40 (hG : GF G K RL cL_law 13) (hX : SC G K b L xs) (hL : L ≤ 3072) (hi : i + 6 ≤ L) (hx : OKX M) (hr : R2 M M) (hn : NX G K b i) : J G K M 1655 [some (.ref b), some (rf K 0), some (rf K 140), some (.int (nI i))] [] := by
  refine r_aload_n (pc := 1655) hG dL_law_1655 rfl ?_
  refine r_aloadR (pc := 1656) hG dL_law_1656 rfl ?_
  refine r_iload_n (pc := 1657) hG dL_law_1657 rfl ?_
  refine r_iconst (v := nI 1) (pc := 1658) hG dL_law_1658 rfl ?_
  refine r_iadd (pc := 1659) hG dL_law_1659 ?_
  refine r_sld (pc := 1660) (j := i + 1) hG hX dL_law_1660 (ix_sc hi hL (by omega)) ?_
  obtain ⟨q1, q2, q3, q4⟩ := fin_off hx hr (a0 := (xs (i + 1)))
  refine cv_X8_off (pc := 1661) hG dL_law_1661 tw_1022 (c_X8_off hx) (by decide) (Nat.le_of_ble_eq_true rfl) ?_
  generalize sp_X8_off M (xs (i + 1)) = p at q1 q2 q3 q4 ⊢
  refine r_aload_n (pc := 1664) hG dL_law_1664 rfl ?_
  refine r_aloadR (pc := 1665) hG dL_law_1665 rfl ?_
  refine r_iload_n (pc := 1666) hG dL_law_1666 rfl ?_
  refine r_iconst (v := nI 1) (pc := 1667) hG dL_law_1667 rfl ?_
  refine r_iadd (pc := 1668) hG dL_law_1668 ?_
  refine r_sld (pc := 1669) (j := i + 1) hG hX dL_law_1669 (ix_sc hi hL (by omega)) ?_
  refine cv_X9_off (pc := 1670) hG dL_law_1670 tw_1622 (c_X9_off q1) (by decide) (Nat.le_of_ble_eq_true rfl) ?_
  generalize sp_X9_off p.2 (xs (i + 1)) = q at q2 q3 q4 ⊢
  refine r_icmp_eq (pc := 1673) (tgt := 2152) hG dL_law_1673 (by decide) (fun _ => hn _ q3 q4) (fun c => absurd q2 c)
theorem law_41 (hG : GF G K RL cL_law 13) (hX : SC G K b L xs) (hL : L ≤ 3072) (hi : i + 6 ≤ L) (hx : OKX M) (hr : R2 M M) (hn : NX G K b i) : J G K M 1678 [some (.ref b), some (rf K 0), some (rf K 140), some (.int (nI i))] [] := by
  refine r_aload_n (pc := 1678) hG dL_law_1678 rfl ?_
  refine r_aloadR (pc := 1679) hG dL_law_1679 rfl ?_
  refine r_iload_n (pc := 1680) hG dL_law_1680 rfl ?_
  refine r_iconst (v := nI 1) (pc := 1681) hG dL_law_1681 rfl ?_
  refine r_iadd (pc := 1682) hG dL_law_1682 ?_
  refine r_sld (pc := 1683) (j := i + 1) hG hX dL_law_1683 (ix_sc hi hL (by omega)) ?_
  refine r_aloadR (pc := 1684) hG dL_law_1684 rfl ?_
  refine r_iload_n (pc := 1685) hG dL_law_1685 rfl ?_
  refine r_iconst (v := nI 2) (pc := 1686) hG dL_law_1686 rfl ?_
  refine r_iadd (pc := 1687) hG dL_law_1687 ?_
  refine r_sld (pc := 1688) (j := i + 2) hG hX dL_law_1688 (ix_sc hi hL (by omega)) ?_
  refine r_aloadR (pc := 1689) hG dL_law_1689 rfl ?_
  refine r_iload_n (pc := 1690) hG dL_law_1690 rfl ?_
  refine r_iconst (v := nI 3) (pc := 1691) hG dL_law_1691 rfl ?_
  refine r_iadd (pc := 1692) hG dL_law_1692 ?_
  refine r_sld (pc := 1693) (j := i + 3) hG hX dL_law_1693 (ix_sc hi hL (by omega)) ?_
  refine r_aloadR (pc := 1694) hG dL_law_1694 rfl ?_
  refine r_iload_n (pc := 1695) hG dL_law_1695 rfl ?_
  refine r_iconst (v := nI 4) (pc := 1696) hG dL_law_1696 rfl ?_
  refine r_iadd (pc := 1697) hG dL_law_1697 ?_
  refine r_sld (pc := 1698) (j := i + 4) hG hX dL_law_1698 (ix_sc hi hL (by omega)) ?_
  obtain ⟨q1, q2, q3, q4⟩ := fin_windFor hx hr (a0 := (xs (i + 1))) (a1 := (xs (i + 2))) (a2 := (xs (i + 3))) (a3 := (xs (i + 4)))
  refine cv_X8_windFor (pc := 1699) hG dL_law_1699 tw_1027 (c_X8_windFor hx) (by decide) (Nat.le_of_ble_eq_true rfl) ?_
  generalize sp_X8_windFor M (xs (i + 1)) (xs (i + 2)) (xs (i + 3)) (xs (i + 4)) = p at q1 q2 q3 q4 ⊢
  refine r_aload_n (pc := 1702) hG dL_law_1702 rfl ?_
  refine r_aloadR (pc := 1703) hG dL_law_1703 rfl ?_
  refine r_iload_n (pc := 1704) hG dL_law_1704 rfl ?_
  refine r_iconst (v := nI 1) (pc := 1705) hG dL_law_1705 rfl ?_
  refine r_iadd (pc := 1706) hG dL_law_1706 ?_
  refine r_sld (pc := 1707) (j := i + 1) hG hX dL_law_1707 (ix_sc hi hL (by omega)) ?_
  refine r_aloadR (pc := 1708) hG dL_law_1708 rfl ?_
  refine r_iload_n (pc := 1709) hG dL_law_1709 rfl ?_
  refine r_iconst (v := nI 2) (pc := 1710) hG dL_law_1710 rfl ?_
  refine r_iadd (pc := 1711) hG dL_law_1711 ?_
  refine r_sld (pc := 1712) (j := i + 2) hG hX dL_law_1712 (ix_sc hi hL (by omega)) ?_
  refine r_aloadR (pc := 1713) hG dL_law_1713 rfl ?_
  refine r_iload_n (pc := 1714) hG dL_law_1714 rfl ?_
  refine r_iconst (v := nI 3) (pc := 1715) hG dL_law_1715 rfl ?_
  refine r_iadd (pc := 1716) hG dL_law_1716 ?_
  refine r_sld (pc := 1717) (j := i + 3) hG hX dL_law_1717 (ix_sc hi hL (by omega)) ?_
  refine r_aloadR (pc := 1718) hG dL_law_1718 rfl ?_
  refine r_iload_n (pc := 1719) hG dL_law_1719 rfl ?_
  refine r_iconst (v := nI 4) (pc := 1720) hG dL_law_1720 rfl ?_
  refine r_iadd (pc := 1721) hG dL_law_1721 ?_
  refine r_sld (pc := 1722) (j := i + 4) hG hX dL_law_1722 (ix_sc hi hL (by omega)) ?_
  refine cv_X9_windFor (pc := 1723) hG dL_law_1723 tw_1567 (c_X9_windFor q1) (by decide) (Nat.le_of_ble_eq_true rfl) ?_
  generalize sp_X9_windFor p.2 (xs (i + 1)) (xs (i + 2)) (xs (i + 3)) (xs (i + 4)) = q at q2 q3 q4 ⊢
  refine r_icmp_eq (pc := 1726) (tgt := 2152) hG dL_law_1726 (by decide) (fun _ => hn _ q3 q4) (fun c => absurd q2 c)
theorem law_42 (hG : GF G K RL cL_law 13) (hX : SC G K b L xs) (hL : L ≤ 3072) (hi : i + 6 ≤ L) (hx : OKX M) (hr : R2 M M) (hn : NX G K b i) : J G K M 1731 [some (.ref b), some (rf K 0), some (rf K 140), some (.int (nI i))] [] := by
  refine r_aload_n (pc := 1731) hG dL_law_1731 rfl ?_
  refine r_aloadR (pc := 1732) hG dL_law_1732 rfl ?_
  refine r_iload_n (pc := 1733) hG dL_law_1733 rfl ?_
  refine r_iconst (v := nI 1) (pc := 1734) hG dL_law_1734 rfl ?_
  refine r_iadd (pc := 1735) hG dL_law_1735 ?_
  refine r_sld (pc := 1736) (j := i + 1) hG hX dL_law_1736 (ix_sc hi hL (by omega)) ?_
  obtain ⟨q1, q2, q3, q4⟩ := fin_catches hx hr (a0 := (xs (i + 1)))
  refine cv_X8_catches (pc := 1737) hG dL_law_1737 tw_1035 (c_X8_catches hx) (by decide) (Nat.le_of_ble_eq_true rfl) ?_
  generalize sp_X8_catches M (xs (i + 1)) = p at q1 q2 q3 q4 ⊢
  refine r_aload_n (pc := 1740) hG dL_law_1740 rfl ?_
  refine r_aloadR (pc := 1741) hG dL_law_1741 rfl ?_
  refine r_iload_n (pc := 1742) hG dL_law_1742 rfl ?_
  refine r_iconst (v := nI 1) (pc := 1743) hG dL_law_1743 rfl ?_
  refine r_iadd (pc := 1744) hG dL_law_1744 ?_
  refine r_sld (pc := 1745) (j := i + 1) hG hX dL_law_1745 (ix_sc hi hL (by omega)) ?_
  refine cv_X9_catches (pc := 1746) hG dL_law_1746 tw_1626 (c_X9_catches q1) (by decide) (Nat.le_of_ble_eq_true rfl) ?_
  generalize sp_X9_catches p.2 (xs (i + 1)) = q at q2 q3 q4 ⊢
  refine r_icmp_eq (pc := 1749) (tgt := 2152) hG dL_law_1749 (by decide) (fun _ => hn _ q3 q4) (fun c => absurd q2 c)
theorem law_43 (hG : GF G K RL cL_law 13) (hX : SC G K b L xs) (hL : L ≤ 3072) (hi : i + 6 ≤ L) (hx : OKX M) (hr : R2 M M) (hn : NX G K b i) : J G K M 1754 [some (.ref b), some (rf K 0), some (rf K 140), some (.int (nI i))] [] := by
  refine r_aload_n (pc := 1754) hG dL_law_1754 rfl ?_
  obtain ⟨q1, q2, q3, q4⟩ := fin_gaps hx hr
  refine cv_X8_gaps (pc := 1755) hG dL_law_1755 tw_1039 (c_X8_gaps hx) (by decide) (Nat.le_of_ble_eq_true rfl) ?_
  generalize sp_X8_gaps M = p at q1 q2 q3 q4 ⊢
  refine r_aload_n (pc := 1758) hG dL_law_1758 rfl ?_
  refine cv_X9_gaps (pc := 1759) hG dL_law_1759 tw_1630 (c_X9_gaps q1) (by decide) (Nat.le_of_ble_eq_true rfl) ?_
  generalize sp_X9_gaps p.2 = q at q2 q3 q4 ⊢
  refine r_icmp_eq (pc := 1762) (tgt := 2152) hG dL_law_1762 (by decide) (fun _ => hn _ q3 q4) (fun c => absurd q2 c)
theorem law_44 (hG : GF G K RL cL_law 13) (hX : SC G K b L xs) (hL : L ≤ 3072) (hi : i + 6 ≤ L) (hx : OKX M) (hr : R2 M M) (hn : NX G K b i) : J G K M 1767 [some (.ref b), some (rf K 0), some (rf K 140), some (.int (nI i))] [] := by
  refine r_aload_n (pc := 1767) hG dL_law_1767 rfl ?_
  refine r_aloadR (pc := 1768) hG dL_law_1768 rfl ?_
  refine r_iload_n (pc := 1769) hG dL_law_1769 rfl ?_
  refine r_iconst (v := nI 1) (pc := 1770) hG dL_law_1770 rfl ?_
  refine r_iadd (pc := 1771) hG dL_law_1771 ?_
  refine r_sld (pc := 1772) (j := i + 1) hG hX dL_law_1772 (ix_sc hi hL (by omega)) ?_
  refine r_aloadR (pc := 1773) hG dL_law_1773 rfl ?_
  refine r_iload_n (pc := 1774) hG dL_law_1774 rfl ?_
  refine r_iconst (v := nI 2) (pc := 1775) hG dL_law_1775 rfl ?_
  refine r_iadd (pc := 1776) hG dL_law_1776 ?_
  refine r_sld (pc := 1777) (j := i + 2) hG hX dL_law_1777 (ix_sc hi hL (by omega)) ?_
  obtain ⟨q1, q2, q3, q4⟩ := fin_between hx hr (a0 := (xs (i + 1))) (a1 := (xs (i + 2)))
  refine cv_X8_between (pc := 1778) hG dL_law_1778 tw_1047 (c_X8_between hx) (by decide) (Nat.le_of_ble_eq_true rfl) ?_
  generalize sp_X8_between M (xs (i + 1)) (xs (i + 2)) = p at q1 q2 q3 q4 ⊢
  refine r_aload_n (pc := 1781) hG dL_law_1781 rfl ?_
  refine r_aloadR (pc := 1782) hG dL_law_1782 rfl ?_
  refine r_iload_n (pc := 1783) hG dL_law_1783 rfl ?_
  refine r_iconst (v := nI 1) (pc := 1784) hG dL_law_1784 rfl ?_
  refine r_iadd (pc := 1785) hG dL_law_1785 ?_
  refine r_sld (pc := 1786) (j := i + 1) hG hX dL_law_1786 (ix_sc hi hL (by omega)) ?_
  refine r_aloadR (pc := 1787) hG dL_law_1787 rfl ?_
  refine r_iload_n (pc := 1788) hG dL_law_1788 rfl ?_
  refine r_iconst (v := nI 2) (pc := 1789) hG dL_law_1789 rfl ?_
  refine r_iadd (pc := 1790) hG dL_law_1790 ?_
  refine r_sld (pc := 1791) (j := i + 2) hG hX dL_law_1791 (ix_sc hi hL (by omega)) ?_
  refine cv_X9_between (pc := 1792) hG dL_law_1792 tw_1634 (c_X9_between q1) (by decide) (Nat.le_of_ble_eq_true rfl) ?_
  generalize sp_X9_between p.2 (xs (i + 1)) (xs (i + 2)) = q at q2 q3 q4 ⊢
  refine r_icmp_eq (pc := 1795) (tgt := 2152) hG dL_law_1795 (by decide) (fun _ => hn _ q3 q4) (fun c => absurd q2 c)
theorem law_45 (hG : GF G K RL cL_law 13) (hX : SC G K b L xs) (hL : L ≤ 3072) (hi : i + 6 ≤ L) (hx : OKX M) (hr : R2 M M) (hn : NX G K b i) : J G K M 1800 [some (.ref b), some (rf K 0), some (rf K 140), some (.int (nI i))] [] := by
  refine r_aload_n (pc := 1800) hG dL_law_1800 rfl ?_
  refine r_aloadR (pc := 1801) hG dL_law_1801 rfl ?_
  refine r_iload_n (pc := 1802) hG dL_law_1802 rfl ?_
  refine r_iconst (v := nI 1) (pc := 1803) hG dL_law_1803 rfl ?_
  refine r_iadd (pc := 1804) hG dL_law_1804 ?_
  refine r_sld (pc := 1805) (j := i + 1) hG hX dL_law_1805 (ix_sc hi hL (by omega)) ?_
  obtain ⟨q1, q2, q3, q4⟩ := fin_fondest hx hr (a0 := (xs (i + 1)))
  refine cv_X8_fondest (pc := 1806) hG dL_law_1806 tw_1051 (c_X8_fondest hx) (by decide) (Nat.le_of_ble_eq_true rfl) ?_
  generalize sp_X8_fondest M (xs (i + 1)) = p at q1 q2 q3 q4 ⊢
  refine r_aload_n (pc := 1809) hG dL_law_1809 rfl ?_
  refine r_aloadR (pc := 1810) hG dL_law_1810 rfl ?_
  refine r_iload_n (pc := 1811) hG dL_law_1811 rfl ?_
  refine r_iconst (v := nI 1) (pc := 1812) hG dL_law_1812 rfl ?_
  refine r_iadd (pc := 1813) hG dL_law_1813 ?_
  refine r_sld (pc := 1814) (j := i + 1) hG hX dL_law_1814 (ix_sc hi hL (by omega)) ?_
  refine cv_X9_fondest (pc := 1815) hG dL_law_1815 tw_1638 (c_X9_fondest q1) (by decide) (Nat.le_of_ble_eq_true rfl) ?_
  generalize sp_X9_fondest p.2 (xs (i + 1)) = q at q2 q3 q4 ⊢
  refine r_icmp_eq (pc := 1818) (tgt := 2152) hG dL_law_1818 (by decide) (fun _ => hn _ q3 q4) (fun c => absurd q2 c)
theorem law_46 (hG : GF G K RL cL_law 13) (hX : SC G K b L xs) (hL : L ≤ 3072) (hi : i + 6 ≤ L) (hx : OKX M) (hr : R2 M M) (hn : NX G K b i) : J G K M 1823 [some (.ref b), some (rf K 0), some (rf K 140), some (.int (nI i))] [] := by
  refine r_aload_n (pc := 1823) hG dL_law_1823 rfl ?_
  refine r_aloadR (pc := 1824) hG dL_law_1824 rfl ?_
  refine r_iload_n (pc := 1825) hG dL_law_1825 rfl ?_
  refine r_iconst (v := nI 1) (pc := 1826) hG dL_law_1826 rfl ?_
  refine r_iadd (pc := 1827) hG dL_law_1827 ?_
  refine r_sld (pc := 1828) (j := i + 1) hG hX dL_law_1828 (ix_sc hi hL (by omega)) ?_
  obtain ⟨q1, q2, q3, q4⟩ := fin_admirer hx hr (a0 := (xs (i + 1)))
  refine cv_X8_admirer (pc := 1829) hG dL_law_1829 tw_1060 (c_X8_admirer hx) (by decide) (Nat.le_of_ble_eq_true rfl) ?_
  generalize sp_X8_admirer M (xs (i + 1)) = p at q1 q2 q3 q4 ⊢
  refine r_aload_n (pc := 1832) hG dL_law_1832 rfl ?_
  refine r_aloadR (pc := 1833) hG dL_law_1833 rfl ?_
  refine r_iload_n (pc := 1834) hG dL_law_1834 rfl ?_
  refine r_iconst (v := nI 1) (pc := 1835) hG dL_law_1835 rfl ?_
  refine r_iadd (pc := 1836) hG dL_law_1836 ?_
  refine r_sld (pc := 1837) (j := i + 1) hG hX dL_law_1837 (ix_sc hi hL (by omega)) ?_
  refine cv_X9_admirer (pc := 1838) hG dL_law_1838 tw_1642 (c_X9_admirer q1) (by decide) (Nat.le_of_ble_eq_true rfl) ?_
  generalize sp_X9_admirer p.2 (xs (i + 1)) = q at q2 q3 q4 ⊢
  refine r_icmp_eq (pc := 1841) (tgt := 2152) hG dL_law_1841 (by decide) (fun _ => hn _ q3 q4) (fun c => absurd q2 c)
theorem law_47 (hG : GF G K RL cL_law 13) (hX : SC G K b L xs) (hL : L ≤ 3072) (hi : i + 6 ≤ L) (hx : OKX M) (hr : R2 M M) (hn : NX G K b i) : J G K M 1846 [some (.ref b), some (rf K 0), some (rf K 140), some (.int (nI i))] [] := by
  refine r_aload_n (pc := 1846) hG dL_law_1846 rfl ?_
  refine r_aloadR (pc := 1847) hG dL_law_1847 rfl ?_
  refine r_iload_n (pc := 1848) hG dL_law_1848 rfl ?_
  refine r_iconst (v := nI 1) (pc := 1849) hG dL_law_1849 rfl ?_
  refine r_iadd (pc := 1850) hG dL_law_1850 ?_
  refine r_sld (pc := 1851) (j := i + 1) hG hX dL_law_1851 (ix_sc hi hL (by omega)) ?_
  obtain ⟨q1, q2, q3, q4⟩ := fin_reached hx hr (a0 := (xs (i + 1)))
  refine cv_X8_reached (pc := 1852) hG dL_law_1852 tw_1068 (c_X8_reached hx) (by decide) (Nat.le_of_ble_eq_true rfl) ?_
  generalize sp_X8_reached M (xs (i + 1)) = p at q1 q2 q3 q4 ⊢
  refine r_aload_n (pc := 1855) hG dL_law_1855 rfl ?_
  refine r_aloadR (pc := 1856) hG dL_law_1856 rfl ?_
  refine r_iload_n (pc := 1857) hG dL_law_1857 rfl ?_
  refine r_iconst (v := nI 1) (pc := 1858) hG dL_law_1858 rfl ?_
  refine r_iadd (pc := 1859) hG dL_law_1859 ?_
  refine r_sld (pc := 1860) (j := i + 1) hG hX dL_law_1860 (ix_sc hi hL (by omega)) ?_
  refine cv_X9_reached (pc := 1861) hG dL_law_1861 tw_1646 (c_X9_reached q1) (by decide) (Nat.le_of_ble_eq_true rfl) ?_
  generalize sp_X9_reached p.2 (xs (i + 1)) = q at q2 q3 q4 ⊢
  refine r_icmp_eq (pc := 1864) (tgt := 2152) hG dL_law_1864 (by decide) (fun _ => hn _ q3 q4) (fun c => absurd q2 c)
theorem law_48 (hG : GF G K RL cL_law 13) (hX : SC G K b L xs) (hL : L ≤ 3072) (hi : i + 6 ≤ L) (hx : OKX M) (hr : R2 M M) (hn : NX G K b i) : J G K M 1869 [some (.ref b), some (rf K 0), some (rf K 140), some (.int (nI i))] [] := by
  refine r_aload_n (pc := 1869) hG dL_law_1869 rfl ?_
  refine r_aloadR (pc := 1870) hG dL_law_1870 rfl ?_
  refine r_iload_n (pc := 1871) hG dL_law_1871 rfl ?_
  refine r_iconst (v := nI 1) (pc := 1872) hG dL_law_1872 rfl ?_
  refine r_iadd (pc := 1873) hG dL_law_1873 ?_
  refine r_sld (pc := 1874) (j := i + 1) hG hX dL_law_1874 (ix_sc hi hL (by omega)) ?_
  obtain ⟨q1, q2, q3, q4⟩ := fin_late hx hr (a0 := (xs (i + 1)))
  refine cv_X8_late (pc := 1875) hG dL_law_1875 tw_1076 (c_X8_late hx) (by decide) (Nat.le_of_ble_eq_true rfl) ?_
  generalize sp_X8_late M (xs (i + 1)) = p at q1 q2 q3 q4 ⊢
  refine r_aload_n (pc := 1878) hG dL_law_1878 rfl ?_
  refine r_aloadR (pc := 1879) hG dL_law_1879 rfl ?_
  refine r_iload_n (pc := 1880) hG dL_law_1880 rfl ?_
  refine r_iconst (v := nI 1) (pc := 1881) hG dL_law_1881 rfl ?_
  refine r_iadd (pc := 1882) hG dL_law_1882 ?_
  refine r_sld (pc := 1883) (j := i + 1) hG hX dL_law_1883 (ix_sc hi hL (by omega)) ?_
  refine cv_X9_late (pc := 1884) hG dL_law_1884 tw_1650 (c_X9_late q1) (by decide) (Nat.le_of_ble_eq_true rfl) ?_
  generalize sp_X9_late p.2 (xs (i + 1)) = q at q2 q3 q4 ⊢
  refine r_icmp_eq (pc := 1887) (tgt := 2152) hG dL_law_1887 (by decide) (fun _ => hn _ q3 q4) (fun c => absurd q2 c)
theorem law_49 (hG : GF G K RL cL_law 13) (hX : SC G K b L xs) (hL : L ≤ 3072) (hi : i + 6 ≤ L) (hx : OKX M) (hr : R2 M M) (hn : NX G K b i) : J G K M 1892 [some (.ref b), some (rf K 0), some (rf K 140), some (.int (nI i))] [] := by
  refine r_aload_n (pc := 1892) hG dL_law_1892 rfl ?_
  refine r_aloadR (pc := 1893) hG dL_law_1893 rfl ?_
  refine r_iload_n (pc := 1894) hG dL_law_1894 rfl ?_
  refine r_iconst (v := nI 1) (pc := 1895) hG dL_law_1895 rfl ?_
  refine r_iadd (pc := 1896) hG dL_law_1896 ?_
  refine r_sld (pc := 1897) (j := i + 1) hG hX dL_law_1897 (ix_sc hi hL (by omega)) ?_
  obtain ⟨q1, q2, q3, q4⟩ := fin_ofKind hx hr (a0 := (xs (i + 1)))
  refine cv_X8_ofKind (pc := 1898) hG dL_law_1898 tw_1085 (c_X8_ofKind hx) (by decide) (Nat.le_of_ble_eq_true rfl) ?_
  generalize sp_X8_ofKind M (xs (i + 1)) = p at q1 q2 q3 q4 ⊢
  refine r_aload_n (pc := 1901) hG dL_law_1901 rfl ?_
  refine r_aloadR (pc := 1902) hG dL_law_1902 rfl ?_
  refine r_iload_n (pc := 1903) hG dL_law_1903 rfl ?_
  refine r_iconst (v := nI 1) (pc := 1904) hG dL_law_1904 rfl ?_
  refine r_iadd (pc := 1905) hG dL_law_1905 ?_
  refine r_sld (pc := 1906) (j := i + 1) hG hX dL_law_1906 (ix_sc hi hL (by omega)) ?_
  refine cv_X9_ofKind (pc := 1907) hG dL_law_1907 tw_1654 (c_X9_ofKind q1) (by decide) (Nat.le_of_ble_eq_true rfl) ?_
  generalize sp_X9_ofKind p.2 (xs (i + 1)) = q at q2 q3 q4 ⊢
  refine r_icmp_eq (pc := 1910) (tgt := 2152) hG dL_law_1910 (by decide) (fun _ => hn _ q3 q4) (fun c => absurd q2 c)
theorem law_50 (hG : GF G K RL cL_law 13) (hX : SC G K b L xs) (hL : L ≤ 3072) (hi : i + 6 ≤ L) (hx : OKX M) (hr : R2 M M) (hn : NX G K b i) : J G K M 1915 [some (.ref b), some (rf K 0), some (rf K 140), some (.int (nI i))] [] := by
  refine r_aload_n (pc := 1915) hG dL_law_1915 rfl ?_
  refine r_aloadR (pc := 1916) hG dL_law_1916 rfl ?_
  refine r_iload_n (pc := 1917) hG dL_law_1917 rfl ?_
  refine r_iconst (v := nI 1) (pc := 1918) hG dL_law_1918 rfl ?_
  refine r_iadd (pc := 1919) hG dL_law_1919 ?_
  refine r_sld (pc := 1920) (j := i + 1) hG hX dL_law_1920 (ix_sc hi hL (by omega)) ?_
  refine r_aloadR (pc := 1921) hG dL_law_1921 rfl ?_
  refine r_iload_n (pc := 1922) hG dL_law_1922 rfl ?_
  refine r_iconst (v := nI 2) (pc := 1923) hG dL_law_1923 rfl ?_
  refine r_iadd (pc := 1924) hG dL_law_1924 ?_
  refine r_sld (pc := 1925) (j := i + 2) hG hX dL_law_1925 (ix_sc hi hL (by omega)) ?_
  obtain ⟨q1, q2, q3, q4⟩ := fin_judge hx hr (a0 := (xs (i + 1))) (a1 := (xs (i + 2)))
  refine cv_X8_judge (pc := 1926) hG dL_law_1926 tw_1093 (c_X8_judge hx) (by decide) (Nat.le_of_ble_eq_true rfl) ?_
  generalize sp_X8_judge M (xs (i + 1)) (xs (i + 2)) = p at q1 q2 q3 q4 ⊢
  refine r_aload_n (pc := 1929) hG dL_law_1929 rfl ?_
  refine r_aloadR (pc := 1930) hG dL_law_1930 rfl ?_
  refine r_iload_n (pc := 1931) hG dL_law_1931 rfl ?_
  refine r_iconst (v := nI 1) (pc := 1932) hG dL_law_1932 rfl ?_
  refine r_iadd (pc := 1933) hG dL_law_1933 ?_
  refine r_sld (pc := 1934) (j := i + 1) hG hX dL_law_1934 (ix_sc hi hL (by omega)) ?_
  refine r_aloadR (pc := 1935) hG dL_law_1935 rfl ?_
  refine r_iload_n (pc := 1936) hG dL_law_1936 rfl ?_
  refine r_iconst (v := nI 2) (pc := 1937) hG dL_law_1937 rfl ?_
  refine r_iadd (pc := 1938) hG dL_law_1938 ?_
  refine r_sld (pc := 1939) (j := i + 2) hG hX dL_law_1939 (ix_sc hi hL (by omega)) ?_
  refine cv_X9_judge (pc := 1940) hG dL_law_1940 tw_1658 (c_X9_judge q1) (by decide) (Nat.le_of_ble_eq_true rfl) ?_
  generalize sp_X9_judge p.2 (xs (i + 1)) (xs (i + 2)) = q at q2 q3 q4 ⊢
  refine r_icmp_eq (pc := 1943) (tgt := 2152) hG dL_law_1943 (by decide) (fun _ => hn _ q3 q4) (fun c => absurd q2 c)
theorem law_51 (hG : GF G K RL cL_law 13) (hX : SC G K b L xs) (hL : L ≤ 3072) (hi : i + 6 ≤ L) (hx : OKX M) (hr : R2 M M) (hn : NX G K b i) : J G K M 1948 [some (.ref b), some (rf K 0), some (rf K 140), some (.int (nI i))] [] := by
  refine r_aload_n (pc := 1948) hG dL_law_1948 rfl ?_
  refine r_aloadR (pc := 1949) hG dL_law_1949 rfl ?_
  refine r_iload_n (pc := 1950) hG dL_law_1950 rfl ?_
  refine r_iconst (v := nI 1) (pc := 1951) hG dL_law_1951 rfl ?_
  refine r_iadd (pc := 1952) hG dL_law_1952 ?_
  refine r_sld (pc := 1953) (j := i + 1) hG hX dL_law_1953 (ix_sc hi hL (by omega)) ?_
  refine r_aloadR (pc := 1954) hG dL_law_1954 rfl ?_
  refine r_iload_n (pc := 1955) hG dL_law_1955 rfl ?_
  refine r_iconst (v := nI 2) (pc := 1956) hG dL_law_1956 rfl ?_
  refine r_iadd (pc := 1957) hG dL_law_1957 ?_
  refine r_sld (pc := 1958) (j := i + 2) hG hX dL_law_1958 (ix_sc hi hL (by omega)) ?_
  refine r_aloadR (pc := 1959) hG dL_law_1959 rfl ?_
  refine r_iload_n (pc := 1960) hG dL_law_1960 rfl ?_
  refine r_iconst (v := nI 3) (pc := 1961) hG dL_law_1961 rfl ?_
  refine r_iadd (pc := 1962) hG dL_law_1962 ?_
  refine r_sld (pc := 1963) (j := i + 3) hG hX dL_law_1963 (ix_sc hi hL (by omega)) ?_
  obtain ⟨q1, q2, q3, q4⟩ := fin_behind hx hr (a0 := (xs (i + 1))) (a1 := (xs (i + 2))) (a2 := (xs (i + 3)))
  refine cv_X8_behind (pc := 1964) hG dL_law_1964 tw_1097 (c_X8_behind hx) (by decide) (Nat.le_of_ble_eq_true rfl) ?_
  generalize sp_X8_behind M (xs (i + 1)) (xs (i + 2)) (xs (i + 3)) = p at q1 q2 q3 q4 ⊢
  refine r_aload_n (pc := 1967) hG dL_law_1967 rfl ?_
  refine r_aloadR (pc := 1968) hG dL_law_1968 rfl ?_
  refine r_iload_n (pc := 1969) hG dL_law_1969 rfl ?_
  refine r_iconst (v := nI 1) (pc := 1970) hG dL_law_1970 rfl ?_
  refine r_iadd (pc := 1971) hG dL_law_1971 ?_
  refine r_sld (pc := 1972) (j := i + 1) hG hX dL_law_1972 (ix_sc hi hL (by omega)) ?_
  refine r_aloadR (pc := 1973) hG dL_law_1973 rfl ?_
  refine r_iload_n (pc := 1974) hG dL_law_1974 rfl ?_
  refine r_iconst (v := nI 2) (pc := 1975) hG dL_law_1975 rfl ?_
  refine r_iadd (pc := 1976) hG dL_law_1976 ?_
  refine r_sld (pc := 1977) (j := i + 2) hG hX dL_law_1977 (ix_sc hi hL (by omega)) ?_
  refine r_aloadR (pc := 1978) hG dL_law_1978 rfl ?_
  refine r_iload_n (pc := 1979) hG dL_law_1979 rfl ?_
  refine r_iconst (v := nI 3) (pc := 1980) hG dL_law_1980 rfl ?_
  refine r_iadd (pc := 1981) hG dL_law_1981 ?_
  refine r_sld (pc := 1982) (j := i + 3) hG hX dL_law_1982 (ix_sc hi hL (by omega)) ?_
  refine cv_X9_behind (pc := 1983) hG dL_law_1983 tw_1666 (c_X9_behind q1) (by decide) (Nat.le_of_ble_eq_true rfl) ?_
  generalize sp_X9_behind p.2 (xs (i + 1)) (xs (i + 2)) (xs (i + 3)) = q at q2 q3 q4 ⊢
  refine r_icmp_eq (pc := 1986) (tgt := 2152) hG dL_law_1986 (by decide) (fun _ => hn _ q3 q4) (fun c => absurd q2 c)
theorem law_52 (hG : GF G K RL cL_law 13) (hX : SC G K b L xs) (hL : L ≤ 3072) (hi : i + 6 ≤ L) (hx : OKX M) (hr : R2 M M) (hn : NX G K b i) : J G K M 1991 [some (.ref b), some (rf K 0), some (rf K 140), some (.int (nI i))] [] := by
  refine r_aload_n (pc := 1991) hG dL_law_1991 rfl ?_
  refine r_aloadR (pc := 1992) hG dL_law_1992 rfl ?_
  refine r_iload_n (pc := 1993) hG dL_law_1993 rfl ?_
  refine r_iconst (v := nI 1) (pc := 1994) hG dL_law_1994 rfl ?_
  refine r_iadd (pc := 1995) hG dL_law_1995 ?_
  refine r_sld (pc := 1996) (j := i + 1) hG hX dL_law_1996 (ix_sc hi hL (by omega)) ?_
  refine r_aloadR (pc := 1997) hG dL_law_1997 rfl ?_
  refine r_iload_n (pc := 1998) hG dL_law_1998 rfl ?_
  refine r_iconst (v := nI 2) (pc := 1999) hG dL_law_1999 rfl ?_
  refine r_iadd (pc := 2000) hG dL_law_2000 ?_
  refine r_sld (pc := 2001) (j := i + 2) hG hX dL_law_2001 (ix_sc hi hL (by omega)) ?_
  refine r_aloadR (pc := 2002) hG dL_law_2002 rfl ?_
  refine r_iload_n (pc := 2003) hG dL_law_2003 rfl ?_
  refine r_iconst (v := nI 3) (pc := 2004) hG dL_law_2004 rfl ?_
  refine r_iadd (pc := 2005) hG dL_law_2005 ?_
  refine r_sld (pc := 2006) (j := i + 3) hG hX dL_law_2006 (ix_sc hi hL (by omega)) ?_
  obtain ⟨q1, q2, q3, q4⟩ := fin_thrown hx hr (a0 := (xs (i + 1))) (a1 := (xs (i + 2))) (a2 := (xs (i + 3)))
  refine cv_X8_thrown (pc := 2007) hG dL_law_2007 tw_1109 (c_X8_thrown hx) (by decide) (Nat.le_of_ble_eq_true rfl) ?_
  generalize sp_X8_thrown M (xs (i + 1)) (xs (i + 2)) (xs (i + 3)) = p at q1 q2 q3 q4 ⊢
  refine r_aload_n (pc := 2010) hG dL_law_2010 rfl ?_
  refine r_aloadR (pc := 2011) hG dL_law_2011 rfl ?_
  refine r_iload_n (pc := 2012) hG dL_law_2012 rfl ?_
  refine r_iconst (v := nI 1) (pc := 2013) hG dL_law_2013 rfl ?_
  refine r_iadd (pc := 2014) hG dL_law_2014 ?_
  refine r_sld (pc := 2015) (j := i + 1) hG hX dL_law_2015 (ix_sc hi hL (by omega)) ?_
  refine r_aloadR (pc := 2016) hG dL_law_2016 rfl ?_
  refine r_iload_n (pc := 2017) hG dL_law_2017 rfl ?_
  refine r_iconst (v := nI 2) (pc := 2018) hG dL_law_2018 rfl ?_
  refine r_iadd (pc := 2019) hG dL_law_2019 ?_
  refine r_sld (pc := 2020) (j := i + 2) hG hX dL_law_2020 (ix_sc hi hL (by omega)) ?_
  refine r_aloadR (pc := 2021) hG dL_law_2021 rfl ?_
  refine r_iload_n (pc := 2022) hG dL_law_2022 rfl ?_
  refine r_iconst (v := nI 3) (pc := 2023) hG dL_law_2023 rfl ?_
  refine r_iadd (pc := 2024) hG dL_law_2024 ?_
  refine r_sld (pc := 2025) (j := i + 3) hG hX dL_law_2025 (ix_sc hi hL (by omega)) ?_
  refine cv_X9_thrown (pc := 2026) hG dL_law_2026 tw_1670 (c_X9_thrown q1) (by decide) (Nat.le_of_ble_eq_true rfl) ?_
  generalize sp_X9_thrown p.2 (xs (i + 1)) (xs (i + 2)) (xs (i + 3)) = q at q2 q3 q4 ⊢
  refine r_icmp_eq (pc := 2029) (tgt := 2152) hG dL_law_2029 (by decide) (fun _ => hn _ q3 q4) (fun c => absurd q2 c)
theorem law_53 (hG : GF G K RL cL_law 13) (hX : SC G K b L xs) (hL : L ≤ 3072) (hi : i + 6 ≤ L) (hx : OKX M) (hr : R2 M M) (hn : NX G K b i) : J G K M 2034 [some (.ref b), some (rf K 0), some (rf K 140), some (.int (nI i))] [] := by
  refine r_aload_n (pc := 2034) hG dL_law_2034 rfl ?_
  refine r_aloadR (pc := 2035) hG dL_law_2035 rfl ?_
  refine r_iload_n (pc := 2036) hG dL_law_2036 rfl ?_
  refine r_iconst (v := nI 1) (pc := 2037) hG dL_law_2037 rfl ?_
  refine r_iadd (pc := 2038) hG dL_law_2038 ?_
  refine r_sld (pc := 2039) (j := i + 1) hG hX dL_law_2039 (ix_sc hi hL (by omega)) ?_
  obtain ⟨q1, q2, q3, q4⟩ := fin_days hx hr (a0 := (xs (i + 1)))
  refine cv_X8_days (pc := 2040) hG dL_law_2040 tw_1114 (c_X8_days hx) (by decide) (Nat.le_of_ble_eq_true rfl) ?_
  generalize sp_X8_days M (xs (i + 1)) = p at q1 q2 q3 q4 ⊢
  refine r_aload_n (pc := 2043) hG dL_law_2043 rfl ?_
  refine r_aloadR (pc := 2044) hG dL_law_2044 rfl ?_
  refine r_iload_n (pc := 2045) hG dL_law_2045 rfl ?_
  refine r_iconst (v := nI 1) (pc := 2046) hG dL_law_2046 rfl ?_
  refine r_iadd (pc := 2047) hG dL_law_2047 ?_
  refine r_sld (pc := 2048) (j := i + 1) hG hX dL_law_2048 (ix_sc hi hL (by omega)) ?_
  refine cv_X9_days (pc := 2049) hG dL_law_2049 tw_1678 (c_X9_days q1) (by decide) (Nat.le_of_ble_eq_true rfl) ?_
  generalize sp_X9_days p.2 (xs (i + 1)) = q at q2 q3 q4 ⊢
  refine r_icmp_eq (pc := 2052) (tgt := 2152) hG dL_law_2052 (by decide) (fun _ => hn _ q3 q4) (fun c => absurd q2 c)
theorem law_54 (hG : GF G K RL cL_law 13) (hX : SC G K b L xs) (hL : L ≤ 3072) (hi : i + 6 ≤ L) (hx : OKX M) (hr : R2 M M) (hn : NX G K b i) : J G K M 2057 [some (.ref b), some (rf K 0), some (rf K 140), some (.int (nI i))] [] := by
  refine r_aload_n (pc := 2057) hG dL_law_2057 rfl ?_
  refine r_aloadR (pc := 2058) hG dL_law_2058 rfl ?_
  refine r_iload_n (pc := 2059) hG dL_law_2059 rfl ?_
  refine r_iconst (v := nI 1) (pc := 2060) hG dL_law_2060 rfl ?_
  refine r_iadd (pc := 2061) hG dL_law_2061 ?_
  refine r_sld (pc := 2062) (j := i + 1) hG hX dL_law_2062 (ix_sc hi hL (by omega)) ?_
  obtain ⟨q1, q2, q3, q4⟩ := fin_drawn hx hr (a0 := (xs (i + 1)))
  refine cv_X8_drawn (pc := 2063) hG dL_law_2063 tw_1125 (c_X8_drawn hx) (by decide) (Nat.le_of_ble_eq_true rfl) ?_
  generalize sp_X8_drawn M (xs (i + 1)) = p at q1 q2 q3 q4 ⊢
  refine r_aload_n (pc := 2066) hG dL_law_2066 rfl ?_
  refine r_aloadR (pc := 2067) hG dL_law_2067 rfl ?_
  refine r_iload_n (pc := 2068) hG dL_law_2068 rfl ?_
  refine r_iconst (v := nI 1) (pc := 2069) hG dL_law_2069 rfl ?_
  refine r_iadd (pc := 2070) hG dL_law_2070 ?_
  refine r_sld (pc := 2071) (j := i + 1) hG hX dL_law_2071 (ix_sc hi hL (by omega)) ?_
  refine cv_X9_drawn (pc := 2072) hG dL_law_2072 tw_1686 (c_X9_drawn q1) (by decide) (Nat.le_of_ble_eq_true rfl) ?_
  generalize sp_X9_drawn p.2 (xs (i + 1)) = q at q2 q3 q4 ⊢
  refine r_icmp_eq (pc := 2075) (tgt := 2152) hG dL_law_2075 (by decide) (fun _ => hn _ q3 q4) (fun c => absurd q2 c)
theorem law_55 (hG : GF G K RL cL_law 13) (hX : SC G K b L xs) (hL : L ≤ 3072) (hi : i + 6 ≤ L) (hx : OKX M) (hr : R2 M M) (hn : NX G K b i) : J G K M 2080 [some (.ref b), some (rf K 0), some (rf K 140), some (.int (nI i))] [] := by
  refine r_aload_n (pc := 2080) hG dL_law_2080 rfl ?_
  refine r_aloadR (pc := 2081) hG dL_law_2081 rfl ?_
  refine r_iload_n (pc := 2082) hG dL_law_2082 rfl ?_
  refine r_iconst (v := nI 1) (pc := 2083) hG dL_law_2083 rfl ?_
  refine r_iadd (pc := 2084) hG dL_law_2084 ?_
  refine r_sld (pc := 2085) (j := i + 1) hG hX dL_law_2085 (ix_sc hi hL (by omega)) ?_
  obtain ⟨q1, q2, q3, q4⟩ := fin_seed hx hr (a0 := (xs (i + 1)))
  refine cv_X8_seed (pc := 2086) hG dL_law_2086 tw_1140 (c_X8_seed hx) (by decide) (Nat.le_of_ble_eq_true rfl) ?_
  generalize sp_X8_seed M (xs (i + 1)) = p at q1 q2 q3 q4 ⊢
  refine r_aload_n (pc := 2089) hG dL_law_2089 rfl ?_
  refine r_aloadR (pc := 2090) hG dL_law_2090 rfl ?_
  refine r_iload_n (pc := 2091) hG dL_law_2091 rfl ?_
  refine r_iconst (v := nI 1) (pc := 2092) hG dL_law_2092 rfl ?_
  refine r_iadd (pc := 2093) hG dL_law_2093 ?_
  refine r_sld (pc := 2094) (j := i + 1) hG hX dL_law_2094 (ix_sc hi hL (by omega)) ?_
  refine cv_X9_seed (pc := 2095) hG dL_law_2095 tw_1695 (c_X9_seed q1) (by decide) (Nat.le_of_ble_eq_true rfl) ?_
  generalize sp_X9_seed p.2 (xs (i + 1)) = q at q2 q3 q4 ⊢
  refine r_icmp_eq (pc := 2098) (tgt := 2152) hG dL_law_2098 (by decide) (fun _ => hn _ q3 q4) (fun c => absurd q2 c)
theorem law_56 (hG : GF G K RL cL_law 13) (hX : SC G K b L xs) (hL : L ≤ 3072) (hi : i + 6 ≤ L) (hx : OKX M) (hr : R2 M M) (hn : NX G K b i) : J G K M 2103 [some (.ref b), some (rf K 0), some (rf K 140), some (.int (nI i))] [] := by
  refine r_aload_n (pc := 2103) hG dL_law_2103 rfl ?_
  obtain ⟨q1, q2, q3, q4⟩ := fin_image hx hr
  refine cv_X8_image (pc := 2104) hG dL_law_2104 tw_1144 (c_X8_image hx) (by decide) (Nat.le_of_ble_eq_true rfl) ?_
  generalize sp_X8_image M = p at q1 q2 q3 q4 ⊢
  refine r_aload_n (pc := 2107) hG dL_law_2107 rfl ?_
  refine cv_X9_image (pc := 2108) hG dL_law_2108 tw_1699 (c_X9_image q1) (by decide) (Nat.le_of_ble_eq_true rfl) ?_
  generalize sp_X9_image p.2 = q at q2 q3 q4 ⊢
  refine r_icmp_eq (pc := 2111) (tgt := 2152) hG dL_law_2111 (by decide) (fun _ => hn _ q3 q4) (fun c => absurd q2 c)
theorem law_57 (hG : GF G K RL cL_law 13) (hX : SC G K b L xs) (hL : L ≤ 3072) (hi : i + 6 ≤ L) (hx : OKX M) (hr : R2 M M) (hn : NX G K b i) : J G K M 2116 [some (.ref b), some (rf K 0), some (rf K 140), some (.int (nI i))] [] := by
  refine r_aload_n (pc := 2116) hG dL_law_2116 rfl ?_
  obtain ⟨q1, q2, q3, q4⟩ := fin_back hx hr
  refine cv_X8_back (pc := 2117) hG dL_law_2117 tw_1148 (c_X8_back hx) (by decide) (Nat.le_of_ble_eq_true rfl) ?_
  generalize sp_X8_back M = p at q1 q2 q3 q4 ⊢
  refine r_aload_n (pc := 2120) hG dL_law_2120 rfl ?_
  refine cv_X9_back (pc := 2121) hG dL_law_2121 tw_1703 (c_X9_back q1) (by decide) (Nat.le_of_ble_eq_true rfl) ?_
  generalize sp_X9_back p.2 = q at q2 q3 q4 ⊢
  refine r_icmp_eq (pc := 2124) (tgt := 2152) hG dL_law_2124 (by decide) (fun _ => hn _ q3 q4) (fun c => absurd q2 c)
theorem law_58 (hG : GF G K RL cL_law 13) (hX : SC G K b L xs) (hL : L ≤ 3072) (hi : i + 6 ≤ L) (hx : OKX M) (hr : R2 M M) (hn : NX G K b i) : J G K M 2129 [some (.ref b), some (rf K 0), some (rf K 140), some (.int (nI i))] [] := by
  refine r_aload_n (pc := 2129) hG dL_law_2129 rfl ?_
  refine r_aloadR (pc := 2130) hG dL_law_2130 rfl ?_
  refine r_iload_n (pc := 2131) hG dL_law_2131 rfl ?_
  refine r_iconst (v := nI 1) (pc := 2132) hG dL_law_2132 rfl ?_
  refine r_iadd (pc := 2133) hG dL_law_2133 ?_
  refine r_sld (pc := 2134) (j := i + 1) hG hX dL_law_2134 (ix_sc hi hL (by omega)) ?_
  obtain ⟨q1, q2, q3, q4⟩ := fin_status hx hr (a0 := (xs (i + 1)))
  refine cv_X8_status (pc := 2135) hG dL_law_2135 tw_1152 (c_X8_status hx) (by decide) (Nat.le_of_ble_eq_true rfl) ?_
  generalize sp_X8_status M (xs (i + 1)) = p at q1 q2 q3 q4 ⊢
  refine r_aload_n (pc := 2138) hG dL_law_2138 rfl ?_
  refine r_aloadR (pc := 2139) hG dL_law_2139 rfl ?_
  refine r_iload_n (pc := 2140) hG dL_law_2140 rfl ?_
  refine r_iconst (v := nI 1) (pc := 2141) hG dL_law_2141 rfl ?_
  refine r_iadd (pc := 2142) hG dL_law_2142 ?_
  refine r_sld (pc := 2143) (j := i + 1) hG hX dL_law_2143 (ix_sc hi hL (by omega)) ?_
  refine cv_X9_status (pc := 2144) hG dL_law_2144 tw_1707 (c_X9_status q1) (by decide) (Nat.le_of_ble_eq_true rfl) ?_
  generalize sp_X9_status p.2 (xs (i + 1)) = q at q2 q3 q4 ⊢
  refine r_icmp_eq (pc := 2147) (tgt := 2152) hG dL_law_2147 (by decide) (fun _ => hn _ q3 q4) (fun c => absurd q2 c)
end Law
