section LAW0
variable {p : Program} {l : Launch} {e : Env} {s : State} {m : MethodId} {below : List Frame} {meth : Method} {c : Code} {cells slots : Nat} {Q : State → Prop} {bS L i : Nat} {xs : Nat → Int32} {g : Gm} {A : Nat → Prop} {k : SgT} {a : Nat → Nat → Nat} {b : Nat → Nat}
set_option maxRecDepth 20000 in
theorem law_row (cx : LC p s m c bS L xs g A k) (hi : i + 5 < L) (hcs : cells + 28 ≤ 600000 ∧ slots + 759 ≤ 7302249) (hgo : LGo p l e s m below meth c bS Q g A a b 1909 i (cells + 28) (slots + 759)) : LGo p l e s m below meth c bS Q g A a b 264 i cells slots := by
  intro Z T1 T2 T3 G R P O B U V M R' kt t H locs ls h hw hl
  obtain ⟨⟨hx, hb, hml, hown, hts⟩, ⟨hX, hbl, hbA, hL⟩, hK, hA, hSg⟩ := id cx
  have hS : CallFix p m c cL_law 4 s #[Value.ref bS] wsL_law RL := ⟨hx, hb, hml, hown, hts⟩
  refine lv_aload_n hx hb dL_law_264 rfl (lv_at hl 2 rfl) ?_
  refine larg cx hw 1 (by omega) hl 265 (by decide) dL_law_265 dL_law_266 dL_law_267 dL_law_268 dL_law_269 ?_
  refine larg cx hw 2 (by omega) hl 270 (by decide) dL_law_270 dL_law_271 dL_law_272 dL_law_273 dL_law_274 ?_
  refine larg cx hw 3 (by omega) hl 275 (by decide) dL_law_275 dL_law_276 dL_law_277 dL_law_278 dL_law_279 ?_
  obtain ⟨ra, Z', G', Rn, V', Rm, h1, h2, h3⟩ := op_row h T3 O B M (xs (i + 1)) (xs (i + 2)) (xs (i + 3))
  refine rVWp (wq := wC g a Z' T1 T2 T3 G' Rn P O B ++ wRf g b U V M R' kt t) (rs := wRf g b U V M R' kt t) (As := [.int (xs (i + 1)), .int (xs (i + 2)), .int (xs (i + 3))]) (rest := []) (q0 := 0) hS (c_X6_row l g (a 0) (a 1) (a 2) (a 3) (a 4) (a 5) (a 6) (a 7) (a 8) Z T1 T2 T3 G R P O B (xs (i + 1)) (xs (i + 2)) (xs (i + 3)) h1) gL_law_X6_row rfl hd_X6_row ⟨Nat.le_of_ble_eq_true rfl, Nat.le_of_ble_eq_true rfl⟩ hK hw hA (List.Perm.refl _) rfl (List.Perm.refl _) rfl rfl rfl rfl hl.1 rfl (Nat.le_of_ble_eq_true rfl) dL_law_280 ⟨show cells ≤ 600000 by omega, show slots ≤ 7302249 by omega⟩ (fun H locs hw => ?_)
  refine W.eq (g2 := F0 m 283 ls [.int ra]) rfl ?_
  refine lv_aload_n hx hb dL_law_283 rfl (lv_at hl 3 rfl) ?_
  refine larg cx hw 1 (by omega) hl 284 (by decide) dL_law_284 dL_law_285 dL_law_286 dL_law_287 dL_law_288 ?_
  refine larg cx hw 2 (by omega) hl 289 (by decide) dL_law_289 dL_law_290 dL_law_291 dL_law_292 dL_law_293 ?_
  refine larg cx hw 3 (by omega) hl 294 (by decide) dL_law_294 dL_law_295 dL_law_296 dL_law_297 dL_law_298 ?_
  refine rVWp (wq := wC g a Z' T1 T2 T3 G' Rn P O B ++ wRf g b U V' M Rm kt t) (rs := wC g a Z' T1 T2 T3 G' Rn P O B ++ (wOT g t ++ wOT g kt)) (As := [.int (xs (i + 1)), .int (xs (i + 2)), .int (xs (i + 3))]) (rest := [.int ra]) (q0 := 0) hS (c_X7_row l g b (tvOf kt) (tvOf t) U V M R' (xs (i + 1)) (xs (i + 2)) (xs (i + 3)) h2) gL_law_X7_row rfl hd_X7_row ⟨Nat.le_of_ble_eq_true rfl, Nat.le_of_ble_eq_true rfl⟩ hK hw hA (lpmC _ _ _ _) rfl (lpmC _ _ _ _) rfl rfl rfl rfl hl.1 rfl (Nat.le_of_ble_eq_true rfl) dL_law_299 ⟨show cells ≤ 600000 by omega, show slots ≤ 7302249 by omega⟩ (fun H locs hw => ?_)
  refine W.eq (g2 := F0 m 302 ls [.int ra, .int ra]) rfl ?_
  refine W.widen (k := cells + 28) (n := slots + 759) (by omega) (by omega) ?_
  refine lv_icmp_eq (tgt := 1909) hx hb dL_law_302 (by decide) (fun _ => ?_) (fun z => absurd rfl z)
  exact hgo Z' T1 T2 T3 G' Rn P O B U V' M Rm kt t H locs ls h3 hw hl
set_option maxRecDepth 20000 in
theorem law_set (cx : LC p s m c bS L xs g A k) (hi : i + 5 < L) (hcs : cells + 28 ≤ 600000 ∧ slots + 759 ≤ 7302249) (hgo : LGo p l e s m below meth c bS Q g A a b 1909 i (cells + 28) (slots + 759)) : LGo p l e s m below meth c bS Q g A a b 307 i cells slots := by
  intro Z T1 T2 T3 G R P O B U V M R' kt t H locs ls h hw hl
  obtain ⟨⟨hx, hb, hml, hown, hts⟩, ⟨hX, hbl, hbA, hL⟩, hK, hA, hSg⟩ := id cx
  have hS : CallFix p m c cL_law 4 s #[Value.ref bS] wsL_law RL := ⟨hx, hb, hml, hown, hts⟩
  refine lv_aload_n hx hb dL_law_307 rfl (lv_at hl 2 rfl) ?_
  refine larg cx hw 1 (by omega) hl 308 (by decide) dL_law_308 dL_law_309 dL_law_310 dL_law_311 dL_law_312 ?_
  refine larg cx hw 2 (by omega) hl 313 (by decide) dL_law_313 dL_law_314 dL_law_315 dL_law_316 dL_law_317 ?_
  refine larg cx hw 3 (by omega) hl 318 (by decide) dL_law_318 dL_law_319 dL_law_320 dL_law_321 dL_law_322 ?_
  refine lv_i2l (v := (xs (i + 3)).toInt64) hx hb dL_law_323 rfl ?_
  refine lv_bipush (v := (32 : Int32)) hx hb dL_law_324 (by decide) ?_
  refine lv_lshl (v := (((xs (i + 3)).toInt64) <<< (((32 : Int32)).toInt64 &&& 63))) hx hb dL_law_326 rfl ?_
  refine larg cx hw 4 (by omega) hl 327 (by decide) dL_law_327 dL_law_328 dL_law_329 dL_law_330 dL_law_331 ?_
  refine lv_i2l (v := (xs (i + 4)).toInt64) hx hb dL_law_332 rfl ?_
  refine lv_ldc2 (v := (4294967295 : Int64)) hx hb hown (hts _ (mem_ldcL)) dL_law_333 ?_
  refine lv_land hx hb dL_law_336 ?_
  refine lv_lor hx hb dL_law_337 ?_
  obtain ⟨ra, Z', Rn, V', Rm, h1, h2, h3⟩ := op_set h T3 O B M (xs (i + 1)) (xs (i + 2)) ((((xs (i + 3)).toInt64) <<< (((32 : Int32)).toInt64 &&& 63)) ||| (((xs (i + 4)).toInt64) &&& (4294967295 : Int64)))
  refine rVWp (wq := wC g a Z' T1 T2 T3 G Rn P O B ++ wRf g b U V M R' kt t) (rs := wRf g b U V M R' kt t) (As := [.int (xs (i + 1)), .int (xs (i + 2)), .long ((((xs (i + 3)).toInt64) <<< (((32 : Int32)).toInt64 &&& 63)) ||| (((xs (i + 4)).toInt64) &&& (4294967295 : Int64)))]) (rest := []) (q0 := 0) hS (c_X6_set l g (a 0) (a 1) (a 2) (a 3) (a 4) (a 5) (a 6) (a 7) (a 8) Z T1 T2 T3 G R P O B (xs (i + 1)) (xs (i + 2)) ((((xs (i + 3)).toInt64) <<< (((32 : Int32)).toInt64 &&& 63)) ||| (((xs (i + 4)).toInt64) &&& (4294967295 : Int64))) h1) gL_law_X6_set rfl hd_X6_set ⟨Nat.le_of_ble_eq_true rfl, Nat.le_of_ble_eq_true rfl⟩ hK hw hA (List.Perm.refl _) rfl (List.Perm.refl _) rfl rfl rfl rfl hl.1 rfl (Nat.le_of_ble_eq_true rfl) dL_law_338 ⟨show cells ≤ 600000 by omega, show slots ≤ 7302249 by omega⟩ (fun H locs hw => ?_)
  refine W.eq (g2 := F0 m 341 ls [.int ra]) rfl ?_
  refine lv_aload_n hx hb dL_law_341 rfl (lv_at hl 3 rfl) ?_
  refine larg cx hw 1 (by omega) hl 342 (by decide) dL_law_342 dL_law_343 dL_law_344 dL_law_345 dL_law_346 ?_
  refine larg cx hw 2 (by omega) hl 347 (by decide) dL_law_347 dL_law_348 dL_law_349 dL_law_350 dL_law_351 ?_
  refine larg cx hw 3 (by omega) hl 352 (by decide) dL_law_352 dL_law_353 dL_law_354 dL_law_355 dL_law_356 ?_
  refine lv_i2l (v := (xs (i + 3)).toInt64) hx hb dL_law_357 rfl ?_
  refine lv_bipush (v := (32 : Int32)) hx hb dL_law_358 (by decide) ?_
  refine lv_lshl (v := (((xs (i + 3)).toInt64) <<< (((32 : Int32)).toInt64 &&& 63))) hx hb dL_law_360 rfl ?_
  refine larg cx hw 4 (by omega) hl 361 (by decide) dL_law_361 dL_law_362 dL_law_363 dL_law_364 dL_law_365 ?_
  refine lv_i2l (v := (xs (i + 4)).toInt64) hx hb dL_law_366 rfl ?_
  refine lv_ldc2 (v := (4294967295 : Int64)) hx hb hown (hts _ (mem_ldcL)) dL_law_367 ?_
  refine lv_land hx hb dL_law_370 ?_
  refine lv_lor hx hb dL_law_371 ?_
  refine rVWp (wq := wC g a Z' T1 T2 T3 G Rn P O B ++ wRf g b U V' M Rm kt t) (rs := wC g a Z' T1 T2 T3 G Rn P O B ++ (wOT g t ++ wOT g kt)) (As := [.int (xs (i + 1)), .int (xs (i + 2)), .long ((((xs (i + 3)).toInt64) <<< (((32 : Int32)).toInt64 &&& 63)) ||| (((xs (i + 4)).toInt64) &&& (4294967295 : Int64)))]) (rest := [.int ra]) (q0 := 0) hS (c_X7_set l g b (tvOf kt) (tvOf t) U V M R' (xs (i + 1)) (xs (i + 2)) ((((xs (i + 3)).toInt64) <<< (((32 : Int32)).toInt64 &&& 63)) ||| (((xs (i + 4)).toInt64) &&& (4294967295 : Int64))) h2) gL_law_X7_set rfl hd_X7_set ⟨Nat.le_of_ble_eq_true rfl, Nat.le_of_ble_eq_true rfl⟩ hK hw hA (lpmC _ _ _ _) rfl (lpmC _ _ _ _) rfl rfl rfl rfl hl.1 rfl (Nat.le_of_ble_eq_true rfl) dL_law_372 ⟨show cells ≤ 600000 by omega, show slots ≤ 7302249 by omega⟩ (fun H locs hw => ?_)
  refine W.eq (g2 := F0 m 375 ls [.int ra, .int ra]) rfl ?_
  refine W.widen (k := cells + 28) (n := slots + 759) (by omega) (by omega) ?_
  refine lv_icmp_eq (tgt := 1909) hx hb dL_law_375 (by decide) (fun _ => ?_) (fun z => absurd rfl z)
  exact hgo Z' T1 T2 T3 G Rn P O B U V' M Rm kt t H locs ls h3 hw hl
set_option maxRecDepth 20000 in
theorem law_copy (cx : LC p s m c bS L xs g A k) (hi : i + 5 < L) (hcs : cells + 28 ≤ 600000 ∧ slots + 759 ≤ 7302249) (hgo : LGo p l e s m below meth c bS Q g A a b 1909 i (cells + 28) (slots + 759)) : LGo p l e s m below meth c bS Q g A a b 380 i cells slots := by
  intro Z T1 T2 T3 G R P O B U V M R' kt t H locs ls h hw hl
  obtain ⟨⟨hx, hb, hml, hown, hts⟩, ⟨hX, hbl, hbA, hL⟩, hK, hA, hSg⟩ := id cx
  have hS : CallFix p m c cL_law 4 s #[Value.ref bS] wsL_law RL := ⟨hx, hb, hml, hown, hts⟩
  refine lv_aload_n hx hb dL_law_380 rfl (lv_at hl 2 rfl) ?_
  refine larg cx hw 1 (by omega) hl 381 (by decide) dL_law_381 dL_law_382 dL_law_383 dL_law_384 dL_law_385 ?_
  refine larg cx hw 2 (by omega) hl 386 (by decide) dL_law_386 dL_law_387 dL_law_388 dL_law_389 dL_law_390 ?_
  refine larg cx hw 3 (by omega) hl 391 (by decide) dL_law_391 dL_law_392 dL_law_393 dL_law_394 dL_law_395 ?_
  refine larg cx hw 4 (by omega) hl 396 (by decide) dL_law_396 dL_law_397 dL_law_398 dL_law_399 dL_law_400 ?_
  refine larg cx hw 5 (by omega) hl 401 (by decide) dL_law_401 dL_law_402 dL_law_403 dL_law_404 dL_law_405 ?_
  obtain ⟨ra, Z', Rn, V', M', Rm, h1, h2, h3⟩ := op_copy h T3 O B M (xs (i + 1)) (xs (i + 2)) (xs (i + 3)) (xs (i + 4)) (xs (i + 5))
  refine rVWp (wq := wC g a Z' T1 T2 T3 G Rn P O B ++ wRf g b U V M R' kt t) (rs := wRf g b U V M R' kt t) (As := [.int (xs (i + 1)), .int (xs (i + 2)), .int (xs (i + 3)), .int (xs (i + 4)), .int (xs (i + 5))]) (rest := []) (q0 := 0) hS (c_X6_copy l g (a 0) (a 1) (a 2) (a 3) (a 4) (a 5) (a 6) (a 7) (a 8) Z T1 T2 T3 G R P O B (xs (i + 1)) (xs (i + 2)) (xs (i + 3)) (xs (i + 4)) (xs (i + 5)) h1) gL_law_X6_copy rfl hd_X6_copy ⟨Nat.le_of_ble_eq_true rfl, Nat.le_of_ble_eq_true rfl⟩ hK hw hA (List.Perm.refl _) rfl (List.Perm.refl _) rfl rfl rfl rfl hl.1 rfl (Nat.le_of_ble_eq_true rfl) dL_law_406 ⟨show cells ≤ 600000 by omega, show slots ≤ 7302249 by omega⟩ (fun H locs hw => ?_)
  refine W.eq (g2 := F0 m 409 ls [.int ra]) rfl ?_
  refine lv_aload_n hx hb dL_law_409 rfl (lv_at hl 3 rfl) ?_
  refine larg cx hw 1 (by omega) hl 410 (by decide) dL_law_410 dL_law_411 dL_law_412 dL_law_413 dL_law_414 ?_
  refine larg cx hw 2 (by omega) hl 415 (by decide) dL_law_415 dL_law_416 dL_law_417 dL_law_418 dL_law_419 ?_
  refine larg cx hw 3 (by omega) hl 420 (by decide) dL_law_420 dL_law_421 dL_law_422 dL_law_423 dL_law_424 ?_
  refine larg cx hw 4 (by omega) hl 425 (by decide) dL_law_425 dL_law_426 dL_law_427 dL_law_428 dL_law_429 ?_
  refine larg cx hw 5 (by omega) hl 430 (by decide) dL_law_430 dL_law_431 dL_law_432 dL_law_433 dL_law_434 ?_
  refine rVWp (wq := wC g a Z' T1 T2 T3 G Rn P O B ++ wRf g b U V' M' Rm kt t) (rs := wC g a Z' T1 T2 T3 G Rn P O B ++ (wOT g t ++ wOT g kt)) (As := [.int (xs (i + 1)), .int (xs (i + 2)), .int (xs (i + 3)), .int (xs (i + 4)), .int (xs (i + 5))]) (rest := [.int ra]) (q0 := 0) hS (c_X7_copy l g b (tvOf kt) (tvOf t) U V M R' (xs (i + 1)) (xs (i + 2)) (xs (i + 3)) (xs (i + 4)) (xs (i + 5)) h2) gL_law_X7_copy rfl hd_X7_copy ⟨Nat.le_of_ble_eq_true rfl, Nat.le_of_ble_eq_true rfl⟩ hK hw hA (lpmC _ _ _ _) rfl (lpmC _ _ _ _) rfl rfl rfl rfl hl.1 rfl (Nat.le_of_ble_eq_true rfl) dL_law_435 ⟨show cells ≤ 600000 by omega, show slots ≤ 7302249 by omega⟩ (fun H locs hw => ?_)
  refine W.eq (g2 := F0 m 438 ls [.int ra, .int ra]) rfl ?_
  refine W.widen (k := cells + 28) (n := slots + 759) (by omega) (by omega) ?_
  refine lv_icmp_eq (tgt := 1909) hx hb dL_law_438 (by decide) (fun _ => ?_) (fun z => absurd rfl z)
  exact hgo Z' T1 T2 T3 G Rn P O B U V' M' Rm kt t H locs ls h3 hw hl
set_option maxRecDepth 20000 in
theorem law_element (cx : LC p s m c bS L xs g A k) (hi : i + 5 < L) (hcs : cells + 28 ≤ 600000 ∧ slots + 759 ≤ 7302249) (hgo : LGo p l e s m below meth c bS Q g A a b 1909 i (cells + 28) (slots + 759)) : LGo p l e s m below meth c bS Q g A a b 443 i cells slots := by
  intro Z T1 T2 T3 G R P O B U V M R' kt t H locs ls h hw hl
  obtain ⟨⟨hx, hb, hml, hown, hts⟩, ⟨hX, hbl, hbA, hL⟩, hK, hA, hSg⟩ := id cx
  have hS : CallFix p m c cL_law 4 s #[Value.ref bS] wsL_law RL := ⟨hx, hb, hml, hown, hts⟩
  refine lv_aload_n hx hb dL_law_443 rfl (lv_at hl 2 rfl) ?_
  refine larg cx hw 1 (by omega) hl 444 (by decide) dL_law_444 dL_law_445 dL_law_446 dL_law_447 dL_law_448 ?_
  refine larg cx hw 2 (by omega) hl 449 (by decide) dL_law_449 dL_law_450 dL_law_451 dL_law_452 dL_law_453 ?_
  obtain ⟨ra, h1, h2, h3⟩ := op_element h T3 O B M (xs (i + 1)) (xs (i + 2))
  refine rVR (wc := wC g a Z T1 T2 T3 G R P O B) (As := [.int (xs (i + 1)), .int (xs (i + 2))]) (rest := []) (q0 := 0) hS (c_X6_element l g (a 0) (a 1) (a 2) (a 3) (a 4) (a 5) (a 6) (a 7) (a 8) Z T1 T2 T3 G R P O B (xs (i + 1)) (xs (i + 2)) h1) gL_law_X6_element rfl hd_X6_element ⟨Nat.le_of_ble_eq_true rfl, Nat.le_of_ble_eq_true rfl⟩ hK (va_P.pm hw.1 (List.Perm.refl _)) rfl rfl rfl rfl hl.1 rfl (Nat.le_of_ble_eq_true rfl) dL_law_454 ⟨show cells ≤ 600000 by omega, show slots ≤ 7302249 by omega⟩ ?_
  refine W.eq (g2 := F0 m 457 ls [.long ra]) rfl ?_
  refine lv_aload_n hx hb dL_law_457 rfl (lv_at hl 3 rfl) ?_
  refine larg cx hw 1 (by omega) hl 458 (by decide) dL_law_458 dL_law_459 dL_law_460 dL_law_461 dL_law_462 ?_
  refine larg cx hw 2 (by omega) hl 463 (by decide) dL_law_463 dL_law_464 dL_law_465 dL_law_466 dL_law_467 ?_
  refine rVR (wc := wXM g b U V M R' (tvOf kt) (tvOf t)) (As := [.int (xs (i + 1)), .int (xs (i + 2))]) (rest := [.long ra]) (q0 := 0) hS (c_X7_element l g b (tvOf kt) (tvOf t) U V M R' (xs (i + 1)) (xs (i + 2)) h2) gL_law_X7_element rfl hd_X7_element ⟨Nat.le_of_ble_eq_true rfl, Nat.le_of_ble_eq_true rfl⟩ hK (va_P.pm hw.1 (lpmC _ _ _ _)) rfl rfl rfl rfl hl.1 rfl (Nat.le_of_ble_eq_true rfl) dL_law_468 ⟨show cells ≤ 600000 by omega, show slots ≤ 7302249 by omega⟩ ?_
  refine W.eq (g2 := F0 m 471 ls [.long ra, .long ra]) rfl ?_
  refine W.widen (k := cells + 28) (n := slots + 759) (by omega) (by omega) ?_
  refine W.lcmp hx hb dL_law_471 ?_
  refine lv_if_eq (tgt := 1909) hx hb dL_law_472 (by decide) (fun _ => ?_) (fun z => absurd (lg_cmp_self _) z)
  exact hgo Z T1 T2 T3 G R P O B U V M R' kt t H locs ls h3 hw hl
set_option maxRecDepth 20000 in
theorem law_holds (cx : LC p s m c bS L xs g A k) (hi : i + 5 < L) (hcs : cells + 28 ≤ 600000 ∧ slots + 759 ≤ 7302249) (hgo : LGo p l e s m below meth c bS Q g A a b 1909 i (cells + 28) (slots + 759)) : LGo p l e s m below meth c bS Q g A a b 477 i cells slots := by
  intro Z T1 T2 T3 G R P O B U V M R' kt t H locs ls h hw hl
  obtain ⟨⟨hx, hb, hml, hown, hts⟩, ⟨hX, hbl, hbA, hL⟩, hK, hA, hSg⟩ := id cx
  have hS : CallFix p m c cL_law 4 s #[Value.ref bS] wsL_law RL := ⟨hx, hb, hml, hown, hts⟩
  refine lv_aload_n hx hb dL_law_477 rfl (lv_at hl 2 rfl) ?_
  refine larg cx hw 1 (by omega) hl 478 (by decide) dL_law_478 dL_law_479 dL_law_480 dL_law_481 dL_law_482 ?_
  obtain ⟨ra, h1, h2, h3⟩ := op_holds h T3 O B M (xs (i + 1))
  refine rVR (wc := wC g a Z T1 T2 T3 G R P O B) (As := [.int (xs (i + 1))]) (rest := []) (q0 := 0) hS (c_X6_holds l g (a 0) (a 1) (a 2) (a 3) (a 4) (a 5) (a 6) (a 7) (a 8) Z T1 T2 T3 G R P O B (xs (i + 1)) h1) gL_law_X6_holds rfl hd_X6_holds ⟨Nat.le_of_ble_eq_true rfl, Nat.le_of_ble_eq_true rfl⟩ hK (va_P.pm hw.1 (List.Perm.refl _)) rfl rfl rfl rfl hl.1 rfl (Nat.le_of_ble_eq_true rfl) dL_law_483 ⟨show cells ≤ 600000 by omega, show slots ≤ 7302249 by omega⟩ ?_
  refine W.eq (g2 := F0 m 486 ls [.int ra]) rfl ?_
  refine lv_aload_n hx hb dL_law_486 rfl (lv_at hl 3 rfl) ?_
  refine larg cx hw 1 (by omega) hl 487 (by decide) dL_law_487 dL_law_488 dL_law_489 dL_law_490 dL_law_491 ?_
  refine rVR (wc := wXM g b U V M R' (tvOf kt) (tvOf t)) (As := [.int (xs (i + 1))]) (rest := [.int ra]) (q0 := 0) hS (c_X7_holds l g b (tvOf kt) (tvOf t) U V M R' (xs (i + 1)) h2) gL_law_X7_holds rfl hd_X7_holds ⟨Nat.le_of_ble_eq_true rfl, Nat.le_of_ble_eq_true rfl⟩ hK (va_P.pm hw.1 (lpmC _ _ _ _)) rfl rfl rfl rfl hl.1 rfl (Nat.le_of_ble_eq_true rfl) dL_law_492 ⟨show cells ≤ 600000 by omega, show slots ≤ 7302249 by omega⟩ ?_
  refine W.eq (g2 := F0 m 495 ls [.int ra, .int ra]) rfl ?_
  refine W.widen (k := cells + 28) (n := slots + 759) (by omega) (by omega) ?_
  refine lv_icmp_eq (tgt := 1909) hx hb dL_law_495 (by decide) (fun _ => ?_) (fun z => absurd rfl z)
  exact hgo Z T1 T2 T3 G R P O B U V M R' kt t H locs ls h3 hw hl
set_option maxRecDepth 20000 in
theorem law_show (cx : LC p s m c bS L xs g A k) (hi : i + 5 < L) (hcs : cells + 28 ≤ 600000 ∧ slots + 759 ≤ 7302249) (hgo : LGo p l e s m below meth c bS Q g A a b 1909 i (cells + 28) (slots + 759)) : LGo p l e s m below meth c bS Q g A a b 500 i cells slots := by
  intro Z T1 T2 T3 G R P O B U V M R' kt t H locs ls h hw hl
  obtain ⟨⟨hx, hb, hml, hown, hts⟩, ⟨hX, hbl, hbA, hL⟩, hK, hA, hSg⟩ := id cx
  have hS : CallFix p m c cL_law 4 s #[Value.ref bS] wsL_law RL := ⟨hx, hb, hml, hown, hts⟩
  refine lv_aload_n hx hb dL_law_500 rfl (lv_at hl 2 rfl) ?_
  refine larg cx hw 1 (by omega) hl 501 (by decide) dL_law_501 dL_law_502 dL_law_503 dL_law_504 dL_law_505 ?_
  refine larg cx hw 2 (by omega) hl 506 (by decide) dL_law_506 dL_law_507 dL_law_508 dL_law_509 dL_law_510 ?_
  obtain ⟨ra, Z', G', V', h1, h2, h3⟩ := op_show h T3 O B M (xs (i + 1)) (xs (i + 2))
  refine rVWp (wq := wC g a Z' T1 T2 T3 G' R P O B ++ wRf g b U V M R' kt t) (rs := wRf g b U V M R' kt t) (As := [.int (xs (i + 1)), .int (xs (i + 2))]) (rest := []) (q0 := 0) hS (c_X6_show l g (a 0) (a 1) (a 2) (a 3) (a 4) (a 5) (a 6) (a 7) (a 8) Z T1 T2 T3 G R P O B (xs (i + 1)) (xs (i + 2)) h1) gL_law_X6_show rfl hd_X6_show ⟨Nat.le_of_ble_eq_true rfl, Nat.le_of_ble_eq_true rfl⟩ hK hw hA (List.Perm.refl _) rfl (List.Perm.refl _) rfl rfl rfl rfl hl.1 rfl (Nat.le_of_ble_eq_true rfl) dL_law_511 ⟨show cells ≤ 600000 by omega, show slots ≤ 7302249 by omega⟩ (fun H locs hw => ?_)
  refine W.eq (g2 := F0 m 514 ls [.int ra]) rfl ?_
  refine lv_aload_n hx hb dL_law_514 rfl (lv_at hl 3 rfl) ?_
  refine larg cx hw 1 (by omega) hl 515 (by decide) dL_law_515 dL_law_516 dL_law_517 dL_law_518 dL_law_519 ?_
  refine larg cx hw 2 (by omega) hl 520 (by decide) dL_law_520 dL_law_521 dL_law_522 dL_law_523 dL_law_524 ?_
  refine rVWp (wq := wC g a Z' T1 T2 T3 G' R P O B ++ wRf g b U V' M R' kt t) (rs := wC g a Z' T1 T2 T3 G' R P O B ++ (wOT g t ++ wOT g kt)) (As := [.int (xs (i + 1)), .int (xs (i + 2))]) (rest := [.int ra]) (q0 := 0) hS (c_X7_show l g b (tvOf kt) (tvOf t) U V M R' (xs (i + 1)) (xs (i + 2)) h2) gL_law_X7_show rfl hd_X7_show ⟨Nat.le_of_ble_eq_true rfl, Nat.le_of_ble_eq_true rfl⟩ hK hw hA (lpmC _ _ _ _) rfl (lpmC _ _ _ _) rfl rfl rfl rfl hl.1 rfl (Nat.le_of_ble_eq_true rfl) dL_law_525 ⟨show cells ≤ 600000 by omega, show slots ≤ 7302249 by omega⟩ (fun H locs hw => ?_)
  refine W.eq (g2 := F0 m 528 ls [.int ra, .int ra]) rfl ?_
  refine W.widen (k := cells + 28) (n := slots + 759) (by omega) (by omega) ?_
  refine lv_icmp_eq (tgt := 1909) hx hb dL_law_528 (by decide) (fun _ => ?_) (fun z => absurd rfl z)
  exact hgo Z' T1 T2 T3 G' R P O B U V' M R' kt t H locs ls h3 hw hl
set_option maxRecDepth 20000 in
theorem law_says (cx : LC p s m c bS L xs g A k) (hi : i + 5 < L) (hcs : cells + 28 ≤ 600000 ∧ slots + 759 ≤ 7302249) (hgo : LGo p l e s m below meth c bS Q g A a b 1909 i (cells + 28) (slots + 759)) : LGo p l e s m below meth c bS Q g A a b 533 i cells slots := by
  intro Z T1 T2 T3 G R P O B U V M R' kt t H locs ls h hw hl
  obtain ⟨⟨hx, hb, hml, hown, hts⟩, ⟨hX, hbl, hbA, hL⟩, hK, hA, hSg⟩ := id cx
  have hS : CallFix p m c cL_law 4 s #[Value.ref bS] wsL_law RL := ⟨hx, hb, hml, hown, hts⟩
  refine lv_aload_n hx hb dL_law_533 rfl (lv_at hl 2 rfl) ?_
  refine larg cx hw 1 (by omega) hl 534 (by decide) dL_law_534 dL_law_535 dL_law_536 dL_law_537 dL_law_538 ?_
  refine larg cx hw 2 (by omega) hl 539 (by decide) dL_law_539 dL_law_540 dL_law_541 dL_law_542 dL_law_543 ?_
  obtain ⟨ra, Z', V', h1, h2, h3⟩ := op_says h T3 O B M (xs (i + 1)) (xs (i + 2))
  refine rVWp (wq := wC g a Z' T1 T2 T3 G R P O B ++ wRf g b U V M R' kt t) (rs := wRf g b U V M R' kt t) (As := [.int (xs (i + 1)), .int (xs (i + 2))]) (rest := []) (q0 := 0) hS (c_X6_says l g (a 0) (a 1) (a 2) (a 3) (a 4) (a 5) (a 6) (a 7) (a 8) Z T1 T2 T3 G R P O B (xs (i + 1)) (xs (i + 2)) h1) gL_law_X6_says rfl hd_X6_says ⟨Nat.le_of_ble_eq_true rfl, Nat.le_of_ble_eq_true rfl⟩ hK hw hA (List.Perm.refl _) rfl (List.Perm.refl _) rfl rfl rfl rfl hl.1 rfl (Nat.le_of_ble_eq_true rfl) dL_law_544 ⟨show cells ≤ 600000 by omega, show slots ≤ 7302249 by omega⟩ (fun H locs hw => ?_)
  refine W.eq (g2 := F0 m 547 ls [.int ra]) rfl ?_
  refine lv_aload_n hx hb dL_law_547 rfl (lv_at hl 3 rfl) ?_
  refine larg cx hw 1 (by omega) hl 548 (by decide) dL_law_548 dL_law_549 dL_law_550 dL_law_551 dL_law_552 ?_
  refine larg cx hw 2 (by omega) hl 553 (by decide) dL_law_553 dL_law_554 dL_law_555 dL_law_556 dL_law_557 ?_
  refine rVWp (wq := wC g a Z' T1 T2 T3 G R P O B ++ wRf g b U V' M R' kt t) (rs := wC g a Z' T1 T2 T3 G R P O B ++ (wOT g t ++ wOT g kt)) (As := [.int (xs (i + 1)), .int (xs (i + 2))]) (rest := [.int ra]) (q0 := 0) hS (c_X7_says l g b (tvOf kt) (tvOf t) U V M R' (xs (i + 1)) (xs (i + 2)) h2) gL_law_X7_says rfl hd_X7_says ⟨Nat.le_of_ble_eq_true rfl, Nat.le_of_ble_eq_true rfl⟩ hK hw hA (lpmC _ _ _ _) rfl (lpmC _ _ _ _) rfl rfl rfl rfl hl.1 rfl (Nat.le_of_ble_eq_true rfl) dL_law_558 ⟨show cells ≤ 600000 by omega, show slots ≤ 7302249 by omega⟩ (fun H locs hw => ?_)
  refine W.eq (g2 := F0 m 561 ls [.int ra, .int ra]) rfl ?_
  refine W.widen (k := cells + 28) (n := slots + 759) (by omega) (by omega) ?_
  refine lv_icmp_eq (tgt := 1909) hx hb dL_law_561 (by decide) (fun _ => ?_) (fun z => absurd rfl z)
  exact hgo Z' T1 T2 T3 G R P O B U V' M R' kt t H locs ls h3 hw hl
set_option maxRecDepth 20000 in
theorem law_sights (cx : LC p s m c bS L xs g A k) (hi : i + 5 < L) (hcs : cells + 28 ≤ 600000 ∧ slots + 759 ≤ 7302249) (hgo : LGo p l e s m below meth c bS Q g A a b 1909 i (cells + 28) (slots + 759)) : LGo p l e s m below meth c bS Q g A a b 566 i cells slots := by
  intro Z T1 T2 T3 G R P O B U V M R' kt t H locs ls h hw hl
  obtain ⟨⟨hx, hb, hml, hown, hts⟩, ⟨hX, hbl, hbA, hL⟩, hK, hA, hSg⟩ := id cx
  have hS : CallFix p m c cL_law 4 s #[Value.ref bS] wsL_law RL := ⟨hx, hb, hml, hown, hts⟩
  refine lv_aload_n hx hb dL_law_566 rfl (lv_at hl 2 rfl) ?_
  refine larg cx hw 1 (by omega) hl 567 (by decide) dL_law_567 dL_law_568 dL_law_569 dL_law_570 dL_law_571 ?_
  obtain ⟨ra, Z', T1', U', V', h1, h2, h3⟩ := op_sights h T3 O B M (xs (i + 1))
  refine rVWp (wq := wC g a Z' T1' T2 T3 G R P O B ++ wRf g b U V M R' kt t) (rs := wRf g b U V M R' kt t) (As := [.int (xs (i + 1))]) (rest := []) (q0 := 0) hS (c_X6_sights l g (a 0) (a 1) (a 2) (a 3) (a 4) (a 5) (a 6) (a 7) (a 8) Z T1 T2 T3 G R P O B (xs (i + 1)) h1) gL_law_X6_sights rfl hd_X6_sights ⟨Nat.le_of_ble_eq_true rfl, Nat.le_of_ble_eq_true rfl⟩ hK hw hA (List.Perm.refl _) rfl (List.Perm.refl _) rfl rfl rfl rfl hl.1 rfl (Nat.le_of_ble_eq_true rfl) dL_law_572 ⟨show cells ≤ 600000 by omega, show slots ≤ 7302249 by omega⟩ (fun H locs hw => ?_)
  refine W.eq (g2 := F0 m 575 ls [.int ra]) rfl ?_
  refine lv_aload_n hx hb dL_law_575 rfl (lv_at hl 3 rfl) ?_
  refine larg cx hw 1 (by omega) hl 576 (by decide) dL_law_576 dL_law_577 dL_law_578 dL_law_579 dL_law_580 ?_
  refine rVWp (wq := wC g a Z' T1' T2 T3 G R P O B ++ wRf g b U' V' M R' kt t) (rs := wC g a Z' T1' T2 T3 G R P O B ++ (wOT g t ++ wOT g kt)) (As := [.int (xs (i + 1))]) (rest := [.int ra]) (q0 := 0) hS (c_X7_sights l g b (tvOf kt) (tvOf t) U V M R' (xs (i + 1)) h2) gL_law_X7_sights rfl hd_X7_sights ⟨Nat.le_of_ble_eq_true rfl, Nat.le_of_ble_eq_true rfl⟩ hK hw hA (lpmC _ _ _ _) rfl (lpmC _ _ _ _) rfl rfl rfl rfl hl.1 rfl (Nat.le_of_ble_eq_true rfl) dL_law_581 ⟨show cells ≤ 600000 by omega, show slots ≤ 7302249 by omega⟩ (fun H locs hw => ?_)
  refine W.eq (g2 := F0 m 584 ls [.int ra, .int ra]) rfl ?_
  refine W.widen (k := cells + 28) (n := slots + 759) (by omega) (by omega) ?_
  refine lv_icmp_eq (tgt := 1909) hx hb dL_law_584 (by decide) (fun _ => ?_) (fun z => absurd rfl z)
  exact hgo Z' T1' T2 T3 G R P O B U' V' M R' kt t H locs ls h3 hw hl
set_option maxRecDepth 20000 in
theorem law_person (cx : LC p s m c bS L xs g A k) (hi : i + 5 < L) (hcs : cells + 28 ≤ 600000 ∧ slots + 759 ≤ 7302249) (hgo : LGo p l e s m below meth c bS Q g A a b 1909 i (cells + 28) (slots + 759)) : LGo p l e s m below meth c bS Q g A a b 589 i cells slots := by
  intro Z T1 T2 T3 G R P O B U V M R' kt t H locs ls h hw hl
  obtain ⟨⟨hx, hb, hml, hown, hts⟩, ⟨hX, hbl, hbA, hL⟩, hK, hA, hSg⟩ := id cx
  have hS : CallFix p m c cL_law 4 s #[Value.ref bS] wsL_law RL := ⟨hx, hb, hml, hown, hts⟩
  refine lv_aload_n hx hb dL_law_589 rfl (lv_at hl 2 rfl) ?_
  refine larg cx hw 1 (by omega) hl 590 (by decide) dL_law_590 dL_law_591 dL_law_592 dL_law_593 dL_law_594 ?_
  refine larg cx hw 2 (by omega) hl 595 (by decide) dL_law_595 dL_law_596 dL_law_597 dL_law_598 dL_law_599 ?_
  obtain ⟨ra, Z', T1', U', V', h1, h2, h3⟩ := op_person h T3 O B M (xs (i + 1)) (xs (i + 2))
  refine rVWp (wq := wC g a Z' T1' T2 T3 G R P O B ++ wRf g b U V M R' kt t) (rs := wRf g b U V M R' kt t) (As := [.int (xs (i + 1)), .int (xs (i + 2))]) (rest := []) (q0 := 0) hS (c_X6_person l g (a 0) (a 1) (a 2) (a 3) (a 4) (a 5) (a 6) (a 7) (a 8) Z T1 T2 T3 G R P O B (xs (i + 1)) (xs (i + 2)) h1) gL_law_X6_person rfl hd_X6_person ⟨Nat.le_of_ble_eq_true rfl, Nat.le_of_ble_eq_true rfl⟩ hK hw hA (List.Perm.refl _) rfl (List.Perm.refl _) rfl rfl rfl rfl hl.1 rfl (Nat.le_of_ble_eq_true rfl) dL_law_600 ⟨show cells ≤ 600000 by omega, show slots ≤ 7302249 by omega⟩ (fun H locs hw => ?_)
  refine W.eq (g2 := F0 m 603 ls [.int ra]) rfl ?_
  refine lv_aload_n hx hb dL_law_603 rfl (lv_at hl 3 rfl) ?_
  refine larg cx hw 1 (by omega) hl 604 (by decide) dL_law_604 dL_law_605 dL_law_606 dL_law_607 dL_law_608 ?_
  refine larg cx hw 2 (by omega) hl 609 (by decide) dL_law_609 dL_law_610 dL_law_611 dL_law_612 dL_law_613 ?_
  refine rVWp (wq := wC g a Z' T1' T2 T3 G R P O B ++ wRf g b U' V' M R' kt t) (rs := wC g a Z' T1' T2 T3 G R P O B ++ (wOT g t ++ wOT g kt)) (As := [.int (xs (i + 1)), .int (xs (i + 2))]) (rest := [.int ra]) (q0 := 0) hS (c_X7_person l g b (tvOf kt) (tvOf t) U V M R' (xs (i + 1)) (xs (i + 2)) h2) gL_law_X7_person rfl hd_X7_person ⟨Nat.le_of_ble_eq_true rfl, Nat.le_of_ble_eq_true rfl⟩ hK hw hA (lpmC _ _ _ _) rfl (lpmC _ _ _ _) rfl rfl rfl rfl hl.1 rfl (Nat.le_of_ble_eq_true rfl) dL_law_614 ⟨show cells ≤ 600000 by omega, show slots ≤ 7302249 by omega⟩ (fun H locs hw => ?_)
  refine W.eq (g2 := F0 m 617 ls [.int ra, .int ra]) rfl ?_
  refine W.widen (k := cells + 28) (n := slots + 759) (by omega) (by omega) ?_
  refine lv_icmp_eq (tgt := 1909) hx hb dL_law_617 (by decide) (fun _ => ?_) (fun z => absurd rfl z)
  exact hgo Z' T1' T2 T3 G R P O B U' V' M R' kt t H locs ls h3 hw hl
set_option maxRecDepth 20000 in
theorem law_see (cx : LC p s m c bS L xs g A k) (hi : i + 5 < L) (hcs : cells + 28 ≤ 600000 ∧ slots + 759 ≤ 7302249) (hgo : LGo p l e s m below meth c bS Q g A a b 1909 i (cells + 28) (slots + 759)) : LGo p l e s m below meth c bS Q g A a b 622 i cells slots := by
  intro Z T1 T2 T3 G R P O B U V M R' kt t H locs ls h hw hl
  obtain ⟨⟨hx, hb, hml, hown, hts⟩, ⟨hX, hbl, hbA, hL⟩, hK, hA, hSg⟩ := id cx
  have hS : CallFix p m c cL_law 4 s #[Value.ref bS] wsL_law RL := ⟨hx, hb, hml, hown, hts⟩
  refine lv_aload_n hx hb dL_law_622 rfl (lv_at hl 2 rfl) ?_
  refine larg cx hw 1 (by omega) hl 623 (by decide) dL_law_623 dL_law_624 dL_law_625 dL_law_626 dL_law_627 ?_
  refine larg cx hw 2 (by omega) hl 628 (by decide) dL_law_628 dL_law_629 dL_law_630 dL_law_631 dL_law_632 ?_
  refine larg cx hw 3 (by omega) hl 633 (by decide) dL_law_633 dL_law_634 dL_law_635 dL_law_636 dL_law_637 ?_
  obtain ⟨ra, Z', T1', U', V', h1, h2, h3⟩ := op_see h T3 O B M (xs (i + 1)) (xs (i + 2)) (xs (i + 3))
  refine rVWp (wq := wC g a Z' T1' T2 T3 G R P O B ++ wRf g b U V M R' kt t) (rs := wRf g b U V M R' kt t) (As := [.int (xs (i + 1)), .int (xs (i + 2)), .int (xs (i + 3))]) (rest := []) (q0 := 0) hS (c_X6_see l g (a 0) (a 1) (a 2) (a 3) (a 4) (a 5) (a 6) (a 7) (a 8) Z T1 T2 T3 G R P O B (xs (i + 1)) (xs (i + 2)) (xs (i + 3)) h1) gL_law_X6_see rfl hd_X6_see ⟨Nat.le_of_ble_eq_true rfl, Nat.le_of_ble_eq_true rfl⟩ hK hw hA (List.Perm.refl _) rfl (List.Perm.refl _) rfl rfl rfl rfl hl.1 rfl (Nat.le_of_ble_eq_true rfl) dL_law_638 ⟨show cells ≤ 600000 by omega, show slots ≤ 7302249 by omega⟩ (fun H locs hw => ?_)
  refine W.eq (g2 := F0 m 641 ls [.int ra]) rfl ?_
  refine lv_aload_n hx hb dL_law_641 rfl (lv_at hl 3 rfl) ?_
  refine larg cx hw 1 (by omega) hl 642 (by decide) dL_law_642 dL_law_643 dL_law_644 dL_law_645 dL_law_646 ?_
  refine larg cx hw 2 (by omega) hl 647 (by decide) dL_law_647 dL_law_648 dL_law_649 dL_law_650 dL_law_651 ?_
  refine larg cx hw 3 (by omega) hl 652 (by decide) dL_law_652 dL_law_653 dL_law_654 dL_law_655 dL_law_656 ?_
  refine rVWp (wq := wC g a Z' T1' T2 T3 G R P O B ++ wRf g b U' V' M R' kt t) (rs := wC g a Z' T1' T2 T3 G R P O B ++ (wOT g t ++ wOT g kt)) (As := [.int (xs (i + 1)), .int (xs (i + 2)), .int (xs (i + 3))]) (rest := [.int ra]) (q0 := 0) hS (c_X7_see l g b (tvOf kt) (tvOf t) U V M R' (xs (i + 1)) (xs (i + 2)) (xs (i + 3)) h2) gL_law_X7_see rfl hd_X7_see ⟨Nat.le_of_ble_eq_true rfl, Nat.le_of_ble_eq_true rfl⟩ hK hw hA (lpmC _ _ _ _) rfl (lpmC _ _ _ _) rfl rfl rfl rfl hl.1 rfl (Nat.le_of_ble_eq_true rfl) dL_law_657 ⟨show cells ≤ 600000 by omega, show slots ≤ 7302249 by omega⟩ (fun H locs hw => ?_)
  refine W.eq (g2 := F0 m 660 ls [.int ra, .int ra]) rfl ?_
  refine W.widen (k := cells + 28) (n := slots + 759) (by omega) (by omega) ?_
  refine lv_icmp_eq (tgt := 1909) hx hb dL_law_660 (by decide) (fun _ => ?_) (fun z => absurd rfl z)
  exact hgo Z' T1' T2 T3 G R P O B U' V' M R' kt t H locs ls h3 hw hl
set_option maxRecDepth 20000 in
theorem law_hear (cx : LC p s m c bS L xs g A k) (hi : i + 5 < L) (hcs : cells + 28 ≤ 600000 ∧ slots + 759 ≤ 7302249) (hgo : LGo p l e s m below meth c bS Q g A a b 1909 i (cells + 28) (slots + 759)) : LGo p l e s m below meth c bS Q g A a b 665 i cells slots := by
  intro Z T1 T2 T3 G R P O B U V M R' kt t H locs ls h hw hl
  obtain ⟨⟨hx, hb, hml, hown, hts⟩, ⟨hX, hbl, hbA, hL⟩, hK, hA, hSg⟩ := id cx
  have hS : CallFix p m c cL_law 4 s #[Value.ref bS] wsL_law RL := ⟨hx, hb, hml, hown, hts⟩
  by_cases hz : xs (i + 3) = 0
  · refine lv_aload_n hx hb dL_law_665 rfl (lv_at hl 2 rfl) ?_
    refine larg cx hw 1 (by omega) hl 666 (by decide) dL_law_666 dL_law_667 dL_law_668 dL_law_669 dL_law_670 ?_
    refine larg cx hw 2 (by omega) hl 671 (by decide) dL_law_671 dL_law_672 dL_law_673 dL_law_674 dL_law_675 ?_
    refine larg cx hw 3 (by omega) hl 676 (by decide) dL_law_676 dL_law_677 dL_law_678 dL_law_679 dL_law_680 ?_
    refine lv_if_eq (tgt := 688) hx hb dL_law_681 (by decide) (fun _ => ?_) (fun z => absurd hz z)
    refine lv_iconst (v := (0 : Int32)) hx hb dL_law_688 (by decide) ?_
    obtain ⟨ra, Z', T1', U', V', h1, h2, h3⟩ := op_hear h T3 O B M (xs (i + 1)) (xs (i + 2)) (0 : Int32) (Or.inl rfl)
    refine rVWp (wq := wC g a Z' T1' T2 T3 G R P O B ++ wRf g b U V M R' kt t) (rs := wRf g b U V M R' kt t) (As := [.int (xs (i + 1)), .int (xs (i + 2)), .int (0 : Int32)]) (rest := []) (q0 := 0) hS (c_X6_hear l g (a 0) (a 1) (a 2) (a 3) (a 4) (a 5) (a 6) (a 7) (a 8) Z T1 T2 T3 G R P O B (xs (i + 1)) (xs (i + 2)) (0 : Int32) h1) gL_law_X6_hear rfl hd_X6_hear ⟨Nat.le_of_ble_eq_true rfl, Nat.le_of_ble_eq_true rfl⟩ hK hw hA (List.Perm.refl _) rfl (List.Perm.refl _) rfl rfl rfl rfl hl.1 rfl (Nat.le_of_ble_eq_true rfl) dL_law_689 ⟨show cells ≤ 600000 by omega, show slots ≤ 7302249 by omega⟩ (fun H locs hw => ?_)
    refine W.eq (g2 := F0 m 692 ls [.int ra]) rfl ?_
    refine lv_aload_n hx hb dL_law_692 rfl (lv_at hl 3 rfl) ?_
    refine larg cx hw 1 (by omega) hl 693 (by decide) dL_law_693 dL_law_694 dL_law_695 dL_law_696 dL_law_697 ?_
    refine larg cx hw 2 (by omega) hl 698 (by decide) dL_law_698 dL_law_699 dL_law_700 dL_law_701 dL_law_702 ?_
    refine larg cx hw 3 (by omega) hl 703 (by decide) dL_law_703 dL_law_704 dL_law_705 dL_law_706 dL_law_707 ?_
    refine lv_if_eq (tgt := 715) hx hb dL_law_708 (by decide) (fun _ => ?_) (fun z => absurd hz z)
    refine lv_iconst (v := (0 : Int32)) hx hb dL_law_715 (by decide) ?_
    refine rVWp (wq := wC g a Z' T1' T2 T3 G R P O B ++ wRf g b U' V' M R' kt t) (rs := wC g a Z' T1' T2 T3 G R P O B ++ (wOT g t ++ wOT g kt)) (As := [.int (xs (i + 1)), .int (xs (i + 2)), .int (0 : Int32)]) (rest := [.int ra]) (q0 := 0) hS (c_X7_hear l g b (tvOf kt) (tvOf t) U V M R' (xs (i + 1)) (xs (i + 2)) (0 : Int32) h2) gL_law_X7_hear rfl hd_X7_hear ⟨Nat.le_of_ble_eq_true rfl, Nat.le_of_ble_eq_true rfl⟩ hK hw hA (lpmC _ _ _ _) rfl (lpmC _ _ _ _) rfl rfl rfl rfl hl.1 rfl (Nat.le_of_ble_eq_true rfl) dL_law_716 ⟨show cells ≤ 600000 by omega, show slots ≤ 7302249 by omega⟩ (fun H locs hw => ?_)
    refine W.eq (g2 := F0 m 719 ls [.int ra, .int ra]) rfl ?_
    refine W.widen (k := cells + 28) (n := slots + 759) (by omega) (by omega) ?_
    refine lv_icmp_eq (tgt := 1909) hx hb dL_law_719 (by decide) (fun _ => ?_) (fun z => absurd rfl z)
    exact hgo Z' T1' T2 T3 G R P O B U' V' M R' kt t H locs ls h3 hw hl
  · refine lv_aload_n hx hb dL_law_665 rfl (lv_at hl 2 rfl) ?_
    refine larg cx hw 1 (by omega) hl 666 (by decide) dL_law_666 dL_law_667 dL_law_668 dL_law_669 dL_law_670 ?_
    refine larg cx hw 2 (by omega) hl 671 (by decide) dL_law_671 dL_law_672 dL_law_673 dL_law_674 dL_law_675 ?_
    refine larg cx hw 3 (by omega) hl 676 (by decide) dL_law_676 dL_law_677 dL_law_678 dL_law_679 dL_law_680 ?_
    refine lv_if_eq (tgt := 688) hx hb dL_law_681 (by decide) (fun z => absurd z hz) (fun _ => ?_)
    refine lv_iconst (v := (1 : Int32)) hx hb dL_law_684 (by decide) ?_
    refine lv_goto (tgt := 689) hx hb dL_law_685 (by decide) ?_
    obtain ⟨ra, Z', T1', U', V', h1, h2, h3⟩ := op_hear h T3 O B M (xs (i + 1)) (xs (i + 2)) (1 : Int32) (Or.inr rfl)
    refine rVWp (wq := wC g a Z' T1' T2 T3 G R P O B ++ wRf g b U V M R' kt t) (rs := wRf g b U V M R' kt t) (As := [.int (xs (i + 1)), .int (xs (i + 2)), .int (1 : Int32)]) (rest := []) (q0 := 0) hS (c_X6_hear l g (a 0) (a 1) (a 2) (a 3) (a 4) (a 5) (a 6) (a 7) (a 8) Z T1 T2 T3 G R P O B (xs (i + 1)) (xs (i + 2)) (1 : Int32) h1) gL_law_X6_hear rfl hd_X6_hear ⟨Nat.le_of_ble_eq_true rfl, Nat.le_of_ble_eq_true rfl⟩ hK hw hA (List.Perm.refl _) rfl (List.Perm.refl _) rfl rfl rfl rfl hl.1 rfl (Nat.le_of_ble_eq_true rfl) dL_law_689 ⟨show cells ≤ 600000 by omega, show slots ≤ 7302249 by omega⟩ (fun H locs hw => ?_)
    refine W.eq (g2 := F0 m 692 ls [.int ra]) rfl ?_
    refine lv_aload_n hx hb dL_law_692 rfl (lv_at hl 3 rfl) ?_
    refine larg cx hw 1 (by omega) hl 693 (by decide) dL_law_693 dL_law_694 dL_law_695 dL_law_696 dL_law_697 ?_
    refine larg cx hw 2 (by omega) hl 698 (by decide) dL_law_698 dL_law_699 dL_law_700 dL_law_701 dL_law_702 ?_
    refine larg cx hw 3 (by omega) hl 703 (by decide) dL_law_703 dL_law_704 dL_law_705 dL_law_706 dL_law_707 ?_
    refine lv_if_eq (tgt := 715) hx hb dL_law_708 (by decide) (fun z => absurd z hz) (fun _ => ?_)
    refine lv_iconst (v := (1 : Int32)) hx hb dL_law_711 (by decide) ?_
    refine lv_goto (tgt := 716) hx hb dL_law_712 (by decide) ?_
    refine rVWp (wq := wC g a Z' T1' T2 T3 G R P O B ++ wRf g b U' V' M R' kt t) (rs := wC g a Z' T1' T2 T3 G R P O B ++ (wOT g t ++ wOT g kt)) (As := [.int (xs (i + 1)), .int (xs (i + 2)), .int (1 : Int32)]) (rest := [.int ra]) (q0 := 0) hS (c_X7_hear l g b (tvOf kt) (tvOf t) U V M R' (xs (i + 1)) (xs (i + 2)) (1 : Int32) h2) gL_law_X7_hear rfl hd_X7_hear ⟨Nat.le_of_ble_eq_true rfl, Nat.le_of_ble_eq_true rfl⟩ hK hw hA (lpmC _ _ _ _) rfl (lpmC _ _ _ _) rfl rfl rfl rfl hl.1 rfl (Nat.le_of_ble_eq_true rfl) dL_law_716 ⟨show cells ≤ 600000 by omega, show slots ≤ 7302249 by omega⟩ (fun H locs hw => ?_)
    refine W.eq (g2 := F0 m 719 ls [.int ra, .int ra]) rfl ?_
    refine W.widen (k := cells + 28) (n := slots + 759) (by omega) (by omega) ?_
    refine lv_icmp_eq (tgt := 1909) hx hb dL_law_719 (by decide) (fun _ => ?_) (fun z => absurd rfl z)
    exact hgo Z' T1' T2 T3 G R P O B U' V' M R' kt t H locs ls h3 hw hl
set_option maxRecDepth 20000 in
theorem law_near (cx : LC p s m c bS L xs g A k) (hi : i + 5 < L) (hcs : cells + 28 ≤ 600000 ∧ slots + 759 ≤ 7302249) (hgo : LGo p l e s m below meth c bS Q g A a b 1909 i (cells + 28) (slots + 759)) : LGo p l e s m below meth c bS Q g A a b 724 i cells slots := by
  intro Z T1 T2 T3 G R P O B U V M R' kt t H locs ls h hw hl
  obtain ⟨⟨hx, hb, hml, hown, hts⟩, ⟨hX, hbl, hbA, hL⟩, hK, hA, hSg⟩ := id cx
  have hS : CallFix p m c cL_law 4 s #[Value.ref bS] wsL_law RL := ⟨hx, hb, hml, hown, hts⟩
  by_cases hz : xs (i + 3) = 0
  · refine lv_aload_n hx hb dL_law_724 rfl (lv_at hl 2 rfl) ?_
    refine larg cx hw 1 (by omega) hl 725 (by decide) dL_law_725 dL_law_726 dL_law_727 dL_law_728 dL_law_729 ?_
    refine larg cx hw 2 (by omega) hl 730 (by decide) dL_law_730 dL_law_731 dL_law_732 dL_law_733 dL_law_734 ?_
    refine larg cx hw 3 (by omega) hl 735 (by decide) dL_law_735 dL_law_736 dL_law_737 dL_law_738 dL_law_739 ?_
    refine lv_if_eq (tgt := 747) hx hb dL_law_740 (by decide) (fun _ => ?_) (fun z => absurd hz z)
    refine lv_iconst (v := (0 : Int32)) hx hb dL_law_747 (by decide) ?_
    obtain ⟨ra, Z', T1', U', V', h1, h2, h3⟩ := op_near h T3 O B M (xs (i + 1)) (xs (i + 2)) (0 : Int32) (Or.inl rfl)
    refine rVWp (wq := wC g a Z' T1' T2 T3 G R P O B ++ wRf g b U V M R' kt t) (rs := wRf g b U V M R' kt t) (As := [.int (xs (i + 1)), .int (xs (i + 2)), .int (0 : Int32)]) (rest := []) (q0 := 0) hS (c_X6_near l g (a 0) (a 1) (a 2) (a 3) (a 4) (a 5) (a 6) (a 7) (a 8) Z T1 T2 T3 G R P O B (xs (i + 1)) (xs (i + 2)) (0 : Int32) h1) gL_law_X6_near rfl hd_X6_near ⟨Nat.le_of_ble_eq_true rfl, Nat.le_of_ble_eq_true rfl⟩ hK hw hA (List.Perm.refl _) rfl (List.Perm.refl _) rfl rfl rfl rfl hl.1 rfl (Nat.le_of_ble_eq_true rfl) dL_law_748 ⟨show cells ≤ 600000 by omega, show slots ≤ 7302249 by omega⟩ (fun H locs hw => ?_)
    refine W.eq (g2 := F0 m 751 ls [.int ra]) rfl ?_
    refine lv_aload_n hx hb dL_law_751 rfl (lv_at hl 3 rfl) ?_
    refine larg cx hw 1 (by omega) hl 752 (by decide) dL_law_752 dL_law_753 dL_law_754 dL_law_755 dL_law_756 ?_
    refine larg cx hw 2 (by omega) hl 757 (by decide) dL_law_757 dL_law_758 dL_law_759 dL_law_760 dL_law_761 ?_
    refine larg cx hw 3 (by omega) hl 762 (by decide) dL_law_762 dL_law_763 dL_law_764 dL_law_765 dL_law_766 ?_
    refine lv_if_eq (tgt := 774) hx hb dL_law_767 (by decide) (fun _ => ?_) (fun z => absurd hz z)
    refine lv_iconst (v := (0 : Int32)) hx hb dL_law_774 (by decide) ?_
    refine rVWp (wq := wC g a Z' T1' T2 T3 G R P O B ++ wRf g b U' V' M R' kt t) (rs := wC g a Z' T1' T2 T3 G R P O B ++ (wOT g t ++ wOT g kt)) (As := [.int (xs (i + 1)), .int (xs (i + 2)), .int (0 : Int32)]) (rest := [.int ra]) (q0 := 0) hS (c_X7_near l g b (tvOf kt) (tvOf t) U V M R' (xs (i + 1)) (xs (i + 2)) (0 : Int32) h2) gL_law_X7_near rfl hd_X7_near ⟨Nat.le_of_ble_eq_true rfl, Nat.le_of_ble_eq_true rfl⟩ hK hw hA (lpmC _ _ _ _) rfl (lpmC _ _ _ _) rfl rfl rfl rfl hl.1 rfl (Nat.le_of_ble_eq_true rfl) dL_law_775 ⟨show cells ≤ 600000 by omega, show slots ≤ 7302249 by omega⟩ (fun H locs hw => ?_)
    refine W.eq (g2 := F0 m 778 ls [.int ra, .int ra]) rfl ?_
    refine W.widen (k := cells + 28) (n := slots + 759) (by omega) (by omega) ?_
    refine lv_icmp_eq (tgt := 1909) hx hb dL_law_778 (by decide) (fun _ => ?_) (fun z => absurd rfl z)
    exact hgo Z' T1' T2 T3 G R P O B U' V' M R' kt t H locs ls h3 hw hl
  · refine lv_aload_n hx hb dL_law_724 rfl (lv_at hl 2 rfl) ?_
    refine larg cx hw 1 (by omega) hl 725 (by decide) dL_law_725 dL_law_726 dL_law_727 dL_law_728 dL_law_729 ?_
    refine larg cx hw 2 (by omega) hl 730 (by decide) dL_law_730 dL_law_731 dL_law_732 dL_law_733 dL_law_734 ?_
    refine larg cx hw 3 (by omega) hl 735 (by decide) dL_law_735 dL_law_736 dL_law_737 dL_law_738 dL_law_739 ?_
    refine lv_if_eq (tgt := 747) hx hb dL_law_740 (by decide) (fun z => absurd z hz) (fun _ => ?_)
    refine lv_iconst (v := (1 : Int32)) hx hb dL_law_743 (by decide) ?_
    refine lv_goto (tgt := 748) hx hb dL_law_744 (by decide) ?_
    obtain ⟨ra, Z', T1', U', V', h1, h2, h3⟩ := op_near h T3 O B M (xs (i + 1)) (xs (i + 2)) (1 : Int32) (Or.inr rfl)
    refine rVWp (wq := wC g a Z' T1' T2 T3 G R P O B ++ wRf g b U V M R' kt t) (rs := wRf g b U V M R' kt t) (As := [.int (xs (i + 1)), .int (xs (i + 2)), .int (1 : Int32)]) (rest := []) (q0 := 0) hS (c_X6_near l g (a 0) (a 1) (a 2) (a 3) (a 4) (a 5) (a 6) (a 7) (a 8) Z T1 T2 T3 G R P O B (xs (i + 1)) (xs (i + 2)) (1 : Int32) h1) gL_law_X6_near rfl hd_X6_near ⟨Nat.le_of_ble_eq_true rfl, Nat.le_of_ble_eq_true rfl⟩ hK hw hA (List.Perm.refl _) rfl (List.Perm.refl _) rfl rfl rfl rfl hl.1 rfl (Nat.le_of_ble_eq_true rfl) dL_law_748 ⟨show cells ≤ 600000 by omega, show slots ≤ 7302249 by omega⟩ (fun H locs hw => ?_)
    refine W.eq (g2 := F0 m 751 ls [.int ra]) rfl ?_
    refine lv_aload_n hx hb dL_law_751 rfl (lv_at hl 3 rfl) ?_
    refine larg cx hw 1 (by omega) hl 752 (by decide) dL_law_752 dL_law_753 dL_law_754 dL_law_755 dL_law_756 ?_
    refine larg cx hw 2 (by omega) hl 757 (by decide) dL_law_757 dL_law_758 dL_law_759 dL_law_760 dL_law_761 ?_
    refine larg cx hw 3 (by omega) hl 762 (by decide) dL_law_762 dL_law_763 dL_law_764 dL_law_765 dL_law_766 ?_
    refine lv_if_eq (tgt := 774) hx hb dL_law_767 (by decide) (fun z => absurd z hz) (fun _ => ?_)
    refine lv_iconst (v := (1 : Int32)) hx hb dL_law_770 (by decide) ?_
    refine lv_goto (tgt := 775) hx hb dL_law_771 (by decide) ?_
    refine rVWp (wq := wC g a Z' T1' T2 T3 G R P O B ++ wRf g b U' V' M R' kt t) (rs := wC g a Z' T1' T2 T3 G R P O B ++ (wOT g t ++ wOT g kt)) (As := [.int (xs (i + 1)), .int (xs (i + 2)), .int (1 : Int32)]) (rest := [.int ra]) (q0 := 0) hS (c_X7_near l g b (tvOf kt) (tvOf t) U V M R' (xs (i + 1)) (xs (i + 2)) (1 : Int32) h2) gL_law_X7_near rfl hd_X7_near ⟨Nat.le_of_ble_eq_true rfl, Nat.le_of_ble_eq_true rfl⟩ hK hw hA (lpmC _ _ _ _) rfl (lpmC _ _ _ _) rfl rfl rfl rfl hl.1 rfl (Nat.le_of_ble_eq_true rfl) dL_law_775 ⟨show cells ≤ 600000 by omega, show slots ≤ 7302249 by omega⟩ (fun H locs hw => ?_)
    refine W.eq (g2 := F0 m 778 ls [.int ra, .int ra]) rfl ?_
    refine W.widen (k := cells + 28) (n := slots + 759) (by omega) (by omega) ?_
    refine lv_icmp_eq (tgt := 1909) hx hb dL_law_778 (by decide) (fun _ => ?_) (fun z => absurd rfl z)
    exact hgo Z' T1' T2 T3 G R P O B U' V' M R' kt t H locs ls h3 hw hl
set_option maxRecDepth 20000 in
theorem law_ask (cx : LC p s m c bS L xs g A k) (hi : i + 5 < L) (hcs : cells + 28 ≤ 600000 ∧ slots + 759 ≤ 7302249) (hgo : LGo p l e s m below meth c bS Q g A a b 1909 i (cells + 28) (slots + 759)) : LGo p l e s m below meth c bS Q g A a b 783 i cells slots := by
  intro Z T1 T2 T3 G R P O B U V M R' kt t H locs ls h hw hl
  obtain ⟨⟨hx, hb, hml, hown, hts⟩, ⟨hX, hbl, hbA, hL⟩, hK, hA, hSg⟩ := id cx
  have hS : CallFix p m c cL_law 4 s #[Value.ref bS] wsL_law RL := ⟨hx, hb, hml, hown, hts⟩
  refine lv_aload_n hx hb dL_law_783 rfl (lv_at hl 2 rfl) ?_
  refine larg cx hw 1 (by omega) hl 784 (by decide) dL_law_784 dL_law_785 dL_law_786 dL_law_787 dL_law_788 ?_
  refine larg cx hw 2 (by omega) hl 789 (by decide) dL_law_789 dL_law_790 dL_law_791 dL_law_792 dL_law_793 ?_
  obtain ⟨ra, Z', T1', U', V', h1, h2, h3⟩ := op_ask h T3 O B M (xs (i + 1)) (xs (i + 2))
  refine rVWp (wq := wC g a Z' T1' T2 T3 G R P O B ++ wRf g b U V M R' kt t) (rs := wRf g b U V M R' kt t) (As := [.int (xs (i + 1)), .int (xs (i + 2))]) (rest := []) (q0 := 0) hS (c_X6_ask l g (a 0) (a 1) (a 2) (a 3) (a 4) (a 5) (a 6) (a 7) (a 8) Z T1 T2 T3 G R P O B (xs (i + 1)) (xs (i + 2)) h1) gL_law_X6_ask rfl hd_X6_ask ⟨Nat.le_of_ble_eq_true rfl, Nat.le_of_ble_eq_true rfl⟩ hK hw hA (List.Perm.refl _) rfl (List.Perm.refl _) rfl rfl rfl rfl hl.1 rfl (Nat.le_of_ble_eq_true rfl) dL_law_794 ⟨show cells ≤ 600000 by omega, show slots ≤ 7302249 by omega⟩ (fun H locs hw => ?_)
  refine W.eq (g2 := F0 m 797 ls [.int ra]) rfl ?_
  refine lv_aload_n hx hb dL_law_797 rfl (lv_at hl 3 rfl) ?_
  refine larg cx hw 1 (by omega) hl 798 (by decide) dL_law_798 dL_law_799 dL_law_800 dL_law_801 dL_law_802 ?_
  refine larg cx hw 2 (by omega) hl 803 (by decide) dL_law_803 dL_law_804 dL_law_805 dL_law_806 dL_law_807 ?_
  refine rVWp (wq := wC g a Z' T1' T2 T3 G R P O B ++ wRf g b U' V' M R' kt t) (rs := wC g a Z' T1' T2 T3 G R P O B ++ (wOT g t ++ wOT g kt)) (As := [.int (xs (i + 1)), .int (xs (i + 2))]) (rest := [.int ra]) (q0 := 0) hS (c_X7_ask l g b (tvOf kt) (tvOf t) U V M R' (xs (i + 1)) (xs (i + 2)) h2) gL_law_X7_ask rfl hd_X7_ask ⟨Nat.le_of_ble_eq_true rfl, Nat.le_of_ble_eq_true rfl⟩ hK hw hA (lpmC _ _ _ _) rfl (lpmC _ _ _ _) rfl rfl rfl rfl hl.1 rfl (Nat.le_of_ble_eq_true rfl) dL_law_808 ⟨show cells ≤ 600000 by omega, show slots ≤ 7302249 by omega⟩ (fun H locs hw => ?_)
  refine W.eq (g2 := F0 m 811 ls [.int ra, .int ra]) rfl ?_
  refine W.widen (k := cells + 28) (n := slots + 759) (by omega) (by omega) ?_
  refine lv_icmp_eq (tgt := 1909) hx hb dL_law_811 (by decide) (fun _ => ?_) (fun z => absurd rfl z)
  exact hgo Z' T1' T2 T3 G R P O B U' V' M R' kt t H locs ls h3 hw hl
set_option maxRecDepth 20000 in
theorem law_feed (cx : LC p s m c bS L xs g A k) (hi : i + 5 < L) (hcs : cells + 28 ≤ 600000 ∧ slots + 759 ≤ 7302249) (hgo : LGo p l e s m below meth c bS Q g A a b 1909 i (cells + 28) (slots + 759)) : LGo p l e s m below meth c bS Q g A a b 816 i cells slots := by
  intro Z T1 T2 T3 G R P O B U V M R' kt t H locs ls h hw hl
  obtain ⟨⟨hx, hb, hml, hown, hts⟩, ⟨hX, hbl, hbA, hL⟩, hK, hA, hSg⟩ := id cx
  have hS : CallFix p m c cL_law 4 s #[Value.ref bS] wsL_law RL := ⟨hx, hb, hml, hown, hts⟩
  refine lv_aload_n hx hb dL_law_816 rfl (lv_at hl 2 rfl) ?_
  refine larg cx hw 1 (by omega) hl 817 (by decide) dL_law_817 dL_law_818 dL_law_819 dL_law_820 dL_law_821 ?_
  obtain ⟨ra, Z', P', V', h1, h2, h3⟩ := op_feed h T3 O B M (xs (i + 1))
  refine rVWp (wq := wC g a Z' T1 T2 T3 G R P' O B ++ wRf g b U V M R' kt t) (rs := wRf g b U V M R' kt t) (As := [.int (xs (i + 1))]) (rest := []) (q0 := 0) hS (c_X6_feed l g (a 0) (a 1) (a 2) (a 3) (a 4) (a 5) (a 6) (a 7) (a 8) Z T1 T2 T3 G R P O B (xs (i + 1)) h1) gL_law_X6_feed rfl hd_X6_feed ⟨Nat.le_of_ble_eq_true rfl, Nat.le_of_ble_eq_true rfl⟩ hK hw hA (List.Perm.refl _) rfl (List.Perm.refl _) rfl rfl rfl rfl hl.1 rfl (Nat.le_of_ble_eq_true rfl) dL_law_822 ⟨show cells ≤ 600000 by omega, show slots ≤ 7302249 by omega⟩ (fun H locs hw => ?_)
  refine W.eq (g2 := F0 m 825 ls [.int ra]) rfl ?_
  refine lv_aload_n hx hb dL_law_825 rfl (lv_at hl 3 rfl) ?_
  refine larg cx hw 1 (by omega) hl 826 (by decide) dL_law_826 dL_law_827 dL_law_828 dL_law_829 dL_law_830 ?_
  refine rVWp (wq := wC g a Z' T1 T2 T3 G R P' O B ++ wRf g b U V' M R' kt t) (rs := wC g a Z' T1 T2 T3 G R P' O B ++ (wOT g t ++ wOT g kt)) (As := [.int (xs (i + 1))]) (rest := [.int ra]) (q0 := 0) hS (c_X7_feed l g b (tvOf kt) (tvOf t) U V M R' (xs (i + 1)) h2) gL_law_X7_feed rfl hd_X7_feed ⟨Nat.le_of_ble_eq_true rfl, Nat.le_of_ble_eq_true rfl⟩ hK hw hA (lpmC _ _ _ _) rfl (lpmC _ _ _ _) rfl rfl rfl rfl hl.1 rfl (Nat.le_of_ble_eq_true rfl) dL_law_831 ⟨show cells ≤ 600000 by omega, show slots ≤ 7302249 by omega⟩ (fun H locs hw => ?_)
  refine W.eq (g2 := F0 m 834 ls [.int ra, .int ra]) rfl ?_
  refine W.widen (k := cells + 28) (n := slots + 759) (by omega) (by omega) ?_
  refine lv_icmp_eq (tgt := 1909) hx hb dL_law_834 (by decide) (fun _ => ?_) (fun z => absurd rfl z)
  exact hgo Z' T1 T2 T3 G R P' O B U V' M R' kt t H locs ls h3 hw hl
end LAW0
