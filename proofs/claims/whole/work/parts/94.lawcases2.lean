set_option maxHeartbeats 4000000 in
set_option maxRecDepth 100000 in
theorem law_case_8 {p : Program} {l : Launch} {e : Env} {s : State} {m : MethodId} {below : List Frame} {meth : Method} {c : Code} {b L : Nat} {xs : Nat → Int32} {D : va_G} {x x0 x1 x2 x3 y y0 y1 y2 y3 : Nat} {cA : ClassId} {A : Nat → Prop} (S : CallFix p m c code 4 s #[.ref b] wsL_law RL) (hX : va_X b L xs s s.heap) (hbl : b < s.heap.size) (hbA : ¬ A b) (hA : ∀ q, s.heap.size ≤ q → A q) (hK : va_K D vwCl [(cA, .int)] s) {H T E F G : Int → Int} {cc gc w d v : Int} {Hp : Heap} {lc : List Loc} (hI : LInv s D A x x0 x1 x2 x3 y y0 y1 y2 y3 cA H T E F G cc gc w d v Hp lc) {i : Int} (hi : 0 ≤ i ∧ i ≤ 2560 ∧ i + 5 ≤ (L : Int)) {ls : Array Slot} (hl : lv_has ls 4 (LLs b x y i)) (kk : ∀ (H T E F G : Int → Int) (cc gc w d v : Int) (Hp : Heap) (lc : List Loc), LInv s D A x x0 x1 x2 x3 y y0 y1 y2 y3 cA H T E F G cc gc w d v Hp lc → W p l e room_1 s m #[Value.ref b] below meth c Hp lc 10 78 (lw_Z below #[Value.ref b] s) (F0 m 895 ls [])) : W p l e room_1 s m #[Value.ref b] below meth c Hp lc 10 78 (lw_Z below #[Value.ref b] s) (F0 m 346 ls []) := by
  obtain ⟨hok, hP, hD, hS⟩ := hI
  refine lv_aload_n S.1 S.2.1 dL_law_346 rfl (lv_at hl 2 rfl) ?_
  refine lv_aload_n S.1 S.2.1 dL_law_347 rfl (lv_at hl 3 rfl) ?_
  refine j_iload_n S dL_law_348 rfl (lv_at hl 0 rfl) ?_
  refine j_iconst S dL_law_349 ?_
  refine j_iadd S dL_law_350 ?_
  refine j_sld S hX hbl hbA hS (a := (i + 1)) ⟨by omega, by omega, by omega⟩ dL_law_351 ?_
  refine lv_aload_n S.1 S.2.1 dL_law_352 rfl (lv_at hl 3 rfl) ?_
  refine j_iload_n S dL_law_353 rfl (lv_at hl 0 rfl) ?_
  refine j_iconst S dL_law_354 ?_
  refine j_iadd S dL_law_355 ?_
  refine j_sld S hX hbl hbA hS (a := (i + 2)) ⟨by omega, by omega, by omega⟩ dL_law_356 ?_
  refine lv_aload_n S.1 S.2.1 dL_law_357 rfl (lv_at hl 3 rfl) ?_
  refine j_iload_n S dL_law_358 rfl (lv_at hl 0 rfl) ?_
  refine j_iconst S dL_law_359 ?_
  refine j_iadd S dL_law_360 ?_
  refine j_sld S hX hbl hbA hS (a := (i + 3)) ⟨by omega, by omega, by omega⟩ dL_law_361 ?_
  refine j_cvm [0, 1, 2, 3, 4] [5, 6, 7, 8, 9] (wr := (MW y y0 y1 y2 y3 cA H T E G cc gc w d v)) (As := [jI (sx xs (i + 1)), jI (sx xs (i + 2)), jI (sx xs (i + 3))]) (ci := 0) S (c_X0_train l D x x0 x1 x2 x3 cA H T E F cc gc w d v _ hok (sx xs (i + 1)) (sx xs (i + 2)) (sx xs (i + 3)) sx_in sx_in sx_in) (cwV 3 S.2.2.2.2 gL_law_X0_train rfl rfl rfl ⟨rfl, hdX0_train⟩ ⟨Nat.le_of_ble_eq_true rfl, Nat.le_of_ble_eq_true rfl⟩) hK hP hD hS hA rfl rfl (by decide) (by decide) (by decide) rfl rfl rfl [] rfl rfl hl.1 (Nat.le_of_ble_eq_true rfl) ⟨Nat.le_of_ble_eq_true rfl, Nat.le_of_ble_eq_true rfl⟩ dL_law_362 (fun i1 u1 Hp lc q1 hP hD hS => ?_)
  have hP : va_P D vwCl ((MW y y0 y1 y2 y3 cA H T E G cc gc w d v) ++ (XW x x0 x1 x2 x3 cA H T E u1 cc gc w d v)) Hp := hP
  have hD : va_D A ((MW y y0 y1 y2 y3 cA H T E G cc gc w d v) ++ (XW x x0 x1 x2 x3 cA H T E u1 cc gc w d v)) := hD
  refine lv_aload_n S.1 S.2.1 dL_law_365 rfl (lv_at hl 1 rfl) ?_
  refine lv_aload_n S.1 S.2.1 dL_law_366 rfl (lv_at hl 3 rfl) ?_
  refine j_iload_n S dL_law_367 rfl (lv_at hl 0 rfl) ?_
  refine j_iconst S dL_law_368 ?_
  refine j_iadd S dL_law_369 ?_
  refine j_sld S hX hbl hbA hS (a := (i + 1)) ⟨by omega, by omega, by omega⟩ dL_law_370 ?_
  refine lv_aload_n S.1 S.2.1 dL_law_371 rfl (lv_at hl 3 rfl) ?_
  refine j_iload_n S dL_law_372 rfl (lv_at hl 0 rfl) ?_
  refine j_iconst S dL_law_373 ?_
  refine j_iadd S dL_law_374 ?_
  refine j_sld S hX hbl hbA hS (a := (i + 2)) ⟨by omega, by omega, by omega⟩ dL_law_375 ?_
  refine lv_aload_n S.1 S.2.1 dL_law_376 rfl (lv_at hl 3 rfl) ?_
  refine j_iload_n S dL_law_377 rfl (lv_at hl 0 rfl) ?_
  refine j_iconst S dL_law_378 ?_
  refine j_iadd S dL_law_379 ?_
  refine j_sld S hX hbl hbA hS (a := (i + 3)) ⟨by omega, by omega, by omega⟩ dL_law_380 ?_
  refine j_cvm [0, 1, 2, 3, 4] [5, 6, 7, 8, 9] (wr := (XW x x0 x1 x2 x3 cA H T E u1 cc gc w d v)) (As := [jI (sx xs (i + 1)), jI (sx xs (i + 2)), jI (sx xs (i + 3))]) (ci := 1) S (c_X1_train l D y y0 y1 y2 y3 cA H T E G cc gc w d v _ hok (sx xs (i + 1)) (sx xs (i + 2)) (sx xs (i + 3)) sx_in sx_in sx_in) (cwV 3 S.2.2.2.2 gL_law_X1_train rfl rfl rfl ⟨rfl, hdX1_train⟩ ⟨Nat.le_of_ble_eq_true rfl, Nat.le_of_ble_eq_true rfl⟩) hK hP hD hS hA rfl rfl (by decide) (by decide) (by decide) rfl rfl rfl [jI i1] rfl rfl hl.1 (Nat.le_of_ble_eq_true rfl) ⟨Nat.le_of_ble_eq_true rfl, Nat.le_of_ble_eq_true rfl⟩ dL_law_381 (fun i2 u2 Hp lc q2 hP hD hS => ?_)
  have hP : va_P D vwCl ((XW x x0 x1 x2 x3 cA H T E u1 cc gc w d v) ++ (MW y y0 y1 y2 y3 cA H T E u2 cc gc w d v)) Hp := hP
  have hD : va_D A ((XW x x0 x1 x2 x3 cA H T E u1 cc gc w d v) ++ (MW y y0 y1 y2 y3 cA H T E u2 cc gc w d v)) := hD
  have he : i1 = i2 := P_train_det (by have := hok.2.1; omega) q1 q2
  subst he
  refine lv_icmp_eq (tgt := 895) S.1 S.2.1 dL_law_384 (by decide) (fun _ => ?_) (fun z9 => absurd rfl z9)
  exact kk H T E u1 u2 cc gc w d v _ _ ⟨hok, hP, hD, hS⟩
set_option maxHeartbeats 4000000 in
set_option maxRecDepth 100000 in
theorem law_case_9 {p : Program} {l : Launch} {e : Env} {s : State} {m : MethodId} {below : List Frame} {meth : Method} {c : Code} {b L : Nat} {xs : Nat → Int32} {D : va_G} {x x0 x1 x2 x3 y y0 y1 y2 y3 : Nat} {cA : ClassId} {A : Nat → Prop} (S : CallFix p m c code 4 s #[.ref b] wsL_law RL) (hX : va_X b L xs s s.heap) (hbl : b < s.heap.size) (hbA : ¬ A b) (hA : ∀ q, s.heap.size ≤ q → A q) (hK : va_K D vwCl [(cA, .int)] s) {H T E F G : Int → Int} {cc gc w d v : Int} {Hp : Heap} {lc : List Loc} (hI : LInv s D A x x0 x1 x2 x3 y y0 y1 y2 y3 cA H T E F G cc gc w d v Hp lc) {i : Int} (hi : 0 ≤ i ∧ i ≤ 2560 ∧ i + 5 ≤ (L : Int)) {ls : Array Slot} (hl : lv_has ls 4 (LLs b x y i)) (kk : ∀ (H T E F G : Int → Int) (cc gc w d v : Int) (Hp : Heap) (lc : List Loc), LInv s D A x x0 x1 x2 x3 y y0 y1 y2 y3 cA H T E F G cc gc w d v Hp lc → W p l e room_1 s m #[Value.ref b] below meth c Hp lc 10 78 (lw_Z below #[Value.ref b] s) (F0 m 895 ls [])) : W p l e room_1 s m #[Value.ref b] below meth c Hp lc 10 78 (lw_Z below #[Value.ref b] s) (F0 m 389 ls []) := by
  obtain ⟨hok, hP, hD, hS⟩ := hI
  refine lv_aload_n S.1 S.2.1 dL_law_389 rfl (lv_at hl 2 rfl) ?_
  refine lv_aload_n S.1 S.2.1 dL_law_390 rfl (lv_at hl 3 rfl) ?_
  refine j_iload_n S dL_law_391 rfl (lv_at hl 0 rfl) ?_
  refine j_iconst S dL_law_392 ?_
  refine j_iadd S dL_law_393 ?_
  refine j_sld S hX hbl hbA hS (a := (i + 1)) ⟨by omega, by omega, by omega⟩ dL_law_394 ?_
  refine lv_aload_n S.1 S.2.1 dL_law_395 rfl (lv_at hl 3 rfl) ?_
  refine j_iload_n S dL_law_396 rfl (lv_at hl 0 rfl) ?_
  refine j_iconst S dL_law_397 ?_
  refine j_iadd S dL_law_398 ?_
  refine j_sld S hX hbl hbA hS (a := (i + 2)) ⟨by omega, by omega, by omega⟩ dL_law_399 ?_
  refine lv_aload_n S.1 S.2.1 dL_law_400 rfl (lv_at hl 3 rfl) ?_
  refine j_iload_n S dL_law_401 rfl (lv_at hl 0 rfl) ?_
  refine j_iconst S dL_law_402 ?_
  refine j_iadd S dL_law_403 ?_
  refine j_sld S hX hbl hbA hS (a := (i + 3)) ⟨by omega, by omega, by omega⟩ dL_law_404 ?_
  refine j_cvi (As := [jI (sx xs (i + 1)), jI (sx xs (i + 2)), jI (sx xs (i + 3))]) (ci := 0) S (c_X0_hole l D x x0 x1 x2 x3 cA H T E F cc gc w d v hok (sx xs (i + 1)) (sx xs (i + 2)) (sx xs (i + 3)) sx_in sx_in sx_in) (cwV 3 S.2.2.2.2 gL_law_X0_hole rfl rfl rfl ⟨rfl, hdX0_hole⟩ ⟨Nat.le_of_ble_eq_true rfl, Nat.le_of_ble_eq_true rfl⟩) hK (hP.sub (ws' := (XW x x0 x1 x2 x3 cA H T E F cc gc w d v)) [0, 1, 2, 3, 4] rfl) rfl rfl rfl [] rfl rfl hl.1 (Nat.le_of_ble_eq_true rfl) ⟨Nat.le_of_ble_eq_true rfl, Nat.le_of_ble_eq_true rfl⟩ dL_law_405 (fun i1 q1 => ?_)
  refine lv_aload_n S.1 S.2.1 dL_law_408 rfl (lv_at hl 1 rfl) ?_
  refine lv_aload_n S.1 S.2.1 dL_law_409 rfl (lv_at hl 3 rfl) ?_
  refine j_iload_n S dL_law_410 rfl (lv_at hl 0 rfl) ?_
  refine j_iconst S dL_law_411 ?_
  refine j_iadd S dL_law_412 ?_
  refine j_sld S hX hbl hbA hS (a := (i + 1)) ⟨by omega, by omega, by omega⟩ dL_law_413 ?_
  refine lv_aload_n S.1 S.2.1 dL_law_414 rfl (lv_at hl 3 rfl) ?_
  refine j_iload_n S dL_law_415 rfl (lv_at hl 0 rfl) ?_
  refine j_iconst S dL_law_416 ?_
  refine j_iadd S dL_law_417 ?_
  refine j_sld S hX hbl hbA hS (a := (i + 2)) ⟨by omega, by omega, by omega⟩ dL_law_418 ?_
  refine lv_aload_n S.1 S.2.1 dL_law_419 rfl (lv_at hl 3 rfl) ?_
  refine j_iload_n S dL_law_420 rfl (lv_at hl 0 rfl) ?_
  refine j_iconst S dL_law_421 ?_
  refine j_iadd S dL_law_422 ?_
  refine j_sld S hX hbl hbA hS (a := (i + 3)) ⟨by omega, by omega, by omega⟩ dL_law_423 ?_
  refine j_cvi (As := [jI (sx xs (i + 1)), jI (sx xs (i + 2)), jI (sx xs (i + 3))]) (ci := 1) S (c_X1_hole l D y y0 y1 y2 y3 cA H T E G cc gc w d v hok (sx xs (i + 1)) (sx xs (i + 2)) (sx xs (i + 3)) sx_in sx_in sx_in) (cwV 3 S.2.2.2.2 gL_law_X1_hole rfl rfl rfl ⟨rfl, hdX1_hole⟩ ⟨Nat.le_of_ble_eq_true rfl, Nat.le_of_ble_eq_true rfl⟩) hK (hP.sub (ws' := (MW y y0 y1 y2 y3 cA H T E G cc gc w d v)) [5, 6, 7, 8, 9] rfl) rfl rfl rfl [jI i1] rfl rfl hl.1 (Nat.le_of_ble_eq_true rfl) ⟨Nat.le_of_ble_eq_true rfl, Nat.le_of_ble_eq_true rfl⟩ dL_law_424 (fun i2 q2 => ?_)
  have he : i1 = i2 := q1.trans q2.symm
  subst he
  refine lv_icmp_eq (tgt := 895) S.1 S.2.1 dL_law_427 (by decide) (fun _ => ?_) (fun z9 => absurd rfl z9)
  exact kk _ _ _ _ _ _ _ _ _ _ _ _ ⟨hok, hP, hD, hS⟩
set_option maxHeartbeats 4000000 in
set_option maxRecDepth 100000 in
theorem law_case_10 {p : Program} {l : Launch} {e : Env} {s : State} {m : MethodId} {below : List Frame} {meth : Method} {c : Code} {b L : Nat} {xs : Nat → Int32} {D : va_G} {x x0 x1 x2 x3 y y0 y1 y2 y3 : Nat} {cA : ClassId} {A : Nat → Prop} (S : CallFix p m c code 4 s #[.ref b] wsL_law RL) (hX : va_X b L xs s s.heap) (hbl : b < s.heap.size) (hbA : ¬ A b) (hA : ∀ q, s.heap.size ≤ q → A q) (hK : va_K D vwCl [(cA, .int)] s) {H T E F G : Int → Int} {cc gc w d v : Int} {Hp : Heap} {lc : List Loc} (hI : LInv s D A x x0 x1 x2 x3 y y0 y1 y2 y3 cA H T E F G cc gc w d v Hp lc) {i : Int} (hi : 0 ≤ i ∧ i ≤ 2560 ∧ i + 5 ≤ (L : Int)) {ls : Array Slot} (hl : lv_has ls 4 (LLs b x y i)) (kk : ∀ (H T E F G : Int → Int) (cc gc w d v : Int) (Hp : Heap) (lc : List Loc), LInv s D A x x0 x1 x2 x3 y y0 y1 y2 y3 cA H T E F G cc gc w d v Hp lc → W p l e room_1 s m #[Value.ref b] below meth c Hp lc 10 78 (lw_Z below #[Value.ref b] s) (F0 m 895 ls [])) : W p l e room_1 s m #[Value.ref b] below meth c Hp lc 10 78 (lw_Z below #[Value.ref b] s) (F0 m 432 ls []) := by
  obtain ⟨hok, hP, hD, hS⟩ := hI
  refine lv_aload_n S.1 S.2.1 dL_law_432 rfl (lv_at hl 2 rfl) ?_
  refine lv_aload_n S.1 S.2.1 dL_law_433 rfl (lv_at hl 3 rfl) ?_
  refine j_iload_n S dL_law_434 rfl (lv_at hl 0 rfl) ?_
  refine j_iconst S dL_law_435 ?_
  refine j_iadd S dL_law_436 ?_
  refine j_sld S hX hbl hbA hS (a := (i + 1)) ⟨by omega, by omega, by omega⟩ dL_law_437 ?_
  refine lv_aload_n S.1 S.2.1 dL_law_438 rfl (lv_at hl 3 rfl) ?_
  refine j_iload_n S dL_law_439 rfl (lv_at hl 0 rfl) ?_
  refine j_iconst S dL_law_440 ?_
  refine j_iadd S dL_law_441 ?_
  refine j_sld S hX hbl hbA hS (a := (i + 2)) ⟨by omega, by omega, by omega⟩ dL_law_442 ?_
  refine lv_aload_n S.1 S.2.1 dL_law_443 rfl (lv_at hl 3 rfl) ?_
  refine j_iload_n S dL_law_444 rfl (lv_at hl 0 rfl) ?_
  refine j_iconst S dL_law_445 ?_
  refine j_iadd S dL_law_446 ?_
  refine j_sld S hX hbl hbA hS (a := (i + 3)) ⟨by omega, by omega, by omega⟩ dL_law_447 ?_
  refine lv_aload_n S.1 S.2.1 dL_law_448 rfl (lv_at hl 3 rfl) ?_
  refine j_iload_n S dL_law_449 rfl (lv_at hl 0 rfl) ?_
  refine j_iconst S dL_law_450 ?_
  refine j_iadd S dL_law_451 ?_
  refine j_sld S hX hbl hbA hS (a := (i + 4)) ⟨by omega, by omega, by omega⟩ dL_law_452 ?_
  refine j_cvi (As := [jI (sx xs (i + 1)), jI (sx xs (i + 2)), jI (sx xs (i + 3)), jI (sx xs (i + 4))]) (ci := 0) S (c_X0_miss l D x x0 x1 x2 x3 cA H T E F cc gc w d v hok (sx xs (i + 1)) (sx xs (i + 2)) (sx xs (i + 3)) (sx xs (i + 4)) sx_in sx_in sx_in sx_in) (cwV 4 S.2.2.2.2 gL_law_X0_miss rfl rfl rfl ⟨rfl, hdX0_miss⟩ ⟨Nat.le_of_ble_eq_true rfl, Nat.le_of_ble_eq_true rfl⟩) hK (hP.sub (ws' := (XW x x0 x1 x2 x3 cA H T E F cc gc w d v)) [0, 1, 2, 3, 4] rfl) rfl rfl rfl [] rfl rfl hl.1 (Nat.le_of_ble_eq_true rfl) ⟨Nat.le_of_ble_eq_true rfl, Nat.le_of_ble_eq_true rfl⟩ dL_law_453 (fun i1 q1 => ?_)
  refine lv_aload_n S.1 S.2.1 dL_law_456 rfl (lv_at hl 1 rfl) ?_
  refine lv_aload_n S.1 S.2.1 dL_law_457 rfl (lv_at hl 3 rfl) ?_
  refine j_iload_n S dL_law_458 rfl (lv_at hl 0 rfl) ?_
  refine j_iconst S dL_law_459 ?_
  refine j_iadd S dL_law_460 ?_
  refine j_sld S hX hbl hbA hS (a := (i + 1)) ⟨by omega, by omega, by omega⟩ dL_law_461 ?_
  refine lv_aload_n S.1 S.2.1 dL_law_462 rfl (lv_at hl 3 rfl) ?_
  refine j_iload_n S dL_law_463 rfl (lv_at hl 0 rfl) ?_
  refine j_iconst S dL_law_464 ?_
  refine j_iadd S dL_law_465 ?_
  refine j_sld S hX hbl hbA hS (a := (i + 2)) ⟨by omega, by omega, by omega⟩ dL_law_466 ?_
  refine lv_aload_n S.1 S.2.1 dL_law_467 rfl (lv_at hl 3 rfl) ?_
  refine j_iload_n S dL_law_468 rfl (lv_at hl 0 rfl) ?_
  refine j_iconst S dL_law_469 ?_
  refine j_iadd S dL_law_470 ?_
  refine j_sld S hX hbl hbA hS (a := (i + 3)) ⟨by omega, by omega, by omega⟩ dL_law_471 ?_
  refine lv_aload_n S.1 S.2.1 dL_law_472 rfl (lv_at hl 3 rfl) ?_
  refine j_iload_n S dL_law_473 rfl (lv_at hl 0 rfl) ?_
  refine j_iconst S dL_law_474 ?_
  refine j_iadd S dL_law_475 ?_
  refine j_sld S hX hbl hbA hS (a := (i + 4)) ⟨by omega, by omega, by omega⟩ dL_law_476 ?_
  refine j_cvi (As := [jI (sx xs (i + 1)), jI (sx xs (i + 2)), jI (sx xs (i + 3)), jI (sx xs (i + 4))]) (ci := 1) S (c_X1_miss l D y y0 y1 y2 y3 cA H T E G cc gc w d v hok (sx xs (i + 1)) (sx xs (i + 2)) (sx xs (i + 3)) (sx xs (i + 4)) sx_in sx_in sx_in sx_in) (cwV 4 S.2.2.2.2 gL_law_X1_miss rfl rfl rfl ⟨rfl, hdX1_miss⟩ ⟨Nat.le_of_ble_eq_true rfl, Nat.le_of_ble_eq_true rfl⟩) hK (hP.sub (ws' := (MW y y0 y1 y2 y3 cA H T E G cc gc w d v)) [5, 6, 7, 8, 9] rfl) rfl rfl rfl [jI i1] rfl rfl hl.1 (Nat.le_of_ble_eq_true rfl) ⟨Nat.le_of_ble_eq_true rfl, Nat.le_of_ble_eq_true rfl⟩ dL_law_477 (fun i2 q2 => ?_)
  have he : i1 = i2 := q1.trans q2.symm
  subst he
  refine lv_icmp_eq (tgt := 895) S.1 S.2.1 dL_law_480 (by decide) (fun _ => ?_) (fun z9 => absurd rfl z9)
  exact kk _ _ _ _ _ _ _ _ _ _ _ _ ⟨hok, hP, hD, hS⟩
set_option maxHeartbeats 4000000 in
set_option maxRecDepth 100000 in
theorem law_case_11 {p : Program} {l : Launch} {e : Env} {s : State} {m : MethodId} {below : List Frame} {meth : Method} {c : Code} {b L : Nat} {xs : Nat → Int32} {D : va_G} {x x0 x1 x2 x3 y y0 y1 y2 y3 : Nat} {cA : ClassId} {A : Nat → Prop} (S : CallFix p m c code 4 s #[.ref b] wsL_law RL) (hX : va_X b L xs s s.heap) (hbl : b < s.heap.size) (hbA : ¬ A b) (hA : ∀ q, s.heap.size ≤ q → A q) (hK : va_K D vwCl [(cA, .int)] s) {H T E F G : Int → Int} {cc gc w d v : Int} {Hp : Heap} {lc : List Loc} (hI : LInv s D A x x0 x1 x2 x3 y y0 y1 y2 y3 cA H T E F G cc gc w d v Hp lc) {i : Int} (hi : 0 ≤ i ∧ i ≤ 2560 ∧ i + 5 ≤ (L : Int)) {ls : Array Slot} (hl : lv_has ls 4 (LLs b x y i)) (kk : ∀ (H T E F G : Int → Int) (cc gc w d v : Int) (Hp : Heap) (lc : List Loc), LInv s D A x x0 x1 x2 x3 y y0 y1 y2 y3 cA H T E F G cc gc w d v Hp lc → W p l e room_1 s m #[Value.ref b] below meth c Hp lc 10 78 (lw_Z below #[Value.ref b] s) (F0 m 895 ls [])) : W p l e room_1 s m #[Value.ref b] below meth c Hp lc 10 78 (lw_Z below #[Value.ref b] s) (F0 m 485 ls []) := by
  obtain ⟨hok, hP, hD, hS⟩ := hI
  refine lv_aload_n S.1 S.2.1 dL_law_485 rfl (lv_at hl 2 rfl) ?_
  refine lv_aload_n S.1 S.2.1 dL_law_486 rfl (lv_at hl 3 rfl) ?_
  refine j_iload_n S dL_law_487 rfl (lv_at hl 0 rfl) ?_
  refine j_iconst S dL_law_488 ?_
  refine j_iadd S dL_law_489 ?_
  refine j_sld S hX hbl hbA hS (a := (i + 1)) ⟨by omega, by omega, by omega⟩ dL_law_490 ?_
  refine lv_aload_n S.1 S.2.1 dL_law_491 rfl (lv_at hl 3 rfl) ?_
  refine j_iload_n S dL_law_492 rfl (lv_at hl 0 rfl) ?_
  refine j_iconst S dL_law_493 ?_
  refine j_iadd S dL_law_494 ?_
  refine j_sld S hX hbl hbA hS (a := (i + 2)) ⟨by omega, by omega, by omega⟩ dL_law_495 ?_
  refine lv_aload_n S.1 S.2.1 dL_law_496 rfl (lv_at hl 3 rfl) ?_
  refine j_iload_n S dL_law_497 rfl (lv_at hl 0 rfl) ?_
  refine j_iconst S dL_law_498 ?_
  refine j_iadd S dL_law_499 ?_
  refine j_sld S hX hbl hbA hS (a := (i + 3)) ⟨by omega, by omega, by omega⟩ dL_law_500 ?_
  refine j_cvi (As := [jI (sx xs (i + 1)), jI (sx xs (i + 2)), jI (sx xs (i + 3))]) (ci := 0) S (c_X0_worst l D x x0 x1 x2 x3 cA H T E F cc gc w d v hok (sx xs (i + 1)) (sx xs (i + 2)) (sx xs (i + 3)) sx_in sx_in sx_in) (cwV 3 S.2.2.2.2 gL_law_X0_worst rfl rfl rfl ⟨rfl, hdX0_worst⟩ ⟨Nat.le_of_ble_eq_true rfl, Nat.le_of_ble_eq_true rfl⟩) hK (hP.sub (ws' := (XW x x0 x1 x2 x3 cA H T E F cc gc w d v)) [0, 1, 2, 3, 4] rfl) rfl rfl rfl [] rfl rfl hl.1 (Nat.le_of_ble_eq_true rfl) ⟨Nat.le_of_ble_eq_true rfl, Nat.le_of_ble_eq_true rfl⟩ dL_law_501 (fun i1 q1 => ?_)
  refine lv_aload_n S.1 S.2.1 dL_law_504 rfl (lv_at hl 1 rfl) ?_
  refine lv_aload_n S.1 S.2.1 dL_law_505 rfl (lv_at hl 3 rfl) ?_
  refine j_iload_n S dL_law_506 rfl (lv_at hl 0 rfl) ?_
  refine j_iconst S dL_law_507 ?_
  refine j_iadd S dL_law_508 ?_
  refine j_sld S hX hbl hbA hS (a := (i + 1)) ⟨by omega, by omega, by omega⟩ dL_law_509 ?_
  refine lv_aload_n S.1 S.2.1 dL_law_510 rfl (lv_at hl 3 rfl) ?_
  refine j_iload_n S dL_law_511 rfl (lv_at hl 0 rfl) ?_
  refine j_iconst S dL_law_512 ?_
  refine j_iadd S dL_law_513 ?_
  refine j_sld S hX hbl hbA hS (a := (i + 2)) ⟨by omega, by omega, by omega⟩ dL_law_514 ?_
  refine lv_aload_n S.1 S.2.1 dL_law_515 rfl (lv_at hl 3 rfl) ?_
  refine j_iload_n S dL_law_516 rfl (lv_at hl 0 rfl) ?_
  refine j_iconst S dL_law_517 ?_
  refine j_iadd S dL_law_518 ?_
  refine j_sld S hX hbl hbA hS (a := (i + 3)) ⟨by omega, by omega, by omega⟩ dL_law_519 ?_
  refine j_cvi (As := [jI (sx xs (i + 1)), jI (sx xs (i + 2)), jI (sx xs (i + 3))]) (ci := 1) S (c_X1_worst l D y y0 y1 y2 y3 cA H T E G cc gc w d v hok (sx xs (i + 1)) (sx xs (i + 2)) (sx xs (i + 3)) sx_in sx_in sx_in) (cwV 3 S.2.2.2.2 gL_law_X1_worst rfl rfl rfl ⟨rfl, hdX1_worst⟩ ⟨Nat.le_of_ble_eq_true rfl, Nat.le_of_ble_eq_true rfl⟩) hK (hP.sub (ws' := (MW y y0 y1 y2 y3 cA H T E G cc gc w d v)) [5, 6, 7, 8, 9] rfl) rfl rfl rfl [jI i1] rfl rfl hl.1 (Nat.le_of_ble_eq_true rfl) ⟨Nat.le_of_ble_eq_true rfl, Nat.le_of_ble_eq_true rfl⟩ dL_law_520 (fun i2 q2 => ?_)
  have he : i1 = i2 := q1.trans q2.symm
  subst he
  refine lv_icmp_eq (tgt := 895) S.1 S.2.1 dL_law_523 (by decide) (fun _ => ?_) (fun z9 => absurd rfl z9)
  exact kk _ _ _ _ _ _ _ _ _ _ _ _ ⟨hok, hP, hD, hS⟩
set_option maxHeartbeats 4000000 in
set_option maxRecDepth 100000 in
theorem law_case_12 {p : Program} {l : Launch} {e : Env} {s : State} {m : MethodId} {below : List Frame} {meth : Method} {c : Code} {b L : Nat} {xs : Nat → Int32} {D : va_G} {x x0 x1 x2 x3 y y0 y1 y2 y3 : Nat} {cA : ClassId} {A : Nat → Prop} (S : CallFix p m c code 4 s #[.ref b] wsL_law RL) (hX : va_X b L xs s s.heap) (hbl : b < s.heap.size) (hbA : ¬ A b) (hA : ∀ q, s.heap.size ≤ q → A q) (hK : va_K D vwCl [(cA, .int)] s) {H T E F G : Int → Int} {cc gc w d v : Int} {Hp : Heap} {lc : List Loc} (hI : LInv s D A x x0 x1 x2 x3 y y0 y1 y2 y3 cA H T E F G cc gc w d v Hp lc) {i : Int} (hi : 0 ≤ i ∧ i ≤ 2560 ∧ i + 5 ≤ (L : Int)) {ls : Array Slot} (hl : lv_has ls 4 (LLs b x y i)) (kk : ∀ (H T E F G : Int → Int) (cc gc w d v : Int) (Hp : Heap) (lc : List Loc), LInv s D A x x0 x1 x2 x3 y y0 y1 y2 y3 cA H T E F G cc gc w d v Hp lc → W p l e room_1 s m #[Value.ref b] below meth c Hp lc 10 78 (lw_Z below #[Value.ref b] s) (F0 m 895 ls [])) : W p l e room_1 s m #[Value.ref b] below meth c Hp lc 10 78 (lw_Z below #[Value.ref b] s) (F0 m 528 ls []) := by
  obtain ⟨hok, hP, hD, hS⟩ := hI
  refine lv_aload_n S.1 S.2.1 dL_law_528 rfl (lv_at hl 2 rfl) ?_
  refine lv_aload_n S.1 S.2.1 dL_law_529 rfl (lv_at hl 3 rfl) ?_
  refine j_iload_n S dL_law_530 rfl (lv_at hl 0 rfl) ?_
  refine j_iconst S dL_law_531 ?_
  refine j_iadd S dL_law_532 ?_
  refine j_sld S hX hbl hbA hS (a := (i + 1)) ⟨by omega, by omega, by omega⟩ dL_law_533 ?_
  refine j_cvi (As := [jI (sx xs (i + 1))]) (ci := 0) S (c_X0_best l D x x0 x1 x2 x3 cA H T E F cc gc w d v hok (sx xs (i + 1)) sx_in) (cwV 1 S.2.2.2.2 gL_law_X0_best rfl rfl rfl ⟨rfl, hdX0_best⟩ ⟨Nat.le_of_ble_eq_true rfl, Nat.le_of_ble_eq_true rfl⟩) hK (hP.sub (ws' := (XW x x0 x1 x2 x3 cA H T E F cc gc w d v)) [0, 1, 2, 3, 4] rfl) rfl rfl rfl [] rfl rfl hl.1 (Nat.le_of_ble_eq_true rfl) ⟨Nat.le_of_ble_eq_true rfl, Nat.le_of_ble_eq_true rfl⟩ dL_law_534 (fun i1 q1 => ?_)
  refine lv_aload_n S.1 S.2.1 dL_law_537 rfl (lv_at hl 1 rfl) ?_
  refine lv_aload_n S.1 S.2.1 dL_law_538 rfl (lv_at hl 3 rfl) ?_
  refine j_iload_n S dL_law_539 rfl (lv_at hl 0 rfl) ?_
  refine j_iconst S dL_law_540 ?_
  refine j_iadd S dL_law_541 ?_
  refine j_sld S hX hbl hbA hS (a := (i + 1)) ⟨by omega, by omega, by omega⟩ dL_law_542 ?_
  refine j_cvi (As := [jI (sx xs (i + 1))]) (ci := 1) S (c_X1_best l D y y0 y1 y2 y3 cA H T E G cc gc w d v hok (sx xs (i + 1)) sx_in) (cwV 1 S.2.2.2.2 gL_law_X1_best rfl rfl rfl ⟨rfl, hdX1_best⟩ ⟨Nat.le_of_ble_eq_true rfl, Nat.le_of_ble_eq_true rfl⟩) hK (hP.sub (ws' := (MW y y0 y1 y2 y3 cA H T E G cc gc w d v)) [5, 6, 7, 8, 9] rfl) rfl rfl rfl [jI i1] rfl rfl hl.1 (Nat.le_of_ble_eq_true rfl) ⟨Nat.le_of_ble_eq_true rfl, Nat.le_of_ble_eq_true rfl⟩ dL_law_543 (fun i2 q2 => ?_)
  have he : i1 = i2 := q1.trans q2.symm
  subst he
  refine lv_icmp_eq (tgt := 895) S.1 S.2.1 dL_law_546 (by decide) (fun _ => ?_) (fun z9 => absurd rfl z9)
  exact kk _ _ _ _ _ _ _ _ _ _ _ _ ⟨hok, hP, hD, hS⟩
set_option maxHeartbeats 4000000 in
set_option maxRecDepth 100000 in
theorem law_case_13 {p : Program} {l : Launch} {e : Env} {s : State} {m : MethodId} {below : List Frame} {meth : Method} {c : Code} {b L : Nat} {xs : Nat → Int32} {D : va_G} {x x0 x1 x2 x3 y y0 y1 y2 y3 : Nat} {cA : ClassId} {A : Nat → Prop} (S : CallFix p m c code 4 s #[.ref b] wsL_law RL) (hX : va_X b L xs s s.heap) (hbl : b < s.heap.size) (hbA : ¬ A b) (hA : ∀ q, s.heap.size ≤ q → A q) (hK : va_K D vwCl [(cA, .int)] s) {H T E F G : Int → Int} {cc gc w d v : Int} {Hp : Heap} {lc : List Loc} (hI : LInv s D A x x0 x1 x2 x3 y y0 y1 y2 y3 cA H T E F G cc gc w d v Hp lc) {i : Int} (hi : 0 ≤ i ∧ i ≤ 2560 ∧ i + 5 ≤ (L : Int)) {ls : Array Slot} (hl : lv_has ls 4 (LLs b x y i)) (kk : ∀ (H T E F G : Int → Int) (cc gc w d v : Int) (Hp : Heap) (lc : List Loc), LInv s D A x x0 x1 x2 x3 y y0 y1 y2 y3 cA H T E F G cc gc w d v Hp lc → W p l e room_1 s m #[Value.ref b] below meth c Hp lc 10 78 (lw_Z below #[Value.ref b] s) (F0 m 895 ls [])) : W p l e room_1 s m #[Value.ref b] below meth c Hp lc 10 78 (lw_Z below #[Value.ref b] s) (F0 m 551 ls []) := by
  obtain ⟨hok, hP, hD, hS⟩ := hI
  refine lv_aload_n S.1 S.2.1 dL_law_551 rfl (lv_at hl 2 rfl) ?_
  refine lv_aload_n S.1 S.2.1 dL_law_552 rfl (lv_at hl 3 rfl) ?_
  refine j_iload_n S dL_law_553 rfl (lv_at hl 0 rfl) ?_
  refine j_iconst S dL_law_554 ?_
  refine j_iadd S dL_law_555 ?_
  refine j_sld S hX hbl hbA hS (a := (i + 1)) ⟨by omega, by omega, by omega⟩ dL_law_556 ?_
  refine lv_aload_n S.1 S.2.1 dL_law_557 rfl (lv_at hl 3 rfl) ?_
  refine j_iload_n S dL_law_558 rfl (lv_at hl 0 rfl) ?_
  refine j_iconst S dL_law_559 ?_
  refine j_iadd S dL_law_560 ?_
  refine j_sld S hX hbl hbA hS (a := (i + 2)) ⟨by omega, by omega, by omega⟩ dL_law_561 ?_
  refine j_cvm [0, 1, 2, 3, 4] [5, 6, 7, 8, 9] (wr := (MW y y0 y1 y2 y3 cA H T E G cc gc w d v)) (As := [jI (sx xs (i + 1)), jI (sx xs (i + 2))]) (ci := 0) S (c_X0_error l D x x0 x1 x2 x3 cA H T E F cc gc w d v _ hok (sx xs (i + 1)) (sx xs (i + 2)) sx_in sx_in) (cwV 2 S.2.2.2.2 gL_law_X0_error rfl rfl rfl ⟨rfl, hdX0_error⟩ ⟨Nat.le_of_ble_eq_true rfl, Nat.le_of_ble_eq_true rfl⟩) hK hP hD hS hA rfl rfl (by decide) (by decide) (by decide) rfl rfl rfl [] rfl rfl hl.1 (Nat.le_of_ble_eq_true rfl) ⟨Nat.le_of_ble_eq_true rfl, Nat.le_of_ble_eq_true rfl⟩ dL_law_562 (fun i1 u1 Hp lc q1 hP hD hS => ?_)
  have hP : va_P D vwCl ((MW y y0 y1 y2 y3 cA H T E G cc gc w d v) ++ (XW x x0 x1 x2 x3 cA H T u1 F cc gc w d v)) Hp := hP
  have hD : va_D A ((MW y y0 y1 y2 y3 cA H T E G cc gc w d v) ++ (XW x x0 x1 x2 x3 cA H T u1 F cc gc w d v)) := hD
  refine lv_aload_n S.1 S.2.1 dL_law_565 rfl (lv_at hl 1 rfl) ?_
  refine lv_aload_n S.1 S.2.1 dL_law_566 rfl (lv_at hl 3 rfl) ?_
  refine j_iload_n S dL_law_567 rfl (lv_at hl 0 rfl) ?_
  refine j_iconst S dL_law_568 ?_
  refine j_iadd S dL_law_569 ?_
  refine j_sld S hX hbl hbA hS (a := (i + 1)) ⟨by omega, by omega, by omega⟩ dL_law_570 ?_
  refine lv_aload_n S.1 S.2.1 dL_law_571 rfl (lv_at hl 3 rfl) ?_
  refine j_iload_n S dL_law_572 rfl (lv_at hl 0 rfl) ?_
  refine j_iconst S dL_law_573 ?_
  refine j_iadd S dL_law_574 ?_
  refine j_sld S hX hbl hbA hS (a := (i + 2)) ⟨by omega, by omega, by omega⟩ dL_law_575 ?_
  refine j_cvm [0, 1, 2, 3, 4] [5, 6, 7, 8, 9] (wr := (XW x x0 x1 x2 x3 cA H T u1 F cc gc w d v)) (As := [jI (sx xs (i + 1)), jI (sx xs (i + 2))]) (ci := 1) S (c_X1_error l D y y0 y1 y2 y3 cA H T E G cc gc w d v _ hok (sx xs (i + 1)) (sx xs (i + 2)) sx_in sx_in) (cwV 2 S.2.2.2.2 gL_law_X1_error rfl rfl rfl ⟨rfl, hdX1_error⟩ ⟨Nat.le_of_ble_eq_true rfl, Nat.le_of_ble_eq_true rfl⟩) hK hP hD hS hA rfl rfl (by decide) (by decide) (by decide) rfl rfl rfl [jI i1] rfl rfl hl.1 (Nat.le_of_ble_eq_true rfl) ⟨Nat.le_of_ble_eq_true rfl, Nat.le_of_ble_eq_true rfl⟩ dL_law_576 (fun i2 u2 Hp lc q2 hP hD hS => ?_)
  have hP : va_P D vwCl ((XW x x0 x1 x2 x3 cA H T u1 F cc gc w d v) ++ (MW y y0 y1 y2 y3 cA H T u2 G cc gc w d v)) Hp := hP
  have hD : va_D A ((XW x x0 x1 x2 x3 cA H T u1 F cc gc w d v) ++ (MW y y0 y1 y2 y3 cA H T u2 G cc gc w d v)) := hD
  have hdet := R_error_det q1 q2
  have he : i1 = i2 := hdet.1
  subst he
  refine lv_icmp_eq (tgt := 895) S.1 S.2.1 dL_law_579 (by decide) (fun _ => ?_) (fun z9 => absurd rfl z9)
  have hu : u1 = u2 := hdet.2
  subst hu
  exact kk H T u1 F G cc gc w d v _ _ ⟨ok_error hok q1, hP, hD, hS⟩
set_option maxHeartbeats 4000000 in
set_option maxRecDepth 100000 in
theorem law_case_14 {p : Program} {l : Launch} {e : Env} {s : State} {m : MethodId} {below : List Frame} {meth : Method} {c : Code} {b L : Nat} {xs : Nat → Int32} {D : va_G} {x x0 x1 x2 x3 y y0 y1 y2 y3 : Nat} {cA : ClassId} {A : Nat → Prop} (S : CallFix p m c code 4 s #[.ref b] wsL_law RL) (hX : va_X b L xs s s.heap) (hbl : b < s.heap.size) (hbA : ¬ A b) (hA : ∀ q, s.heap.size ≤ q → A q) (hK : va_K D vwCl [(cA, .int)] s) {H T E F G : Int → Int} {cc gc w d v : Int} {Hp : Heap} {lc : List Loc} (hI : LInv s D A x x0 x1 x2 x3 y y0 y1 y2 y3 cA H T E F G cc gc w d v Hp lc) {i : Int} (hi : 0 ≤ i ∧ i ≤ 2560 ∧ i + 5 ≤ (L : Int)) {ls : Array Slot} (hl : lv_has ls 4 (LLs b x y i)) (kk : ∀ (H T E F G : Int → Int) (cc gc w d v : Int) (Hp : Heap) (lc : List Loc), LInv s D A x x0 x1 x2 x3 y y0 y1 y2 y3 cA H T E F G cc gc w d v Hp lc → W p l e room_1 s m #[Value.ref b] below meth c Hp lc 10 78 (lw_Z below #[Value.ref b] s) (F0 m 895 ls [])) : W p l e room_1 s m #[Value.ref b] below meth c Hp lc 10 78 (lw_Z below #[Value.ref b] s) (F0 m 584 ls []) := by
  obtain ⟨hok, hP, hD, hS⟩ := hI
  refine lv_aload_n S.1 S.2.1 dL_law_584 rfl (lv_at hl 2 rfl) ?_
  refine lv_aload_n S.1 S.2.1 dL_law_585 rfl (lv_at hl 3 rfl) ?_
  refine j_iload_n S dL_law_586 rfl (lv_at hl 0 rfl) ?_
  refine j_iconst S dL_law_587 ?_
  refine j_iadd S dL_law_588 ?_
  refine j_sld S hX hbl hbA hS (a := (i + 1)) ⟨by omega, by omega, by omega⟩ dL_law_589 ?_
  refine lv_aload_n S.1 S.2.1 dL_law_590 rfl (lv_at hl 3 rfl) ?_
  refine j_iload_n S dL_law_591 rfl (lv_at hl 0 rfl) ?_
  refine j_iconst S dL_law_592 ?_
  refine j_iadd S dL_law_593 ?_
  refine j_sld S hX hbl hbA hS (a := (i + 2)) ⟨by omega, by omega, by omega⟩ dL_law_594 ?_
  refine lv_aload_n S.1 S.2.1 dL_law_595 rfl (lv_at hl 3 rfl) ?_
  refine j_iload_n S dL_law_596 rfl (lv_at hl 0 rfl) ?_
  refine j_iconst S dL_law_597 ?_
  refine j_iadd S dL_law_598 ?_
  refine j_sld S hX hbl hbA hS (a := (i + 3)) ⟨by omega, by omega, by omega⟩ dL_law_599 ?_
  refine lv_aload_n S.1 S.2.1 dL_law_600 rfl (lv_at hl 3 rfl) ?_
  refine j_iload_n S dL_law_601 rfl (lv_at hl 0 rfl) ?_
  refine j_iconst S dL_law_602 ?_
  refine j_iadd S dL_law_603 ?_
  refine j_sld S hX hbl hbA hS (a := (i + 4)) ⟨by omega, by omega, by omega⟩ dL_law_604 ?_
  refine j_cvi (As := [jI (sx xs (i + 1)), jI (sx xs (i + 2)), jI (sx xs (i + 3)), jI (sx xs (i + 4))]) (ci := 0) S (c_X0_spoilt l D x x0 x1 x2 x3 cA H T E F cc gc w d v hok (sx xs (i + 1)) (sx xs (i + 2)) (sx xs (i + 3)) (sx xs (i + 4)) sx_in sx_in sx_in sx_in) (cwV 4 S.2.2.2.2 gL_law_X0_spoilt rfl rfl rfl ⟨rfl, hdX0_spoilt⟩ ⟨Nat.le_of_ble_eq_true rfl, Nat.le_of_ble_eq_true rfl⟩) hK (hP.sub (ws' := (XW x x0 x1 x2 x3 cA H T E F cc gc w d v)) [0, 1, 2, 3, 4] rfl) rfl rfl rfl [] rfl rfl hl.1 (Nat.le_of_ble_eq_true rfl) ⟨Nat.le_of_ble_eq_true rfl, Nat.le_of_ble_eq_true rfl⟩ dL_law_605 (fun i1 q1 => ?_)
  refine lv_aload_n S.1 S.2.1 dL_law_608 rfl (lv_at hl 1 rfl) ?_
  refine lv_aload_n S.1 S.2.1 dL_law_609 rfl (lv_at hl 3 rfl) ?_
  refine j_iload_n S dL_law_610 rfl (lv_at hl 0 rfl) ?_
  refine j_iconst S dL_law_611 ?_
  refine j_iadd S dL_law_612 ?_
  refine j_sld S hX hbl hbA hS (a := (i + 1)) ⟨by omega, by omega, by omega⟩ dL_law_613 ?_
  refine lv_aload_n S.1 S.2.1 dL_law_614 rfl (lv_at hl 3 rfl) ?_
  refine j_iload_n S dL_law_615 rfl (lv_at hl 0 rfl) ?_
  refine j_iconst S dL_law_616 ?_
  refine j_iadd S dL_law_617 ?_
  refine j_sld S hX hbl hbA hS (a := (i + 2)) ⟨by omega, by omega, by omega⟩ dL_law_618 ?_
  refine lv_aload_n S.1 S.2.1 dL_law_619 rfl (lv_at hl 3 rfl) ?_
  refine j_iload_n S dL_law_620 rfl (lv_at hl 0 rfl) ?_
  refine j_iconst S dL_law_621 ?_
  refine j_iadd S dL_law_622 ?_
  refine j_sld S hX hbl hbA hS (a := (i + 3)) ⟨by omega, by omega, by omega⟩ dL_law_623 ?_
  refine lv_aload_n S.1 S.2.1 dL_law_624 rfl (lv_at hl 3 rfl) ?_
  refine j_iload_n S dL_law_625 rfl (lv_at hl 0 rfl) ?_
  refine j_iconst S dL_law_626 ?_
  refine j_iadd S dL_law_627 ?_
  refine j_sld S hX hbl hbA hS (a := (i + 4)) ⟨by omega, by omega, by omega⟩ dL_law_628 ?_
  refine j_cvi (As := [jI (sx xs (i + 1)), jI (sx xs (i + 2)), jI (sx xs (i + 3)), jI (sx xs (i + 4))]) (ci := 1) S (c_X1_spoilt l D y y0 y1 y2 y3 cA H T E G cc gc w d v hok (sx xs (i + 1)) (sx xs (i + 2)) (sx xs (i + 3)) (sx xs (i + 4)) sx_in sx_in sx_in sx_in) (cwV 4 S.2.2.2.2 gL_law_X1_spoilt rfl rfl rfl ⟨rfl, hdX1_spoilt⟩ ⟨Nat.le_of_ble_eq_true rfl, Nat.le_of_ble_eq_true rfl⟩) hK (hP.sub (ws' := (MW y y0 y1 y2 y3 cA H T E G cc gc w d v)) [5, 6, 7, 8, 9] rfl) rfl rfl rfl [jI i1] rfl rfl hl.1 (Nat.le_of_ble_eq_true rfl) ⟨Nat.le_of_ble_eq_true rfl, Nat.le_of_ble_eq_true rfl⟩ dL_law_629 (fun i2 q2 => ?_)
  have he : i1 = i2 := q1.trans q2.symm
  subst he
  refine lv_icmp_eq (tgt := 895) S.1 S.2.1 dL_law_632 (by decide) (fun _ => ?_) (fun z9 => absurd rfl z9)
  exact kk _ _ _ _ _ _ _ _ _ _ _ _ ⟨hok, hP, hD, hS⟩
