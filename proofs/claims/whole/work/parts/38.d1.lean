set_option maxHeartbeats 4000000 in
set_option maxRecDepth 100000 in
theorem lc_7 {x : zFx} (C : zC x code RL 4 room_1) {b L : Nat} {xs : Nat → Int32} (X : lwX x b L xs) {a a' : Nat → Nat} {v : tAL} {m : tMo} {n : Nat} {i : Int32} (hi : i.toInt = ((5 * n : Nat) : Int)) (hL : 5 * n + 5 ≤ L) (h : Rel n v m) (go : ∀ v' m', Rel (n + 1) v' m' → vV x 4 93 1926 (wA (z_g x) a v' ++ wM (z_g x) a' m') 1098 [(3, .int i), (2, .ref (a' 0)), (1, .ref (a 0)), (0, .ref b)] []) : vV x 4 93 1926 (wA (z_g x) a v ++ wM (z_g x) a' m) 355 [(3, .int i), (2, .ref (a' 0)), (1, .ref (a 0)), (0, .ref b)] [] := by
  have hb := X.2.2.2
  have h512 : n ≤ 512 := by omega
  obtain ⟨r, r', e1, e2, e3, e4⟩ := p_put h (xs (5 * n + 1)) (xs (5 * n + 2))
  refine r_aload_n C eL_355 2 rfl rfl ?_
  refine r_aload_n C eL_356 3 rfl rfl ?_
  refine r_iload_n C eL_357 0 rfl rfl ?_
  refine r_iconst C (v := 1) eL_358 (by decide) ?_
  refine r_iadd C eL_359 ?_
  refine lw_sld C X (k := 5 * n + 1) eL_360 (ia_1 hi (by omega)) (by omega) ?_
  refine r_aload_n C eL_361 3 rfl rfl ?_
  refine r_iload_n C eL_362 0 rfl rfl ?_
  refine r_iconst C (v := 2) eL_363 (by decide) ?_
  refine r_iadd C eL_364 ?_
  refine lw_sld C X (k := 5 * n + 2) eL_365 (ia_2 hi (by omega)) (by omega) ?_
  refine lw_Ai C (c_AL_put (z_l x) (z_g x) a 0 v (xs (5 * n + 1)) (xs (5 * n + 2)) r e1) eL_366 KL_AL_put ⟨0, 10, _, (RX10, TX10, 15), rfl, rfl, rfl⟩ rfl rfl rfl rfl rfl rfl rfl rfl rfl ?_
  refine r_aload_n C eL_369 1 rfl rfl ?_
  refine r_aload_n C eL_370 3 rfl rfl ?_
  refine r_iload_n C eL_371 0 rfl rfl ?_
  refine r_iconst C (v := 1) eL_372 (by decide) ?_
  refine r_iadd C eL_373 ?_
  refine lw_sld C X (k := 5 * n + 1) eL_374 (ia_1 hi (by omega)) (by omega) ?_
  refine r_aload_n C eL_375 3 rfl rfl ?_
  refine r_iload_n C eL_376 0 rfl rfl ?_
  refine r_iconst C (v := 2) eL_377 (by decide) ?_
  refine r_iadd C eL_378 ?_
  refine lw_sld C X (k := 5 * n + 2) eL_379 (ia_2 hi (by omega)) (by omega) ?_
  refine lw_Mi C (c_Mo_put (z_l x) (z_g x) a' 0 m (xs (5 * n + 1)) (xs (5 * n + 2)) r' e2) eL_380 KL_Mo_put ⟨0, 11, _, (RX11, TX11, 34), rfl, rfl, rfl⟩ rfl rfl rfl rfl rfl rfl rfl rfl rfl ?_
  exact r_icmp_eq C eL_383 (fun _ => go _ _ e4) (fun z => absurd e3 z)
set_option maxHeartbeats 4000000 in
set_option maxRecDepth 100000 in
theorem lc_8 {x : zFx} (C : zC x code RL 4 room_1) {b L : Nat} {xs : Nat → Int32} (X : lwX x b L xs) {a a' : Nat → Nat} {v : tAL} {m : tMo} {n : Nat} {i : Int32} (hi : i.toInt = ((5 * n : Nat) : Int)) (hL : 5 * n + 5 ≤ L) (h : Rel n v m) (go : ∀ v' m', Rel (n + 1) v' m' → vV x 4 93 1926 (wA (z_g x) a v' ++ wM (z_g x) a' m') 1098 [(3, .int i), (2, .ref (a' 0)), (1, .ref (a 0)), (0, .ref b)] []) : vV x 4 93 1926 (wA (z_g x) a v ++ wM (z_g x) a' m) 388 [(3, .int i), (2, .ref (a' 0)), (1, .ref (a 0)), (0, .ref b)] [] := by
  have hb := X.2.2.2
  have h512 : n ≤ 512 := by omega
  obtain ⟨r, r', e1, e2, e3, e4⟩ := p_now h (xs (5 * n + 1))
  refine r_aload_n C eL_388 2 rfl rfl ?_
  refine r_aload_n C eL_389 3 rfl rfl ?_
  refine r_iload_n C eL_390 0 rfl rfl ?_
  refine r_iconst C (v := 1) eL_391 (by decide) ?_
  refine r_iadd C eL_392 ?_
  refine lw_sld C X (k := 5 * n + 1) eL_393 (ia_1 hi (by omega)) (by omega) ?_
  refine lw_Al C (c_AL_now (z_l x) (z_g x) a 0 v (xs (5 * n + 1)) r e1) eL_394 KL_AL_now ⟨0, 10, _, (RX10, TX10, 15), rfl, rfl, rfl⟩ rfl rfl rfl rfl rfl rfl rfl rfl rfl ?_
  refine r_aload_n C eL_397 1 rfl rfl ?_
  refine r_aload_n C eL_398 3 rfl rfl ?_
  refine r_iload_n C eL_399 0 rfl rfl ?_
  refine r_iconst C (v := 1) eL_400 (by decide) ?_
  refine r_iadd C eL_401 ?_
  refine lw_sld C X (k := 5 * n + 1) eL_402 (ia_1 hi (by omega)) (by omega) ?_
  refine lw_Ml C (c_Mo_now (z_l x) (z_g x) a' 0 m (xs (5 * n + 1)) r' e2) eL_403 KL_Mo_now ⟨0, 11, _, (RX11, TX11, 34), rfl, rfl, rfl⟩ rfl rfl rfl rfl rfl rfl rfl rfl rfl ?_
  exact r_lcmp_eq C eL_406 eL_407 (fun _ => go _ _ e4) (fun z => absurd e3 z)
set_option maxHeartbeats 4000000 in
set_option maxRecDepth 100000 in
theorem lc_9 {x : zFx} (C : zC x code RL 4 room_1) {b L : Nat} {xs : Nat → Int32} (X : lwX x b L xs) {a a' : Nat → Nat} {v : tAL} {m : tMo} {n : Nat} {i : Int32} (hi : i.toInt = ((5 * n : Nat) : Int)) (hL : 5 * n + 5 ≤ L) (h : Rel n v m) (go : ∀ v' m', Rel (n + 1) v' m' → vV x 4 93 1926 (wA (z_g x) a v' ++ wM (z_g x) a' m') 1098 [(3, .int i), (2, .ref (a' 0)), (1, .ref (a 0)), (0, .ref b)] []) : vV x 4 93 1926 (wA (z_g x) a v ++ wM (z_g x) a' m) 412 [(3, .int i), (2, .ref (a' 0)), (1, .ref (a 0)), (0, .ref b)] [] := by
  have hb := X.2.2.2
  have h512 : n ≤ 512 := by omega
  obtain ⟨r, r', e1, e2, e3, e4⟩ := p_go h h512 (xs (5 * n + 1))
  refine r_aload_n C eL_412 2 rfl rfl ?_
  refine r_aload_n C eL_413 3 rfl rfl ?_
  refine r_iload_n C eL_414 0 rfl rfl ?_
  refine r_iconst C (v := 1) eL_415 (by decide) ?_
  refine r_iadd C eL_416 ?_
  refine lw_sld C X (k := 5 * n + 1) eL_417 (ia_1 hi (by omega)) (by omega) ?_
  refine lw_Ai C (c_AL_go (z_l x) (z_g x) a 0 v (xs (5 * n + 1)) r e1) eL_418 KL_AL_go ⟨0, 10, _, (RX10, TX10, 15), rfl, rfl, rfl⟩ rfl rfl rfl rfl rfl rfl rfl rfl rfl ?_
  refine r_aload_n C eL_421 1 rfl rfl ?_
  refine r_aload_n C eL_422 3 rfl rfl ?_
  refine r_iload_n C eL_423 0 rfl rfl ?_
  refine r_iconst C (v := 1) eL_424 (by decide) ?_
  refine r_iadd C eL_425 ?_
  refine lw_sld C X (k := 5 * n + 1) eL_426 (ia_1 hi (by omega)) (by omega) ?_
  refine lw_Mi C (c_Mo_go (z_l x) (z_g x) a' 0 m (xs (5 * n + 1)) r' e2) eL_427 KL_Mo_go ⟨0, 11, _, (RX11, TX11, 34), rfl, rfl, rfl⟩ rfl rfl rfl rfl rfl rfl rfl rfl rfl ?_
  exact r_icmp_eq C eL_430 (fun _ => go _ _ e4) (fun z => absurd e3 z)
set_option maxHeartbeats 4000000 in
set_option maxRecDepth 100000 in
theorem lc_10 {x : zFx} (C : zC x code RL 4 room_1) {b L : Nat} {xs : Nat → Int32} (X : lwX x b L xs) {a a' : Nat → Nat} {v : tAL} {m : tMo} {n : Nat} {i : Int32} (hi : i.toInt = ((5 * n : Nat) : Int)) (hL : 5 * n + 5 ≤ L) (h : Rel n v m) (go : ∀ v' m', Rel (n + 1) v' m' → vV x 4 93 1926 (wA (z_g x) a v' ++ wM (z_g x) a' m') 1098 [(3, .int i), (2, .ref (a' 0)), (1, .ref (a 0)), (0, .ref b)] []) : vV x 4 93 1926 (wA (z_g x) a v ++ wM (z_g x) a' m) 435 [(3, .int i), (2, .ref (a' 0)), (1, .ref (a 0)), (0, .ref b)] [] := by
  have hb := X.2.2.2
  have h512 : n ≤ 512 := by omega
  obtain ⟨r, r', e1, e2, e3, e4⟩ := p_follow h h512 (xs (5 * n + 1))
  refine r_aload_n C eL_435 2 rfl rfl ?_
  refine r_aload_n C eL_436 3 rfl rfl ?_
  refine r_iload_n C eL_437 0 rfl rfl ?_
  refine r_iconst C (v := 1) eL_438 (by decide) ?_
  refine r_iadd C eL_439 ?_
  refine lw_sld C X (k := 5 * n + 1) eL_440 (ia_1 hi (by omega)) (by omega) ?_
  refine lw_Ai C (c_AL_follow (z_l x) (z_g x) a 0 v (xs (5 * n + 1)) r e1) eL_441 KL_AL_follow ⟨0, 10, _, (RX10, TX10, 15), rfl, rfl, rfl⟩ rfl rfl rfl rfl rfl rfl rfl rfl rfl ?_
  refine r_aload_n C eL_444 1 rfl rfl ?_
  refine r_aload_n C eL_445 3 rfl rfl ?_
  refine r_iload_n C eL_446 0 rfl rfl ?_
  refine r_iconst C (v := 1) eL_447 (by decide) ?_
  refine r_iadd C eL_448 ?_
  refine lw_sld C X (k := 5 * n + 1) eL_449 (ia_1 hi (by omega)) (by omega) ?_
  refine lw_Mi C (c_Mo_follow (z_l x) (z_g x) a' 0 m (xs (5 * n + 1)) r' e2) eL_450 KL_Mo_follow ⟨0, 11, _, (RX11, TX11, 34), rfl, rfl, rfl⟩ rfl rfl rfl rfl rfl rfl rfl rfl rfl ?_
  exact r_icmp_eq C eL_453 (fun _ => go _ _ e4) (fun z => absurd e3 z)
set_option maxHeartbeats 4000000 in
set_option maxRecDepth 100000 in
theorem lc_11 {x : zFx} (C : zC x code RL 4 room_1) {b L : Nat} {xs : Nat → Int32} (X : lwX x b L xs) {a a' : Nat → Nat} {v : tAL} {m : tMo} {n : Nat} {i : Int32} (hi : i.toInt = ((5 * n : Nat) : Int)) (hL : 5 * n + 5 ≤ L) (h : Rel n v m) (go : ∀ v' m', Rel (n + 1) v' m' → vV x 4 93 1926 (wA (z_g x) a v' ++ wM (z_g x) a' m') 1098 [(3, .int i), (2, .ref (a' 0)), (1, .ref (a 0)), (0, .ref b)] []) : vV x 4 93 1926 (wA (z_g x) a v ++ wM (z_g x) a' m) 458 [(3, .int i), (2, .ref (a' 0)), (1, .ref (a 0)), (0, .ref b)] [] := by
  have hb := X.2.2.2
  have h512 : n ≤ 512 := by omega
  obtain ⟨r, r', e1, e2, e3, e4⟩ := p_fast h (xs (5 * n + 1)) (xs (5 * n + 2)) (xs (5 * n + 3)) (xs (5 * n + 4))
  refine r_aload_n C eL_458 2 rfl rfl ?_
  refine r_aload_n C eL_459 3 rfl rfl ?_
  refine r_iload_n C eL_460 0 rfl rfl ?_
  refine r_iconst C (v := 1) eL_461 (by decide) ?_
  refine r_iadd C eL_462 ?_
  refine lw_sld C X (k := 5 * n + 1) eL_463 (ia_1 hi (by omega)) (by omega) ?_
  refine r_aload_n C eL_464 3 rfl rfl ?_
  refine r_iload_n C eL_465 0 rfl rfl ?_
  refine r_iconst C (v := 2) eL_466 (by decide) ?_
  refine r_iadd C eL_467 ?_
  refine lw_sld C X (k := 5 * n + 2) eL_468 (ia_2 hi (by omega)) (by omega) ?_
  refine r_aload_n C eL_469 3 rfl rfl ?_
  refine r_iload_n C eL_470 0 rfl rfl ?_
  refine r_iconst C (v := 3) eL_471 (by decide) ?_
  refine r_iadd C eL_472 ?_
  refine lw_sld C X (k := 5 * n + 3) eL_473 (ia_3 hi (by omega)) (by omega) ?_
  refine r_aload_n C eL_474 3 rfl rfl ?_
  refine r_iload_n C eL_475 0 rfl rfl ?_
  refine r_iconst C (v := 4) eL_476 (by decide) ?_
  refine r_iadd C eL_477 ?_
  refine lw_sld C X (k := 5 * n + 4) eL_478 (ia_4 hi (by omega)) (by omega) ?_
  refine lw_Ai C (c_AL_fast (z_l x) (z_g x) a 0 v (xs (5 * n + 1)) (xs (5 * n + 2)) (xs (5 * n + 3)) (xs (5 * n + 4)) r e1) eL_479 KL_AL_fast ⟨0, 10, _, (RX10, TX10, 15), rfl, rfl, rfl⟩ rfl rfl rfl rfl rfl rfl rfl rfl rfl ?_
  refine r_aload_n C eL_482 1 rfl rfl ?_
  refine r_aload_n C eL_483 3 rfl rfl ?_
  refine r_iload_n C eL_484 0 rfl rfl ?_
  refine r_iconst C (v := 1) eL_485 (by decide) ?_
  refine r_iadd C eL_486 ?_
  refine lw_sld C X (k := 5 * n + 1) eL_487 (ia_1 hi (by omega)) (by omega) ?_
  refine r_aload_n C eL_488 3 rfl rfl ?_
  refine r_iload_n C eL_489 0 rfl rfl ?_
  refine r_iconst C (v := 2) eL_490 (by decide) ?_
  refine r_iadd C eL_491 ?_
  refine lw_sld C X (k := 5 * n + 2) eL_492 (ia_2 hi (by omega)) (by omega) ?_
  refine r_aload_n C eL_493 3 rfl rfl ?_
  refine r_iload_n C eL_494 0 rfl rfl ?_
  refine r_iconst C (v := 3) eL_495 (by decide) ?_
  refine r_iadd C eL_496 ?_
  refine lw_sld C X (k := 5 * n + 3) eL_497 (ia_3 hi (by omega)) (by omega) ?_
  refine r_aload_n C eL_498 3 rfl rfl ?_
  refine r_iload_n C eL_499 0 rfl rfl ?_
  refine r_iconst C (v := 4) eL_500 (by decide) ?_
  refine r_iadd C eL_501 ?_
  refine lw_sld C X (k := 5 * n + 4) eL_502 (ia_4 hi (by omega)) (by omega) ?_
  refine lw_Mi C (c_Mo_fast (z_l x) (z_g x) a' 0 m (xs (5 * n + 1)) (xs (5 * n + 2)) (xs (5 * n + 3)) (xs (5 * n + 4)) r' e2) eL_503 KL_Mo_fast ⟨0, 11, _, (RX11, TX11, 34), rfl, rfl, rfl⟩ rfl rfl rfl rfl rfl rfl rfl rfl rfl ?_
  exact r_icmp_eq C eL_506 (fun _ => go _ _ e4) (fun z => absurd e3 z)
set_option maxHeartbeats 4000000 in
set_option maxRecDepth 100000 in
theorem lc_12 {x : zFx} (C : zC x code RL 4 room_1) {b L : Nat} {xs : Nat → Int32} (X : lwX x b L xs) {a a' : Nat → Nat} {v : tAL} {m : tMo} {n : Nat} {i : Int32} (hi : i.toInt = ((5 * n : Nat) : Int)) (hL : 5 * n + 5 ≤ L) (h : Rel n v m) (go : ∀ v' m', Rel (n + 1) v' m' → vV x 4 93 1926 (wA (z_g x) a v' ++ wM (z_g x) a' m') 1098 [(3, .int i), (2, .ref (a' 0)), (1, .ref (a 0)), (0, .ref b)] []) : vV x 4 93 1926 (wA (z_g x) a v ++ wM (z_g x) a' m) 511 [(3, .int i), (2, .ref (a' 0)), (1, .ref (a 0)), (0, .ref b)] [] := by
  have hb := X.2.2.2
  have h512 : n ≤ 512 := by omega
  obtain ⟨r, r', e1, e2, e3, e4⟩ := p_heave h h512 (xs (5 * n + 1)) (xs (5 * n + 2)) (xs (5 * n + 3))
  refine r_aload_n C eL_511 2 rfl rfl ?_
  refine r_aload_n C eL_512 3 rfl rfl ?_
  refine r_iload_n C eL_513 0 rfl rfl ?_
  refine r_iconst C (v := 1) eL_514 (by decide) ?_
  refine r_iadd C eL_515 ?_
  refine lw_sld C X (k := 5 * n + 1) eL_516 (ia_1 hi (by omega)) (by omega) ?_
  refine r_aload_n C eL_517 3 rfl rfl ?_
  refine r_iload_n C eL_518 0 rfl rfl ?_
  refine r_iconst C (v := 2) eL_519 (by decide) ?_
  refine r_iadd C eL_520 ?_
  refine lw_sld C X (k := 5 * n + 2) eL_521 (ia_2 hi (by omega)) (by omega) ?_
  refine r_aload_n C eL_522 3 rfl rfl ?_
  refine r_iload_n C eL_523 0 rfl rfl ?_
  refine r_iconst C (v := 3) eL_524 (by decide) ?_
  refine r_iadd C eL_525 ?_
  refine lw_sld C X (k := 5 * n + 3) eL_526 (ia_3 hi (by omega)) (by omega) ?_
  refine lw_Ai C (c_AL_heave (z_l x) (z_g x) a 0 v (xs (5 * n + 1)) (xs (5 * n + 2)) (xs (5 * n + 3)) r e1) eL_527 KL_AL_heave ⟨0, 10, _, (RX10, TX10, 15), rfl, rfl, rfl⟩ rfl rfl rfl rfl rfl rfl rfl rfl rfl ?_
  refine r_aload_n C eL_530 1 rfl rfl ?_
  refine r_aload_n C eL_531 3 rfl rfl ?_
  refine r_iload_n C eL_532 0 rfl rfl ?_
  refine r_iconst C (v := 1) eL_533 (by decide) ?_
  refine r_iadd C eL_534 ?_
  refine lw_sld C X (k := 5 * n + 1) eL_535 (ia_1 hi (by omega)) (by omega) ?_
  refine r_aload_n C eL_536 3 rfl rfl ?_
  refine r_iload_n C eL_537 0 rfl rfl ?_
  refine r_iconst C (v := 2) eL_538 (by decide) ?_
  refine r_iadd C eL_539 ?_
  refine lw_sld C X (k := 5 * n + 2) eL_540 (ia_2 hi (by omega)) (by omega) ?_
  refine r_aload_n C eL_541 3 rfl rfl ?_
  refine r_iload_n C eL_542 0 rfl rfl ?_
  refine r_iconst C (v := 3) eL_543 (by decide) ?_
  refine r_iadd C eL_544 ?_
  refine lw_sld C X (k := 5 * n + 3) eL_545 (ia_3 hi (by omega)) (by omega) ?_
  refine lw_Mi C (c_Mo_heave (z_l x) (z_g x) a' 0 m (xs (5 * n + 1)) (xs (5 * n + 2)) (xs (5 * n + 3)) r' e2) eL_546 KL_Mo_heave ⟨0, 11, _, (RX11, TX11, 34), rfl, rfl, rfl⟩ rfl rfl rfl rfl rfl rfl rfl rfl rfl ?_
  exact r_icmp_eq C eL_549 (fun _ => go _ _ e4) (fun z => absurd e3 z)
set_option maxHeartbeats 4000000 in
set_option maxRecDepth 100000 in
theorem lc_13 {x : zFx} (C : zC x code RL 4 room_1) {b L : Nat} {xs : Nat → Int32} (X : lwX x b L xs) {a a' : Nat → Nat} {v : tAL} {m : tMo} {n : Nat} {i : Int32} (hi : i.toInt = ((5 * n : Nat) : Int)) (hL : 5 * n + 5 ≤ L) (h : Rel n v m) (go : ∀ v' m', Rel (n + 1) v' m' → vV x 4 93 1926 (wA (z_g x) a v' ++ wM (z_g x) a' m') 1098 [(3, .int i), (2, .ref (a' 0)), (1, .ref (a 0)), (0, .ref b)] []) : vV x 4 93 1926 (wA (z_g x) a v ++ wM (z_g x) a' m) 554 [(3, .int i), (2, .ref (a' 0)), (1, .ref (a 0)), (0, .ref b)] [] := by
  have hb := X.2.2.2
  have h512 : n ≤ 512 := by omega
  obtain ⟨r, r', e1, e2, e3, e4⟩ := p_odds h (xs (5 * n + 1)) (xs (5 * n + 2))
  refine r_aload_n C eL_554 2 rfl rfl ?_
  refine r_aload_n C eL_555 3 rfl rfl ?_
  refine r_iload_n C eL_556 0 rfl rfl ?_
  refine r_iconst C (v := 1) eL_557 (by decide) ?_
  refine r_iadd C eL_558 ?_
  refine lw_sld C X (k := 5 * n + 1) eL_559 (ia_1 hi (by omega)) (by omega) ?_
  refine r_aload_n C eL_560 3 rfl rfl ?_
  refine r_iload_n C eL_561 0 rfl rfl ?_
  refine r_iconst C (v := 2) eL_562 (by decide) ?_
  refine r_iadd C eL_563 ?_
  refine lw_sld C X (k := 5 * n + 2) eL_564 (ia_2 hi (by omega)) (by omega) ?_
  refine lw_Ai C (c_AL_odds (z_l x) (z_g x) a 0 v (xs (5 * n + 1)) (xs (5 * n + 2)) r e1) eL_565 KL_AL_odds ⟨0, 10, _, (RX10, TX10, 15), rfl, rfl, rfl⟩ rfl rfl rfl rfl rfl rfl rfl rfl rfl ?_
  refine r_aload_n C eL_568 1 rfl rfl ?_
  refine r_aload_n C eL_569 3 rfl rfl ?_
  refine r_iload_n C eL_570 0 rfl rfl ?_
  refine r_iconst C (v := 1) eL_571 (by decide) ?_
  refine r_iadd C eL_572 ?_
  refine lw_sld C X (k := 5 * n + 1) eL_573 (ia_1 hi (by omega)) (by omega) ?_
  refine r_aload_n C eL_574 3 rfl rfl ?_
  refine r_iload_n C eL_575 0 rfl rfl ?_
  refine r_iconst C (v := 2) eL_576 (by decide) ?_
  refine r_iadd C eL_577 ?_
  refine lw_sld C X (k := 5 * n + 2) eL_578 (ia_2 hi (by omega)) (by omega) ?_
  refine lw_Mi C (c_Mo_odds (z_l x) (z_g x) a' 0 m (xs (5 * n + 1)) (xs (5 * n + 2)) r' e2) eL_579 KL_Mo_odds ⟨0, 11, _, (RX11, TX11, 34), rfl, rfl, rfl⟩ rfl rfl rfl rfl rfl rfl rfl rfl rfl ?_
  exact r_icmp_eq C eL_582 (fun _ => go _ _ e4) (fun z => absurd e3 z)
