/-! the law: its cases -/
section LQC
variable {p : Program} {l : Launch} {e : Env} {s : State} {m : MethodId} {below : List Frame} {meth : Method} {c : Code} {σ : Nat → Nat} {D : va_G} {cy : ClassId} {b L : Nat} {xs : Nat → Int32} {qa qb : Nat → Nat} {Q : State → Prop} {i n : Int} {S : SX5} {M : SX6}
set_option maxHeartbeats 4000000 in
set_option maxRecDepth 100000 in
theorem lq_take (C : lq_C p s m c b σ D cy) (X : lq_X s b L xs) (hi : 0 ≤ i ∧ i + 4 ≤ L) (hn : 0 ≤ n ∧ n ≤ 9000) (hI : Inv n S M) (k : ∀ S' M', Inv (n + 9) S' M' → cv_V p l e room_1 s m #[Value.ref b] below meth c 4 D (lq_A s) Q 64 4242 (wX5 qa cy S' ++ wX6 qb cy M') 760 (lq_lv i qa qb b) []) : cv_V p l e room_1 s m #[Value.ref b] below meth c 4 D (lq_A s) Q 64 4242 (wX5 qa cy S ++ wX6 qb cy M) 365 (lq_lv i qa qb b) [] := by
  obtain ⟨r, S', M', e1, e2, hJ⟩ := B_take ⟨hn.1, by omega⟩ hI (xs (ii i + ii 1).toNatClampNeg)
  refine cv_aload_n (i := 1) (q := 366) 1 C dL_law_365 rfl rfl rfl ?_
  refine lq_rd (q := 371) 1 (by omega) C X hi dL_law_366 dL_law_367 dL_law_368 dL_law_369 dL_law_370 rfl ?_
  refine lq_5 (n := 1) (As := [.int (xs (ii i + ii 1).toNatClampNeg)]) (st := []) (q := 374) C (KX5_take (res := (r, S')) qa S (xs (ii i + ii 1).toNatClampNeg) e1) gL_law_X5_take rfl ⟨rfl, rfl⟩ (by decide +kernel) rfl ⟨(Nat.le_of_ble_eq_true rfl), (Nat.le_of_ble_eq_true rfl)⟩ rfl (Nat.le_of_ble_eq_true rfl) dL_law_371 rfl ?_
  refine cv_aload_n (i := 2) (q := 375) 2 C dL_law_374 rfl rfl rfl ?_
  refine lq_rd (q := 380) 1 (by omega) C X hi dL_law_375 dL_law_376 dL_law_377 dL_law_378 dL_law_379 rfl ?_
  refine lq_6 (n := 1) (As := [.int (xs (ii i + ii 1).toNatClampNeg)]) (st := [.int r]) (q := 383) C (KX6_take (res := (r, M')) qb M (xs (ii i + ii 1).toNatClampNeg) e2) gL_law_X6_take rfl ⟨rfl, rfl⟩ (by decide +kernel) rfl ⟨(Nat.le_of_ble_eq_true rfl), (Nat.le_of_ble_eq_true rfl)⟩ rfl (Nat.le_of_ble_eq_true rfl) dL_law_380 rfl ?_
  exact cv_icmp_eq (tgt := 760) (q := 386) C dL_law_383 (by decide) rfl (fun _ => k S' M' (Inv_mono hJ (by omega))) (fun h => absurd rfl h)
set_option maxHeartbeats 4000000 in
set_option maxRecDepth 100000 in
theorem lq_tell (C : lq_C p s m c b σ D cy) (X : lq_X s b L xs) (hi : 0 ≤ i ∧ i + 4 ≤ L) (hn : 0 ≤ n ∧ n ≤ 9000) (hI : Inv n S M) (k : ∀ S' M', Inv (n + 9) S' M' → cv_V p l e room_1 s m #[Value.ref b] below meth c 4 D (lq_A s) Q 64 4242 (wX5 qa cy S' ++ wX6 qb cy M') 760 (lq_lv i qa qb b) []) : cv_V p l e room_1 s m #[Value.ref b] below meth c 4 D (lq_A s) Q 64 4242 (wX5 qa cy S ++ wX6 qb cy M) 388 (lq_lv i qa qb b) [] := by
  obtain ⟨r, S', M', e1, e2, hJ⟩ := B_tell ⟨hn.1, by omega⟩ hI (xs (ii i + ii 1).toNatClampNeg)
  refine cv_aload_n (i := 1) (q := 389) 1 C dL_law_388 rfl rfl rfl ?_
  refine lq_rd (q := 394) 1 (by omega) C X hi dL_law_389 dL_law_390 dL_law_391 dL_law_392 dL_law_393 rfl ?_
  refine lq_5 (n := 1) (As := [.int (xs (ii i + ii 1).toNatClampNeg)]) (st := []) (q := 397) C (KX5_tell (res := (r, S')) qa S (xs (ii i + ii 1).toNatClampNeg) e1) gL_law_X5_tell rfl ⟨rfl, rfl⟩ (by decide +kernel) rfl ⟨(Nat.le_of_ble_eq_true rfl), (Nat.le_of_ble_eq_true rfl)⟩ rfl (Nat.le_of_ble_eq_true rfl) dL_law_394 rfl ?_
  refine cv_aload_n (i := 2) (q := 398) 2 C dL_law_397 rfl rfl rfl ?_
  refine lq_rd (q := 403) 1 (by omega) C X hi dL_law_398 dL_law_399 dL_law_400 dL_law_401 dL_law_402 rfl ?_
  refine lq_6 (n := 1) (As := [.int (xs (ii i + ii 1).toNatClampNeg)]) (st := [.int r]) (q := 406) C (KX6_tell (res := (r, M')) qb M (xs (ii i + ii 1).toNatClampNeg) e2) gL_law_X6_tell rfl ⟨rfl, rfl⟩ (by decide +kernel) rfl ⟨(Nat.le_of_ble_eq_true rfl), (Nat.le_of_ble_eq_true rfl)⟩ rfl (Nat.le_of_ble_eq_true rfl) dL_law_403 rfl ?_
  exact cv_icmp_eq (tgt := 760) (q := 409) C dL_law_406 (by decide) rfl (fun _ => k S' M' (Inv_mono hJ (by omega))) (fun h => absurd rfl h)
set_option maxHeartbeats 4000000 in
set_option maxRecDepth 100000 in
theorem lq_flatten (C : lq_C p s m c b σ D cy) (X : lq_X s b L xs) (hi : 0 ≤ i ∧ i + 4 ≤ L) (hn : 0 ≤ n ∧ n ≤ 9000) (hI : Inv n S M) (k : ∀ S' M', Inv (n + 9) S' M' → cv_V p l e room_1 s m #[Value.ref b] below meth c 4 D (lq_A s) Q 64 4242 (wX5 qa cy S' ++ wX6 qb cy M') 760 (lq_lv i qa qb b) []) : cv_V p l e room_1 s m #[Value.ref b] below meth c 4 D (lq_A s) Q 64 4242 (wX5 qa cy S ++ wX6 qb cy M) 411 (lq_lv i qa qb b) [] := by
  obtain ⟨r, S', M', e1, e2, hJ⟩ := flatten_eq ⟨hn.1, by omega⟩ hI
  refine cv_aload_n (i := 1) (q := 412) 1 C dL_law_411 rfl rfl rfl ?_
  refine lq_5 (n := 0) (As := []) (st := []) (q := 415) C (KX5_flatten (res := (r, S')) qa S e1) gL_law_X5_flatten rfl ⟨rfl, rfl⟩ (by decide +kernel) rfl ⟨(Nat.le_of_ble_eq_true rfl), (Nat.le_of_ble_eq_true rfl)⟩ rfl (Nat.le_of_ble_eq_true rfl) dL_law_412 rfl ?_
  refine cv_aload_n (i := 2) (q := 416) 2 C dL_law_415 rfl rfl rfl ?_
  refine lq_6 (n := 0) (As := []) (st := [.int r]) (q := 419) C (KX6_flatten (res := (r, M')) qb M e2) gL_law_X6_flatten rfl ⟨rfl, rfl⟩ (by decide +kernel) rfl ⟨(Nat.le_of_ble_eq_true rfl), (Nat.le_of_ble_eq_true rfl)⟩ rfl (Nat.le_of_ble_eq_true rfl) dL_law_416 rfl ?_
  exact cv_icmp_eq (tgt := 760) (q := 422) C dL_law_419 (by decide) rfl (fun _ => k S' M' (Inv_mono hJ (by omega))) (fun h => absurd rfl h)
set_option maxHeartbeats 4000000 in
set_option maxRecDepth 100000 in
theorem lq_ledger (C : lq_C p s m c b σ D cy) (X : lq_X s b L xs) (hi : 0 ≤ i ∧ i + 4 ≤ L) (hn : 0 ≤ n ∧ n ≤ 9000) (hI : Inv n S M) (k : ∀ S' M', Inv (n + 9) S' M' → cv_V p l e room_1 s m #[Value.ref b] below meth c 4 D (lq_A s) Q 64 4242 (wX5 qa cy S' ++ wX6 qb cy M') 760 (lq_lv i qa qb b) []) : cv_V p l e room_1 s m #[Value.ref b] below meth c 4 D (lq_A s) Q 64 4242 (wX5 qa cy S ++ wX6 qb cy M) 424 (lq_lv i qa qb b) [] := by
  obtain ⟨r, S', e1, e2, hJ⟩ := B_ledger ⟨hn.1, by omega⟩ hI (xs (ii i + ii 1).toNatClampNeg)
  refine cv_aload_n (i := 1) (q := 425) 1 C dL_law_424 rfl rfl rfl ?_
  refine lq_rd (q := 430) 1 (by omega) C X hi dL_law_425 dL_law_426 dL_law_427 dL_law_428 dL_law_429 rfl ?_
  refine lq_5 (n := 1) (As := [.int (xs (ii i + ii 1).toNatClampNeg)]) (st := []) (q := 433) C (KX5_ledger (res := (r, S')) qa S (xs (ii i + ii 1).toNatClampNeg) e1) gL_law_X5_ledger rfl ⟨rfl, rfl⟩ (by decide +kernel) rfl ⟨(Nat.le_of_ble_eq_true rfl), (Nat.le_of_ble_eq_true rfl)⟩ rfl (Nat.le_of_ble_eq_true rfl) dL_law_430 rfl ?_
  refine cv_aload_n (i := 2) (q := 434) 2 C dL_law_433 rfl rfl rfl ?_
  refine lq_rd (q := 439) 1 (by omega) C X hi dL_law_434 dL_law_435 dL_law_436 dL_law_437 dL_law_438 rfl ?_
  refine lq_6 (n := 1) (As := [.int (xs (ii i + ii 1).toNatClampNeg)]) (st := [.int r]) (q := 442) C (KX6_ledger (res := r) qb M (xs (ii i + ii 1).toNatClampNeg) e2) gL_law_X6_ledger rfl ⟨rfl, rfl⟩ (by decide +kernel) rfl ⟨(Nat.le_of_ble_eq_true rfl), (Nat.le_of_ble_eq_true rfl)⟩ rfl (Nat.le_of_ble_eq_true rfl) dL_law_439 rfl ?_
  exact cv_icmp_eq (tgt := 760) (q := 445) C dL_law_442 (by decide) rfl (fun _ => k S' M (Inv_mono hJ (by omega))) (fun h => absurd rfl h)
set_option maxHeartbeats 4000000 in
set_option maxRecDepth 100000 in
theorem lq_would (C : lq_C p s m c b σ D cy) (X : lq_X s b L xs) (hi : 0 ≤ i ∧ i + 4 ≤ L) (hn : 0 ≤ n ∧ n ≤ 9000) (hI : Inv n S M) (k : ∀ S' M', Inv (n + 9) S' M' → cv_V p l e room_1 s m #[Value.ref b] below meth c 4 D (lq_A s) Q 64 4242 (wX5 qa cy S' ++ wX6 qb cy M') 760 (lq_lv i qa qb b) []) : cv_V p l e room_1 s m #[Value.ref b] below meth c 4 D (lq_A s) Q 64 4242 (wX5 qa cy S ++ wX6 qb cy M) 447 (lq_lv i qa qb b) [] := by
  obtain ⟨r, S', M', e1, e2, hJ⟩ := B_would ⟨hn.1, by omega⟩ hI (xs (ii i + ii 1).toNatClampNeg)
  refine cv_aload_n (i := 1) (q := 448) 1 C dL_law_447 rfl rfl rfl ?_
  refine lq_rd (q := 453) 1 (by omega) C X hi dL_law_448 dL_law_449 dL_law_450 dL_law_451 dL_law_452 rfl ?_
  refine lq_5 (n := 1) (As := [.int (xs (ii i + ii 1).toNatClampNeg)]) (st := []) (q := 456) C (KX5_would (res := (r, S')) qa S (xs (ii i + ii 1).toNatClampNeg) e1) gL_law_X5_would rfl ⟨rfl, rfl⟩ (by decide +kernel) rfl ⟨(Nat.le_of_ble_eq_true rfl), (Nat.le_of_ble_eq_true rfl)⟩ rfl (Nat.le_of_ble_eq_true rfl) dL_law_453 rfl ?_
  refine cv_aload_n (i := 2) (q := 457) 2 C dL_law_456 rfl rfl rfl ?_
  refine lq_rd (q := 462) 1 (by omega) C X hi dL_law_457 dL_law_458 dL_law_459 dL_law_460 dL_law_461 rfl ?_
  refine lq_6 (n := 1) (As := [.int (xs (ii i + ii 1).toNatClampNeg)]) (st := [.int r]) (q := 465) C (KX6_would (res := (r, M')) qb M (xs (ii i + ii 1).toNatClampNeg) e2) gL_law_X6_would rfl ⟨rfl, rfl⟩ (by decide +kernel) rfl ⟨(Nat.le_of_ble_eq_true rfl), (Nat.le_of_ble_eq_true rfl)⟩ rfl (Nat.le_of_ble_eq_true rfl) dL_law_462 rfl ?_
  exact cv_icmp_eq (tgt := 760) (q := 468) C dL_law_465 (by decide) rfl (fun _ => k S' M' (Inv_mono hJ (by omega))) (fun h => absurd rfl h)
set_option maxHeartbeats 4000000 in
set_option maxRecDepth 100000 in
theorem lq_dear (C : lq_C p s m c b σ D cy) (X : lq_X s b L xs) (hi : 0 ≤ i ∧ i + 4 ≤ L) (hn : 0 ≤ n ∧ n ≤ 9000) (hI : Inv n S M) (k : ∀ S' M', Inv (n + 9) S' M' → cv_V p l e room_1 s m #[Value.ref b] below meth c 4 D (lq_A s) Q 64 4242 (wX5 qa cy S' ++ wX6 qb cy M') 760 (lq_lv i qa qb b) []) : cv_V p l e room_1 s m #[Value.ref b] below meth c 4 D (lq_A s) Q 64 4242 (wX5 qa cy S ++ wX6 qb cy M) 470 (lq_lv i qa qb b) [] := by
  obtain ⟨r, S', M', e1, e2, hJ⟩ := B_dear ⟨hn.1, by omega⟩ hI (xs (ii i + ii 1).toNatClampNeg)
  refine cv_aload_n (i := 1) (q := 471) 1 C dL_law_470 rfl rfl rfl ?_
  refine lq_rd (q := 476) 1 (by omega) C X hi dL_law_471 dL_law_472 dL_law_473 dL_law_474 dL_law_475 rfl ?_
  refine lq_5 (n := 1) (As := [.int (xs (ii i + ii 1).toNatClampNeg)]) (st := []) (q := 479) C (KX5_dear (res := (r, S')) qa S (xs (ii i + ii 1).toNatClampNeg) e1) gL_law_X5_dear rfl ⟨rfl, rfl⟩ (by decide +kernel) rfl ⟨(Nat.le_of_ble_eq_true rfl), (Nat.le_of_ble_eq_true rfl)⟩ rfl (Nat.le_of_ble_eq_true rfl) dL_law_476 rfl ?_
  refine cv_aload_n (i := 2) (q := 480) 2 C dL_law_479 rfl rfl rfl ?_
  refine lq_rd (q := 485) 1 (by omega) C X hi dL_law_480 dL_law_481 dL_law_482 dL_law_483 dL_law_484 rfl ?_
  refine lq_6 (n := 1) (As := [.int (xs (ii i + ii 1).toNatClampNeg)]) (st := [.int r]) (q := 488) C (KX6_dear (res := (r, M')) qb M (xs (ii i + ii 1).toNatClampNeg) e2) gL_law_X6_dear rfl ⟨rfl, rfl⟩ (by decide +kernel) rfl ⟨(Nat.le_of_ble_eq_true rfl), (Nat.le_of_ble_eq_true rfl)⟩ rfl (Nat.le_of_ble_eq_true rfl) dL_law_485 rfl ?_
  exact cv_icmp_eq (tgt := 760) (q := 491) C dL_law_488 (by decide) rfl (fun _ => k S' M' (Inv_mono hJ (by omega))) (fun h => absurd rfl h)
set_option maxHeartbeats 4000000 in
set_option maxRecDepth 100000 in
theorem lq_replay (C : lq_C p s m c b σ D cy) (X : lq_X s b L xs) (hi : 0 ≤ i ∧ i + 4 ≤ L) (hn : 0 ≤ n ∧ n ≤ 9000) (hI : Inv n S M) (k : ∀ S' M', Inv (n + 9) S' M' → cv_V p l e room_1 s m #[Value.ref b] below meth c 4 D (lq_A s) Q 64 4242 (wX5 qa cy S' ++ wX6 qb cy M') 760 (lq_lv i qa qb b) []) : cv_V p l e room_1 s m #[Value.ref b] below meth c 4 D (lq_A s) Q 64 4242 (wX5 qa cy S ++ wX6 qb cy M) 493 (lq_lv i qa qb b) [] := by
  obtain ⟨r, S', M', e1, e2, hJ⟩ := B_replay ⟨hn.1, by omega⟩ hI (xs (ii i + ii 1).toNatClampNeg) (xs (ii i + ii 2).toNatClampNeg) (xs (ii i + ii 3).toNatClampNeg)
  refine cv_aload_n (i := 1) (q := 494) 1 C dL_law_493 rfl rfl rfl ?_
  refine lq_rd (q := 499) 1 (by omega) C X hi dL_law_494 dL_law_495 dL_law_496 dL_law_497 dL_law_498 rfl ?_
  refine lq_rd (q := 504) 2 (by omega) C X hi dL_law_499 dL_law_500 dL_law_501 dL_law_502 dL_law_503 rfl ?_
  refine lq_rd (q := 509) 3 (by omega) C X hi dL_law_504 dL_law_505 dL_law_506 dL_law_507 dL_law_508 rfl ?_
  refine lq_5 (n := 3) (As := [.int (xs (ii i + ii 1).toNatClampNeg), .int (xs (ii i + ii 2).toNatClampNeg), .int (xs (ii i + ii 3).toNatClampNeg)]) (st := []) (q := 512) C (KX5_replay (res := (r, S')) qa S (xs (ii i + ii 1).toNatClampNeg) (xs (ii i + ii 2).toNatClampNeg) (xs (ii i + ii 3).toNatClampNeg) e1) gL_law_X5_replay rfl ⟨rfl, rfl⟩ (by decide +kernel) rfl ⟨(Nat.le_of_ble_eq_true rfl), (Nat.le_of_ble_eq_true rfl)⟩ rfl (Nat.le_of_ble_eq_true rfl) dL_law_509 rfl ?_
  refine cv_aload_n (i := 2) (q := 513) 2 C dL_law_512 rfl rfl rfl ?_
  refine lq_rd (q := 518) 1 (by omega) C X hi dL_law_513 dL_law_514 dL_law_515 dL_law_516 dL_law_517 rfl ?_
  refine lq_rd (q := 523) 2 (by omega) C X hi dL_law_518 dL_law_519 dL_law_520 dL_law_521 dL_law_522 rfl ?_
  refine lq_rd (q := 528) 3 (by omega) C X hi dL_law_523 dL_law_524 dL_law_525 dL_law_526 dL_law_527 rfl ?_
  refine lq_6 (n := 3) (As := [.int (xs (ii i + ii 1).toNatClampNeg), .int (xs (ii i + ii 2).toNatClampNeg), .int (xs (ii i + ii 3).toNatClampNeg)]) (st := [.int r]) (q := 531) C (KX6_replay (res := (r, M')) qb M (xs (ii i + ii 1).toNatClampNeg) (xs (ii i + ii 2).toNatClampNeg) (xs (ii i + ii 3).toNatClampNeg) e2) gL_law_X6_replay rfl ⟨rfl, rfl⟩ (by decide +kernel) rfl ⟨(Nat.le_of_ble_eq_true rfl), (Nat.le_of_ble_eq_true rfl)⟩ rfl (Nat.le_of_ble_eq_true rfl) dL_law_528 rfl ?_
  exact cv_icmp_eq (tgt := 760) (q := 534) C dL_law_531 (by decide) rfl (fun _ => k S' M' (Inv_mono hJ (by omega))) (fun h => absurd rfl h)
set_option maxHeartbeats 4000000 in
set_option maxRecDepth 100000 in
theorem lq_ahead (C : lq_C p s m c b σ D cy) (X : lq_X s b L xs) (hi : 0 ≤ i ∧ i + 4 ≤ L) (hn : 0 ≤ n ∧ n ≤ 9000) (hI : Inv n S M) (k : ∀ S' M', Inv (n + 9) S' M' → cv_V p l e room_1 s m #[Value.ref b] below meth c 4 D (lq_A s) Q 64 4242 (wX5 qa cy S' ++ wX6 qb cy M') 760 (lq_lv i qa qb b) []) : cv_V p l e room_1 s m #[Value.ref b] below meth c 4 D (lq_A s) Q 64 4242 (wX5 qa cy S ++ wX6 qb cy M) 536 (lq_lv i qa qb b) [] := by
  obtain ⟨r, M', e1, e2, hJ⟩ := B_ahead ⟨hn.1, by omega⟩ hI
  refine cv_aload_n (i := 1) (q := 537) 1 C dL_law_536 rfl rfl rfl ?_
  refine lq_5 (n := 0) (As := []) (st := []) (q := 540) C (KX5_ahead (res := r) qa S e1) gL_law_X5_ahead rfl ⟨rfl, rfl⟩ (by decide +kernel) rfl ⟨(Nat.le_of_ble_eq_true rfl), (Nat.le_of_ble_eq_true rfl)⟩ rfl (Nat.le_of_ble_eq_true rfl) dL_law_537 rfl ?_
  refine cv_aload_n (i := 2) (q := 541) 2 C dL_law_540 rfl rfl rfl ?_
  refine lq_6 (n := 0) (As := []) (st := [.int r]) (q := 544) C (KX6_ahead (res := (r, M')) qb M e2) gL_law_X6_ahead rfl ⟨rfl, rfl⟩ (by decide +kernel) rfl ⟨(Nat.le_of_ble_eq_true rfl), (Nat.le_of_ble_eq_true rfl)⟩ rfl (Nat.le_of_ble_eq_true rfl) dL_law_541 rfl ?_
  exact cv_icmp_eq (tgt := 760) (q := 547) C dL_law_544 (by decide) rfl (fun _ => k S M' (Inv_mono hJ (by omega))) (fun h => absurd rfl h)
end LQC
