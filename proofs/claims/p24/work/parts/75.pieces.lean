/-! pieces -/
set_option maxRecDepth 100000 in
set_option maxHeartbeats 4000000 in
theorem pc_S10 {K : KT} {l : Launch} {ad : Nat → Nat} (hN : kN K = 1) (G : CtxF K l cL_pieces RL wsL_pieces rmL_pieces EX5 (some .boolean) (fun v => v = some (.int (1 : Int32))) 88 3874) (C : Ctx K l cL_pieces RL wsL_pieces rmL_pieces shX ad) {μ : Mem} (hF : RepF μ pc_F14) : JW K (88, 3874) shX ad μ 533 [(0, .ref (ad 0))] [] := by
  refine jw_aload_n C dL_pieces_533 rfl 0 rfl ?_
  refine jw_iconst (v := 4) C dL_pieces_534 (by decide) ?_
  refine jw_iconst (v := 1) C dL_pieces_535 (by decide) ?_
  refine jw_iconst (v := 3) C dL_pieces_536 (by decide) ?_
  refine jx_stone C XT hF trivial pc_O14 pc_v34 gL_pieces_X5_stone (Nat.le_of_ble_eq_true rfl) (Nat.le_of_ble_eq_true rfl) ⟨Nat.le_of_ble_eq_true rfl, Nat.le_of_ble_eq_true rfl⟩ (Nat.le_of_ble_eq_true rfl) dL_pieces_537 (fun μ hF _ => ?_)
  refine jw_iconst (v := 1) C dL_pieces_540 (by decide) ?_
  refine jw_icmp_ne C 548 dL_pieces_541 (by decide) (fun c => absurd (by decide) c) (fun _ => ?_)
  refine jw_iconst (v := 1) C dL_pieces_544 (by decide) ?_
  refine jw_goto (tgt := 549) C dL_pieces_545 (by decide) ?_
  exact jw_fret G rfl rfl (Nat.le_of_ble_eq_true rfl) (Nat.le_of_ble_eq_true rfl) dL_pieces_549
set_option maxRecDepth 100000 in
set_option maxHeartbeats 4000000 in
theorem pc_S9 {K : KT} {l : Launch} {ad : Nat → Nat} (hN : kN K = 1) (G : CtxF K l cL_pieces RL wsL_pieces rmL_pieces EX5 (some .boolean) (fun v => v = some (.int (1 : Int32))) 88 3874) (C : Ctx K l cL_pieces RL wsL_pieces rmL_pieces shX ad) {μ : Mem} (hF : RepF μ pc_F14) : JW K (88, 3874) shX ad μ 478 [(0, .ref (ad 0))] [] := by
  refine jw_aload_n C dL_pieces_478 rfl 0 rfl ?_
  refine jw_iconst (v := 1) C dL_pieces_479 (by decide) ?_
  refine jw_iconst (v := 0) C dL_pieces_480 (by decide) ?_
  refine jw_iconst (v := 1) C dL_pieces_481 (by decide) ?_
  refine jx_stone C XT hF trivial pc_O14 pc_v29 gL_pieces_X5_stone (Nat.le_of_ble_eq_true rfl) (Nat.le_of_ble_eq_true rfl) ⟨Nat.le_of_ble_eq_true rfl, Nat.le_of_ble_eq_true rfl⟩ (Nat.le_of_ble_eq_true rfl) dL_pieces_482 (fun μ hF _ => ?_)
  refine jw_iconst (v := 3) C dL_pieces_485 (by decide) ?_
  refine jw_icmp_ne C 548 dL_pieces_486 (by decide) (fun c => absurd (by decide) c) (fun _ => ?_)
  refine jw_aload_n C dL_pieces_489 rfl 0 rfl ?_
  refine jw_iconst (v := 1) C dL_pieces_490 (by decide) ?_
  refine jw_iconst (v := 0) C dL_pieces_491 (by decide) ?_
  refine jw_iconst (v := 2) C dL_pieces_492 (by decide) ?_
  refine jx_stone C XT hF trivial pc_O14 pc_v30 gL_pieces_X5_stone (Nat.le_of_ble_eq_true rfl) (Nat.le_of_ble_eq_true rfl) ⟨Nat.le_of_ble_eq_true rfl, Nat.le_of_ble_eq_true rfl⟩ (Nat.le_of_ble_eq_true rfl) dL_pieces_493 (fun μ hF _ => ?_)
  refine jw_bipush (v := 8) C dL_pieces_496 (by decide) ?_
  refine jw_icmp_ne C 548 dL_pieces_498 (by decide) (fun c => absurd (by decide) c) (fun _ => ?_)
  refine jw_aload_n C dL_pieces_501 rfl 0 rfl ?_
  refine jw_iconst (v := 1) C dL_pieces_502 (by decide) ?_
  refine jw_iconst (v := 1) C dL_pieces_503 (by decide) ?_
  refine jw_iconst (v := 0) C dL_pieces_504 (by decide) ?_
  refine jx_stone C XT hF trivial pc_O14 pc_v31 gL_pieces_X5_stone (Nat.le_of_ble_eq_true rfl) (Nat.le_of_ble_eq_true rfl) ⟨Nat.le_of_ble_eq_true rfl, Nat.le_of_ble_eq_true rfl⟩ (Nat.le_of_ble_eq_true rfl) dL_pieces_505 (fun μ hF _ => ?_)
  refine jw_iconst (v := 2) C dL_pieces_508 (by decide) ?_
  refine jw_icmp_ne C 548 dL_pieces_509 (by decide) (fun c => absurd (by decide) c) (fun _ => ?_)
  refine jw_aload_n C dL_pieces_512 rfl 0 rfl ?_
  refine jw_iconst (v := 4) C dL_pieces_513 (by decide) ?_
  refine jw_iconst (v := 0) C dL_pieces_514 (by decide) ?_
  refine jx_node C XT hF trivial pc_O14 pc_v32 gL_pieces_X5_ofNode (Nat.le_of_ble_eq_true rfl) (Nat.le_of_ble_eq_true rfl) ⟨Nat.le_of_ble_eq_true rfl, Nat.le_of_ble_eq_true rfl⟩ (Nat.le_of_ble_eq_true rfl) dL_pieces_515 (fun μ hF _ => ?_)
  refine jw_iconst (v := 2) C dL_pieces_518 (by decide) ?_
  refine jw_icmp_ne C 548 dL_pieces_519 (by decide) (fun c => absurd (by decide) c) (fun _ => ?_)
  refine jw_aload_n C dL_pieces_522 rfl 0 rfl ?_
  refine jw_iconst (v := 4) C dL_pieces_523 (by decide) ?_
  refine jw_iconst (v := 0) C dL_pieces_524 (by decide) ?_
  refine jw_iconst (v := 3) C dL_pieces_525 (by decide) ?_
  refine jx_stone C XT hF trivial pc_O14 pc_v33 gL_pieces_X5_stone (Nat.le_of_ble_eq_true rfl) (Nat.le_of_ble_eq_true rfl) ⟨Nat.le_of_ble_eq_true rfl, Nat.le_of_ble_eq_true rfl⟩ (Nat.le_of_ble_eq_true rfl) dL_pieces_526 (fun μ hF _ => ?_)
  refine jw_iconst (v := 5) C dL_pieces_529 (by decide) ?_
  refine jw_icmp_ne C 548 dL_pieces_530 (by decide) (fun c => absurd (by decide) c) (fun _ => ?_)
  exact pc_S10 hN G C hF
set_option maxRecDepth 100000 in
set_option maxHeartbeats 4000000 in
theorem pc_S8 {K : KT} {l : Launch} {ad : Nat → Nat} (hN : kN K = 1) (G : CtxF K l cL_pieces RL wsL_pieces rmL_pieces EX5 (some .boolean) (fun v => v = some (.int (1 : Int32))) 88 3874) (C : Ctx K l cL_pieces RL wsL_pieces rmL_pieces shX ad) {μ : Mem} (hF : RepF μ pc_F13) : JW K (88, 3874) shX ad μ 427 [(0, .ref (ad 0))] [] := by
  refine jw_aload_n C dL_pieces_427 rfl 0 rfl ?_
  refine jw_iconst (v := 0) C dL_pieces_428 (by decide) ?_
  refine jx_count C XT hF trivial pc_O13 pc_v25 gL_pieces_X5_count (Nat.le_of_ble_eq_true rfl) (Nat.le_of_ble_eq_true rfl) ⟨Nat.le_of_ble_eq_true rfl, Nat.le_of_ble_eq_true rfl⟩ (Nat.le_of_ble_eq_true rfl) dL_pieces_429 (fun μ hF _ => ?_)
  refine jw_iconst (v := 4) C dL_pieces_432 (by decide) ?_
  refine jw_icmp_ne C 548 dL_pieces_433 (by decide) (fun c => absurd (by decide) c) (fun _ => ?_)
  refine jw_aload_n C dL_pieces_436 rfl 0 rfl ?_
  refine jw_iconst (v := 1) C dL_pieces_437 (by decide) ?_
  refine jw_iconst (v := 0) C dL_pieces_438 (by decide) ?_
  refine jw_iconst (v := 2) C dL_pieces_439 (by decide) ?_
  refine jw_iconst (v := 1) C dL_pieces_440 (by decide) ?_
  refine jx_send C XT hF trivial pc_O13 pc_E14 gL_pieces_X5_send (Nat.le_of_ble_eq_true rfl) (Nat.le_of_ble_eq_true rfl) ⟨Nat.le_of_ble_eq_true rfl, Nat.le_of_ble_eq_true rfl⟩ (Nat.le_of_ble_eq_true rfl) dL_pieces_441 (fun μ hF _ => ?_)
  have hF := pc_R14 hF
  refine jw_iconst (v := 5) C dL_pieces_444 (by decide) ?_
  refine jw_icmp_ne C 548 dL_pieces_445 (by decide) (fun c => absurd (by decide) c) (fun _ => ?_)
  refine jw_aload_n C dL_pieces_448 rfl 0 rfl ?_
  refine jw_iconst (v := 0) C dL_pieces_449 (by decide) ?_
  refine jw_iconst (v := 0) C dL_pieces_450 (by decide) ?_
  refine jx_node C XT hF trivial pc_O14 pc_v26 gL_pieces_X5_ofNode (Nat.le_of_ble_eq_true rfl) (Nat.le_of_ble_eq_true rfl) ⟨Nat.le_of_ble_eq_true rfl, Nat.le_of_ble_eq_true rfl⟩ (Nat.le_of_ble_eq_true rfl) dL_pieces_451 (fun μ hF _ => ?_)
  refine jw_iconst (v := 1) C dL_pieces_454 (by decide) ?_
  refine jw_icmp_ne C 548 dL_pieces_455 (by decide) (fun c => absurd (by decide) c) (fun _ => ?_)
  refine jw_aload_n C dL_pieces_458 rfl 0 rfl ?_
  refine jw_iconst (v := 1) C dL_pieces_459 (by decide) ?_
  refine jw_iconst (v := 0) C dL_pieces_460 (by decide) ?_
  refine jx_node C XT hF trivial pc_O14 pc_v27 gL_pieces_X5_ofNode (Nat.le_of_ble_eq_true rfl) (Nat.le_of_ble_eq_true rfl) ⟨Nat.le_of_ble_eq_true rfl, Nat.le_of_ble_eq_true rfl⟩ (Nat.le_of_ble_eq_true rfl) dL_pieces_461 (fun μ hF _ => ?_)
  refine jw_iconst (v := 2) C dL_pieces_464 (by decide) ?_
  refine jw_icmp_ne C 548 dL_pieces_465 (by decide) (fun c => absurd (by decide) c) (fun _ => ?_)
  refine jw_aload_n C dL_pieces_468 rfl 0 rfl ?_
  refine jw_iconst (v := 1) C dL_pieces_469 (by decide) ?_
  refine jw_iconst (v := 5) C dL_pieces_470 (by decide) ?_
  refine jx_node C XT hF trivial pc_O14 pc_v28 gL_pieces_X5_ofNode (Nat.le_of_ble_eq_true rfl) (Nat.le_of_ble_eq_true rfl) ⟨Nat.le_of_ble_eq_true rfl, Nat.le_of_ble_eq_true rfl⟩ (Nat.le_of_ble_eq_true rfl) dL_pieces_471 (fun μ hF _ => ?_)
  refine jw_iconst (v := 2) C dL_pieces_474 (by decide) ?_
  refine jw_icmp_ne C 548 dL_pieces_475 (by decide) (fun c => absurd (by decide) c) (fun _ => ?_)
  exact pc_S9 hN G C hF
set_option maxRecDepth 100000 in
set_option maxHeartbeats 4000000 in
theorem pc_S7 {K : KT} {l : Launch} {ad : Nat → Nat} (hN : kN K = 1) (G : CtxF K l cL_pieces RL wsL_pieces rmL_pieces EX5 (some .boolean) (fun v => v = some (.int (1 : Int32))) 88 3874) (C : Ctx K l cL_pieces RL wsL_pieces rmL_pieces shX ad) {μ : Mem} (hF : RepF μ pc_F11) : JW K (88, 3874) shX ad μ 382 [(0, .ref (ad 0))] [] := by
  refine jw_aload_n C dL_pieces_382 rfl 0 rfl ?_
  refine jw_iconst (v := 2) C dL_pieces_383 (by decide) ?_
  refine jw_iconst (v := 3) C dL_pieces_384 (by decide) ?_
  refine jw_iconst (v := 3) C dL_pieces_385 (by decide) ?_
  refine jw_iconst (v := 0) C dL_pieces_386 (by decide) ?_
  refine jx_send C XT hF trivial pc_O11 pc_E12 gL_pieces_X5_send (Nat.le_of_ble_eq_true rfl) (Nat.le_of_ble_eq_true rfl) ⟨Nat.le_of_ble_eq_true rfl, Nat.le_of_ble_eq_true rfl⟩ (Nat.le_of_ble_eq_true rfl) dL_pieces_387 (fun μ hF _ => ?_)
  have hF := pc_R12 hF
  refine jw_iconst (v := 4) C dL_pieces_390 (by decide) ?_
  refine jw_icmp_ne C 548 dL_pieces_391 (by decide) (fun c => absurd (by decide) c) (fun _ => ?_)
  refine jw_aload_n C dL_pieces_394 rfl 0 rfl ?_
  refine jw_iconst (v := 0) C dL_pieces_395 (by decide) ?_
  refine jw_iconst (v := 3) C dL_pieces_396 (by decide) ?_
  refine jw_iconst (v := 0) C dL_pieces_397 (by decide) ?_
  refine jx_stone C XT hF trivial pc_O12 pc_v23 gL_pieces_X5_stone (Nat.le_of_ble_eq_true rfl) (Nat.le_of_ble_eq_true rfl) ⟨Nat.le_of_ble_eq_true rfl, Nat.le_of_ble_eq_true rfl⟩ (Nat.le_of_ble_eq_true rfl) dL_pieces_398 (fun μ hF _ => ?_)
  refine jw_iconst (v := 2) C dL_pieces_401 (by decide) ?_
  refine jw_icmp_ne C 548 dL_pieces_402 (by decide) (fun c => absurd (by decide) c) (fun _ => ?_)
  refine jw_aload_n C dL_pieces_405 rfl 0 rfl ?_
  refine jw_iconst (v := 0) C dL_pieces_406 (by decide) ?_
  refine jw_iconst (v := 2) C dL_pieces_407 (by decide) ?_
  refine jw_iconst (v := 3) C dL_pieces_408 (by decide) ?_
  refine jx_stone C XT hF trivial pc_O12 pc_v24 gL_pieces_X5_stone (Nat.le_of_ble_eq_true rfl) (Nat.le_of_ble_eq_true rfl) ⟨Nat.le_of_ble_eq_true rfl, Nat.le_of_ble_eq_true rfl⟩ (Nat.le_of_ble_eq_true rfl) dL_pieces_409 (fun μ hF _ => ?_)
  refine jw_iconst (v := 2) C dL_pieces_412 (by decide) ?_
  refine jw_icmp_ne C 548 dL_pieces_413 (by decide) (fun c => absurd (by decide) c) (fun _ => ?_)
  refine jw_aload_n C dL_pieces_416 rfl 0 rfl ?_
  refine jw_iconst (v := 0) C dL_pieces_417 (by decide) ?_
  refine jw_iconst (v := 2) C dL_pieces_418 (by decide) ?_
  refine jx_set C XT hF trivial pc_O12 pc_E13 gL_pieces_X5_set (Nat.le_of_ble_eq_true rfl) (Nat.le_of_ble_eq_true rfl) ⟨Nat.le_of_ble_eq_true rfl, Nat.le_of_ble_eq_true rfl⟩ (Nat.le_of_ble_eq_true rfl) dL_pieces_419 (fun μ hF _ => ?_)
  have hF := pc_R13 hF
  refine jw_bipush (v := 10) C dL_pieces_422 (by decide) ?_
  refine jw_icmp_ne C 548 dL_pieces_424 (by decide) (fun c => absurd (by decide) c) (fun _ => ?_)
  exact pc_S8 hN G C hF
set_option maxRecDepth 100000 in
set_option maxHeartbeats 4000000 in
theorem pc_S6 {K : KT} {l : Launch} {ad : Nat → Nat} (hN : kN K = 1) (G : CtxF K l cL_pieces RL wsL_pieces rmL_pieces EX5 (some .boolean) (fun v => v = some (.int (1 : Int32))) 88 3874) (C : Ctx K l cL_pieces RL wsL_pieces rmL_pieces shX ad) {μ : Mem} (hF : RepF μ pc_F9) : JW K (88, 3874) shX ad μ 328 [(0, .ref (ad 0))] [] := by
  refine jw_aload_n C dL_pieces_328 rfl 0 rfl ?_
  refine jw_iconst (v := 1) C dL_pieces_329 (by decide) ?_
  refine jw_iconst (v := 3) C dL_pieces_330 (by decide) ?_
  refine jw_iconst (v := 3) C dL_pieces_331 (by decide) ?_
  refine jw_sipush (v := 999) C dL_pieces_332 (by decide) ?_
  refine jx_send C XT hF trivial pc_O9 pc_E10 gL_pieces_X5_send (Nat.le_of_ble_eq_true rfl) (Nat.le_of_ble_eq_true rfl) ⟨Nat.le_of_ble_eq_true rfl, Nat.le_of_ble_eq_true rfl⟩ (Nat.le_of_ble_eq_true rfl) dL_pieces_335 (fun μ hF _ => ?_)
  have hF := pc_R10 hF
  refine jw_iconst (v := 4) C dL_pieces_338 (by decide) ?_
  refine jw_icmp_ne C 371 dL_pieces_339 (by decide) (fun c => absurd (by decide) c) (fun _ => ?_)
  refine jw_aload_n C dL_pieces_342 rfl 0 rfl ?_
  refine jw_iconst (v := 0) C dL_pieces_343 (by decide) ?_
  refine jw_iconst (v := 5) C dL_pieces_344 (by decide) ?_
  refine jx_node C XT hF trivial pc_O10 pc_v20 gL_pieces_X5_ofNode (Nat.le_of_ble_eq_true rfl) (Nat.le_of_ble_eq_true rfl) ⟨Nat.le_of_ble_eq_true rfl, Nat.le_of_ble_eq_true rfl⟩ (Nat.le_of_ble_eq_true rfl) dL_pieces_345 (fun μ hF _ => ?_)
  refine jw_if_ne C 371 dL_pieces_348 (by decide) (fun c => absurd (by decide) c) (fun _ => ?_)
  refine jw_aload_n C dL_pieces_351 rfl 0 rfl ?_
  refine jw_iconst (v := 3) C dL_pieces_352 (by decide) ?_
  refine jw_iconst (v := 1) C dL_pieces_353 (by decide) ?_
  refine jx_key C XT hF trivial pc_O10 pc_v21 gL_pieces_X5_ofKey (Nat.le_of_ble_eq_true rfl) (Nat.le_of_ble_eq_true rfl) ⟨Nat.le_of_ble_eq_true rfl, Nat.le_of_ble_eq_true rfl⟩ (Nat.le_of_ble_eq_true rfl) dL_pieces_354 (fun μ hF _ => ?_)
  refine jw_iconst (v := 1) C dL_pieces_357 (by decide) ?_
  refine jw_icmp_ne C 371 dL_pieces_358 (by decide) (fun c => absurd (by decide) c) (fun _ => ?_)
  refine jw_aload_n C dL_pieces_361 rfl 0 rfl ?_
  refine jw_iconst (v := 3) C dL_pieces_362 (by decide) ?_
  refine jw_iconst (v := 2) C dL_pieces_363 (by decide) ?_
  refine jx_key C XT hF trivial pc_O10 pc_v22 gL_pieces_X5_ofKey (Nat.le_of_ble_eq_true rfl) (Nat.le_of_ble_eq_true rfl) ⟨Nat.le_of_ble_eq_true rfl, Nat.le_of_ble_eq_true rfl⟩ (Nat.le_of_ble_eq_true rfl) dL_pieces_364 (fun μ hF _ => ?_)
  refine jw_iconst (v := 4) C dL_pieces_367 (by decide) ?_
  refine jw_icmp_eq C 373 dL_pieces_368 (by decide) (fun _ => ?_) (fun c => absurd (by decide) c)
  refine jw_aload_n C dL_pieces_373 rfl 0 rfl ?_
  refine jw_iconst (v := 1) C dL_pieces_374 (by decide) ?_
  refine jw_iconst (v := 1) C dL_pieces_375 (by decide) ?_
  refine jx_set C XT hF trivial pc_O10 pc_E11 gL_pieces_X5_set (Nat.le_of_ble_eq_true rfl) (Nat.le_of_ble_eq_true rfl) ⟨Nat.le_of_ble_eq_true rfl, Nat.le_of_ble_eq_true rfl⟩ (Nat.le_of_ble_eq_true rfl) dL_pieces_376 (fun μ hF _ => ?_)
  have hF := pc_R11 hF
  refine jw_if_ne C 548 dL_pieces_379 (by decide) (fun c => absurd (by decide) c) (fun _ => ?_)
  exact pc_S7 hN G C hF
set_option maxRecDepth 100000 in
set_option maxHeartbeats 4000000 in
theorem pc_S5 {K : KT} {l : Launch} {ad : Nat → Nat} (hN : kN K = 1) (G : CtxF K l cL_pieces RL wsL_pieces rmL_pieces EX5 (some .boolean) (fun v => v = some (.int (1 : Int32))) 88 3874) (C : Ctx K l cL_pieces RL wsL_pieces rmL_pieces shX ad) {μ : Mem} (hF : RepF μ pc_F5) : JW K (88, 3874) shX ad μ 283 [(0, .ref (ad 0))] [] := by
  refine jw_aload_n C dL_pieces_283 rfl 0 rfl ?_
  refine jw_iconst (v := 0) C dL_pieces_284 (by decide) ?_
  refine jw_bipush (v := 10) C dL_pieces_285 (by decide) ?_
  refine jx_set C XT hF trivial pc_O5 pc_E6 gL_pieces_X5_set (Nat.le_of_ble_eq_true rfl) (Nat.le_of_ble_eq_true rfl) ⟨Nat.le_of_ble_eq_true rfl, Nat.le_of_ble_eq_true rfl⟩ (Nat.le_of_ble_eq_true rfl) dL_pieces_287 (fun μ hF _ => ?_)
  have hF := pc_R6 hF
  refine jw_iconst (v := 1) C dL_pieces_290 (by decide) ?_
  refine jw_icmp_ne C 371 dL_pieces_291 (by decide) (fun c => absurd (by decide) c) (fun _ => ?_)
  refine jw_aload_n C dL_pieces_294 rfl 0 rfl ?_
  refine jw_iconst (v := 1) C dL_pieces_295 (by decide) ?_
  refine jw_iconst (v := 0) C dL_pieces_296 (by decide) ?_
  refine jx_set C XT hF trivial pc_O6 pc_E7 gL_pieces_X5_set (Nat.le_of_ble_eq_true rfl) (Nat.le_of_ble_eq_true rfl) ⟨Nat.le_of_ble_eq_true rfl, Nat.le_of_ble_eq_true rfl⟩ (Nat.le_of_ble_eq_true rfl) dL_pieces_297 (fun μ hF _ => ?_)
  have hF := pc_R7 hF
  refine jw_iconst (v := 1) C dL_pieces_300 (by decide) ?_
  refine jw_icmp_ne C 371 dL_pieces_301 (by decide) (fun c => absurd (by decide) c) (fun _ => ?_)
  refine jw_aload_n C dL_pieces_304 rfl 0 rfl ?_
  refine jw_iconst (v := 0) C dL_pieces_305 (by decide) ?_
  refine jw_iconst (v := 3) C dL_pieces_306 (by decide) ?_
  refine jw_iconst (v := 3) C dL_pieces_307 (by decide) ?_
  refine jw_iconst (v := 1) C dL_pieces_308 (by decide) ?_
  refine jx_send C XT hF trivial pc_O7 pc_E8 gL_pieces_X5_send (Nat.le_of_ble_eq_true rfl) (Nat.le_of_ble_eq_true rfl) ⟨Nat.le_of_ble_eq_true rfl, Nat.le_of_ble_eq_true rfl⟩ (Nat.le_of_ble_eq_true rfl) dL_pieces_309 (fun μ hF _ => ?_)
  have hF := pc_R8 hF
  refine jw_iconst (v := 2) C dL_pieces_312 (by decide) ?_
  refine jw_icmp_ne C 371 dL_pieces_313 (by decide) (fun c => absurd (by decide) c) (fun _ => ?_)
  refine jw_aload_n C dL_pieces_316 rfl 0 rfl ?_
  refine jw_iconst (v := 0) C dL_pieces_317 (by decide) ?_
  refine jw_iconst (v := 3) C dL_pieces_318 (by decide) ?_
  refine jw_iconst (v := 3) C dL_pieces_319 (by decide) ?_
  refine jw_iconst (v := 2) C dL_pieces_320 (by decide) ?_
  refine jx_send C XT hF trivial pc_O8 pc_E9 gL_pieces_X5_send (Nat.le_of_ble_eq_true rfl) (Nat.le_of_ble_eq_true rfl) ⟨Nat.le_of_ble_eq_true rfl, Nat.le_of_ble_eq_true rfl⟩ (Nat.le_of_ble_eq_true rfl) dL_pieces_321 (fun μ hF _ => ?_)
  have hF := pc_R9 hF
  refine jw_iconst (v := 3) C dL_pieces_324 (by decide) ?_
  refine jw_icmp_ne C 371 dL_pieces_325 (by decide) (fun c => absurd (by decide) c) (fun _ => ?_)
  exact pc_S6 hN G C hF
set_option maxRecDepth 100000 in
set_option maxHeartbeats 4000000 in
theorem pc_S4 {K : KT} {l : Launch} {ad : Nat → Nat} (hN : kN K = 1) (G : CtxF K l cL_pieces RL wsL_pieces rmL_pieces EX5 (some .boolean) (fun v => v = some (.int (1 : Int32))) 88 3874) (C : Ctx K l cL_pieces RL wsL_pieces rmL_pieces shX ad) {μ : Mem} (hF : RepF μ pc_F4) : JW K (88, 3874) shX ad μ 226 [(0, .ref (ad 0))] [] := by
  refine jw_aload_n C dL_pieces_226 rfl 0 rfl ?_
  refine jw_iconst (v := 2) C dL_pieces_227 (by decide) ?_
  refine jw_iconst (v := 0) C dL_pieces_228 (by decide) ?_
  refine jw_iconst (v := 2) C dL_pieces_229 (by decide) ?_
  refine jx_stone C XT hF trivial pc_O4 pc_v16 gL_pieces_X5_stone (Nat.le_of_ble_eq_true rfl) (Nat.le_of_ble_eq_true rfl) ⟨Nat.le_of_ble_eq_true rfl, Nat.le_of_ble_eq_true rfl⟩ (Nat.le_of_ble_eq_true rfl) dL_pieces_230 (fun μ hF _ => ?_)
  refine jw_bipush (v := 17) C dL_pieces_233 (by decide) ?_
  refine jw_icmp_ne C 264 dL_pieces_235 (by decide) (fun c => absurd (by decide) c) (fun _ => ?_)
  refine jw_aload_n C dL_pieces_238 rfl 0 rfl ?_
  refine jw_bipush (v := 7) C dL_pieces_239 (by decide) ?_
  refine jw_iconst (v := 0) C dL_pieces_241 (by decide) ?_
  refine jw_iconst (v := 1) C dL_pieces_242 (by decide) ?_
  refine jx_stone C XT hF trivial pc_O4 pc_v17 gL_pieces_X5_stone (Nat.le_of_ble_eq_true rfl) (Nat.le_of_ble_eq_true rfl) ⟨Nat.le_of_ble_eq_true rfl, Nat.le_of_ble_eq_true rfl⟩ (Nat.le_of_ble_eq_true rfl) dL_pieces_243 (fun μ hF _ => ?_)
  refine jw_bipush (v := 11) C dL_pieces_246 (by decide) ?_
  refine jw_icmp_ne C 264 dL_pieces_248 (by decide) (fun c => absurd (by decide) c) (fun _ => ?_)
  refine jw_aload_n C dL_pieces_251 rfl 0 rfl ?_
  refine jw_bipush (v := 7) C dL_pieces_252 (by decide) ?_
  refine jw_iconst (v := 0) C dL_pieces_254 (by decide) ?_
  refine jw_iconst (v := 2) C dL_pieces_255 (by decide) ?_
  refine jx_stone C XT hF trivial pc_O4 pc_v18 gL_pieces_X5_stone (Nat.le_of_ble_eq_true rfl) (Nat.le_of_ble_eq_true rfl) ⟨Nat.le_of_ble_eq_true rfl, Nat.le_of_ble_eq_true rfl⟩ (Nat.le_of_ble_eq_true rfl) dL_pieces_256 (fun μ hF _ => ?_)
  refine jw_bipush (v := 11) C dL_pieces_259 (by decide) ?_
  refine jw_icmp_eq C 266 dL_pieces_261 (by decide) (fun _ => ?_) (fun c => absurd (by decide) c)
  refine jw_aload_n C dL_pieces_266 rfl 0 rfl ?_
  refine jw_iconst (v := 1) C dL_pieces_267 (by decide) ?_
  refine jx_restore C XT hF trivial pc_O4 pc_E5 gL_pieces_X5_restore (Nat.le_of_ble_eq_true rfl) (Nat.le_of_ble_eq_true rfl) ⟨Nat.le_of_ble_eq_true rfl, Nat.le_of_ble_eq_true rfl⟩ (Nat.le_of_ble_eq_true rfl) dL_pieces_268 (fun μ hF _ => ?_)
  refine jw_iconst (v := 1) C dL_pieces_271 (by decide) ?_
  refine jw_icmp_ne C 371 dL_pieces_272 (by decide) (fun c => absurd (by decide) c) (fun _ => ?_)
  refine jw_aload_n C dL_pieces_275 rfl 0 rfl ?_
  refine jw_iconst (v := 2) C dL_pieces_276 (by decide) ?_
  refine jx_count C XT hF trivial pc_O5 pc_v19 gL_pieces_X5_count (Nat.le_of_ble_eq_true rfl) (Nat.le_of_ble_eq_true rfl) ⟨Nat.le_of_ble_eq_true rfl, Nat.le_of_ble_eq_true rfl⟩ (Nat.le_of_ble_eq_true rfl) dL_pieces_277 (fun μ hF _ => ?_)
  refine jw_if_ne C 371 dL_pieces_280 (by decide) (fun c => absurd (by decide) c) (fun _ => ?_)
  exact pc_S5 hN G C hF
set_option maxRecDepth 100000 in
set_option maxHeartbeats 4000000 in
theorem pc_S3 {K : KT} {l : Launch} {ad : Nat → Nat} (hN : kN K = 1) (G : CtxF K l cL_pieces RL wsL_pieces rmL_pieces EX5 (some .boolean) (fun v => v = some (.int (1 : Int32))) 88 3874) (C : Ctx K l cL_pieces RL wsL_pieces rmL_pieces shX ad) {μ : Mem} (hF : RepF μ pc_F4) : JW K (88, 3874) shX ad μ 169 [(0, .ref (ad 0))] [] := by
  refine jw_aload_n C dL_pieces_169 rfl 0 rfl ?_
  refine jw_iconst (v := 2) C dL_pieces_170 (by decide) ?_
  refine jw_iconst (v := 3) C dL_pieces_171 (by decide) ?_
  refine jx_node C XT hF trivial pc_O4 pc_v11 gL_pieces_X5_ofNode (Nat.le_of_ble_eq_true rfl) (Nat.le_of_ble_eq_true rfl) ⟨Nat.le_of_ble_eq_true rfl, Nat.le_of_ble_eq_true rfl⟩ (Nat.le_of_ble_eq_true rfl) dL_pieces_172 (fun μ hF _ => ?_)
  refine jw_iconst (v := 1) C dL_pieces_175 (by decide) ?_
  refine jw_icmp_ne C 264 dL_pieces_176 (by decide) (fun c => absurd (by decide) c) (fun _ => ?_)
  refine jw_aload_n C dL_pieces_179 rfl 0 rfl ?_
  refine jw_bipush (v := 7) C dL_pieces_180 (by decide) ?_
  refine jw_iconst (v := 3) C dL_pieces_182 (by decide) ?_
  refine jx_node C XT hF trivial pc_O4 pc_v12 gL_pieces_X5_ofNode (Nat.le_of_ble_eq_true rfl) (Nat.le_of_ble_eq_true rfl) ⟨Nat.le_of_ble_eq_true rfl, Nat.le_of_ble_eq_true rfl⟩ (Nat.le_of_ble_eq_true rfl) dL_pieces_183 (fun μ hF _ => ?_)
  refine jw_iconst (v := 2) C dL_pieces_186 (by decide) ?_
  refine jw_icmp_ne C 264 dL_pieces_187 (by decide) (fun c => absurd (by decide) c) (fun _ => ?_)
  refine jw_aload_n C dL_pieces_190 rfl 0 rfl ?_
  refine jw_iconst (v := 0) C dL_pieces_191 (by decide) ?_
  refine jw_iconst (v := 0) C dL_pieces_192 (by decide) ?_
  refine jw_iconst (v := 1) C dL_pieces_193 (by decide) ?_
  refine jx_stone C XT hF trivial pc_O4 pc_v13 gL_pieces_X5_stone (Nat.le_of_ble_eq_true rfl) (Nat.le_of_ble_eq_true rfl) ⟨Nat.le_of_ble_eq_true rfl, Nat.le_of_ble_eq_true rfl⟩ (Nat.le_of_ble_eq_true rfl) dL_pieces_194 (fun μ hF _ => ?_)
  refine jw_bipush (v := 18) C dL_pieces_197 (by decide) ?_
  refine jw_icmp_ne C 264 dL_pieces_199 (by decide) (fun c => absurd (by decide) c) (fun _ => ?_)
  refine jw_aload_n C dL_pieces_202 rfl 0 rfl ?_
  refine jw_iconst (v := 1) C dL_pieces_203 (by decide) ?_
  refine jw_iconst (v := 0) C dL_pieces_204 (by decide) ?_
  refine jw_iconst (v := 2) C dL_pieces_205 (by decide) ?_
  refine jx_stone C XT hF trivial pc_O4 pc_v14 gL_pieces_X5_stone (Nat.le_of_ble_eq_true rfl) (Nat.le_of_ble_eq_true rfl) ⟨Nat.le_of_ble_eq_true rfl, Nat.le_of_ble_eq_true rfl⟩ (Nat.le_of_ble_eq_true rfl) dL_pieces_206 (fun μ hF _ => ?_)
  refine jw_bipush (v := 8) C dL_pieces_209 (by decide) ?_
  refine jw_icmp_ne C 264 dL_pieces_211 (by decide) (fun c => absurd (by decide) c) (fun _ => ?_)
  refine jw_aload_n C dL_pieces_214 rfl 0 rfl ?_
  refine jw_iconst (v := 2) C dL_pieces_215 (by decide) ?_
  refine jw_iconst (v := 0) C dL_pieces_216 (by decide) ?_
  refine jw_iconst (v := 1) C dL_pieces_217 (by decide) ?_
  refine jx_stone C XT hF trivial pc_O4 pc_v15 gL_pieces_X5_stone (Nat.le_of_ble_eq_true rfl) (Nat.le_of_ble_eq_true rfl) ⟨Nat.le_of_ble_eq_true rfl, Nat.le_of_ble_eq_true rfl⟩ (Nat.le_of_ble_eq_true rfl) dL_pieces_218 (fun μ hF _ => ?_)
  refine jw_bipush (v := 12) C dL_pieces_221 (by decide) ?_
  refine jw_icmp_ne C 264 dL_pieces_223 (by decide) (fun c => absurd (by decide) c) (fun _ => ?_)
  exact pc_S4 hN G C hF
set_option maxRecDepth 100000 in
set_option maxHeartbeats 4000000 in
theorem pc_S2 {K : KT} {l : Launch} {ad : Nat → Nat} (hN : kN K = 1) (G : CtxF K l cL_pieces RL wsL_pieces rmL_pieces EX5 (some .boolean) (fun v => v = some (.int (1 : Int32))) 88 3874) (C : Ctx K l cL_pieces RL wsL_pieces rmL_pieces shX ad) {μ : Mem} (hF : RepF μ pc_F4) : JW K (88, 3874) shX ad μ 118 [(0, .ref (ad 0))] [] := by
  refine jw_aload_n C dL_pieces_118 rfl 0 rfl ?_
  refine jw_iconst (v := 2) C dL_pieces_119 (by decide) ?_
  refine jx_count C XT hF trivial pc_O4 pc_v6 gL_pieces_X5_count (Nat.le_of_ble_eq_true rfl) (Nat.le_of_ble_eq_true rfl) ⟨Nat.le_of_ble_eq_true rfl, Nat.le_of_ble_eq_true rfl⟩ (Nat.le_of_ble_eq_true rfl) dL_pieces_120 (fun μ hF _ => ?_)
  refine jw_bipush (v := 8) C dL_pieces_123 (by decide) ?_
  refine jw_icmp_ne C 264 dL_pieces_125 (by decide) (fun c => absurd (by decide) c) (fun _ => ?_)
  refine jw_aload_n C dL_pieces_128 rfl 0 rfl ?_
  refine jw_iconst (v := 3) C dL_pieces_129 (by decide) ?_
  refine jx_count C XT hF trivial pc_O4 pc_v7 gL_pieces_X5_count (Nat.le_of_ble_eq_true rfl) (Nat.le_of_ble_eq_true rfl) ⟨Nat.le_of_ble_eq_true rfl, Nat.le_of_ble_eq_true rfl⟩ (Nat.le_of_ble_eq_true rfl) dL_pieces_130 (fun μ hF _ => ?_)
  refine jw_iconst (v := 3) C dL_pieces_133 (by decide) ?_
  refine jw_icmp_ne C 264 dL_pieces_134 (by decide) (fun c => absurd (by decide) c) (fun _ => ?_)
  refine jw_aload_n C dL_pieces_137 rfl 0 rfl ?_
  refine jw_bipush (v := 10) C dL_pieces_138 (by decide) ?_
  refine jw_iconst (v := 0) C dL_pieces_140 (by decide) ?_
  refine jx_key C XT hF trivial pc_O4 pc_v8 gL_pieces_X5_ofKey (Nat.le_of_ble_eq_true rfl) (Nat.le_of_ble_eq_true rfl) ⟨Nat.le_of_ble_eq_true rfl, Nat.le_of_ble_eq_true rfl⟩ (Nat.le_of_ble_eq_true rfl) dL_pieces_141 (fun μ hF _ => ?_)
  refine jw_bipush (v := 7) C dL_pieces_144 (by decide) ?_
  refine jw_icmp_ne C 264 dL_pieces_146 (by decide) (fun c => absurd (by decide) c) (fun _ => ?_)
  refine jw_aload_n C dL_pieces_149 rfl 0 rfl ?_
  refine jw_iconst (v := 0) C dL_pieces_150 (by decide) ?_
  refine jw_iconst (v := 3) C dL_pieces_151 (by decide) ?_
  refine jx_node C XT hF trivial pc_O4 pc_v9 gL_pieces_X5_ofNode (Nat.le_of_ble_eq_true rfl) (Nat.le_of_ble_eq_true rfl) ⟨Nat.le_of_ble_eq_true rfl, Nat.le_of_ble_eq_true rfl⟩ (Nat.le_of_ble_eq_true rfl) dL_pieces_152 (fun μ hF _ => ?_)
  refine jw_iconst (v := 2) C dL_pieces_155 (by decide) ?_
  refine jw_icmp_ne C 264 dL_pieces_156 (by decide) (fun c => absurd (by decide) c) (fun _ => ?_)
  refine jw_aload_n C dL_pieces_159 rfl 0 rfl ?_
  refine jw_iconst (v := 0) C dL_pieces_160 (by decide) ?_
  refine jw_iconst (v := 4) C dL_pieces_161 (by decide) ?_
  refine jx_node C XT hF trivial pc_O4 pc_v10 gL_pieces_X5_ofNode (Nat.le_of_ble_eq_true rfl) (Nat.le_of_ble_eq_true rfl) ⟨Nat.le_of_ble_eq_true rfl, Nat.le_of_ble_eq_true rfl⟩ (Nat.le_of_ble_eq_true rfl) dL_pieces_162 (fun μ hF _ => ?_)
  refine jw_iconst (v := 3) C dL_pieces_165 (by decide) ?_
  refine jw_icmp_ne C 264 dL_pieces_166 (by decide) (fun c => absurd (by decide) c) (fun _ => ?_)
  exact pc_S3 hN G C hF
set_option maxRecDepth 100000 in
set_option maxHeartbeats 4000000 in
theorem pc_S1 {K : KT} {l : Launch} {ad : Nat → Nat} (hN : kN K = 1) (G : CtxF K l cL_pieces RL wsL_pieces rmL_pieces EX5 (some .boolean) (fun v => v = some (.int (1 : Int32))) 88 3874) (C : Ctx K l cL_pieces RL wsL_pieces rmL_pieces shX ad) {μ : Mem} (hF : RepF μ pc_F2) : JW K (88, 3874) shX ad μ 61 [(0, .ref (ad 0))] [] := by
  refine jw_aload_n C dL_pieces_61 rfl 0 rfl ?_
  refine jw_bipush (v := 10) C dL_pieces_62 (by decide) ?_
  refine jx_would C XT hF trivial pc_O2 pc_v3 gL_pieces_X5_wouldSink (Nat.le_of_ble_eq_true rfl) (Nat.le_of_ble_eq_true rfl) ⟨Nat.le_of_ble_eq_true rfl, Nat.le_of_ble_eq_true rfl⟩ (Nat.le_of_ble_eq_true rfl) dL_pieces_64 (fun μ hF _ => ?_)
  refine jw_bipush (v := 8) C dL_pieces_67 (by decide) ?_
  refine jw_icmp_ne C 101 dL_pieces_69 (by decide) (fun c => absurd (by decide) c) (fun _ => ?_)
  refine jw_aload_n C dL_pieces_72 rfl 0 rfl ?_
  refine jw_iconst (v := 0) C dL_pieces_73 (by decide) ?_
  refine jx_worst C XT hF trivial pc_O2 pc_v4 gL_pieces_X5_worstKey (Nat.le_of_ble_eq_true rfl) (Nat.le_of_ble_eq_true rfl) ⟨Nat.le_of_ble_eq_true rfl, Nat.le_of_ble_eq_true rfl⟩ (Nat.le_of_ble_eq_true rfl) dL_pieces_74 (fun μ hF _ => ?_)
  refine jw_bipush (v := 13) C dL_pieces_77 (by decide) ?_
  refine jw_icmp_ne C 101 dL_pieces_79 (by decide) (fun c => absurd (by decide) c) (fun _ => ?_)
  refine jw_aload_n C dL_pieces_82 rfl 0 rfl ?_
  refine jw_iconst (v := 1) C dL_pieces_83 (by decide) ?_
  refine jx_worst C XT hF trivial pc_O2 pc_v5 gL_pieces_X5_worstKey (Nat.le_of_ble_eq_true rfl) (Nat.le_of_ble_eq_true rfl) ⟨Nat.le_of_ble_eq_true rfl, Nat.le_of_ble_eq_true rfl⟩ (Nat.le_of_ble_eq_true rfl) dL_pieces_84 (fun μ hF _ => ?_)
  refine jw_bipush (v := 9) C dL_pieces_87 (by decide) ?_
  refine jw_icmp_ne C 101 dL_pieces_89 (by decide) (fun c => absurd (by decide) c) (fun _ => ?_)
  refine jw_aload_n C dL_pieces_92 rfl 0 rfl ?_
  refine jw_iconst (v := 1) C dL_pieces_93 (by decide) ?_
  refine jx_save C XT hF trivial pc_O2 pc_E3 gL_pieces_X5_save (Nat.le_of_ble_eq_true rfl) (Nat.le_of_ble_eq_true rfl) ⟨Nat.le_of_ble_eq_true rfl, Nat.le_of_ble_eq_true rfl⟩ (Nat.le_of_ble_eq_true rfl) dL_pieces_94 (fun μ hF _ => ?_)
  refine jw_iconst (v := 1) C dL_pieces_97 (by decide) ?_
  refine jw_icmp_eq C 103 dL_pieces_98 (by decide) (fun _ => ?_) (fun c => absurd (by decide) c)
  refine jw_aload_n C dL_pieces_103 rfl 0 rfl ?_
  refine jw_iconst (v := 0) C dL_pieces_104 (by decide) ?_
  refine jw_bipush (v := 10) C dL_pieces_105 (by decide) ?_
  refine jw_bipush (v := 10) C dL_pieces_107 (by decide) ?_
  refine jw_bipush (v := 7) C dL_pieces_109 (by decide) ?_
  refine jx_send C XT hF trivial pc_O3 pc_E4 gL_pieces_X5_send (Nat.le_of_ble_eq_true rfl) (Nat.le_of_ble_eq_true rfl) ⟨Nat.le_of_ble_eq_true rfl, Nat.le_of_ble_eq_true rfl⟩ (Nat.le_of_ble_eq_true rfl) dL_pieces_111 (fun μ hF _ => ?_)
  have hF := pc_R4 hF
  refine jw_iconst (v := 4) C dL_pieces_114 (by decide) ?_
  refine jw_icmp_ne C 264 dL_pieces_115 (by decide) (fun c => absurd (by decide) c) (fun _ => ?_)
  exact pc_S2 hN G C hF
set_option maxRecDepth 100000 in
set_option maxHeartbeats 4000000 in
theorem pc_S0 {K : KT} {l : Launch} (hN : kN K = 1) (G : CtxF K l cL_pieces RL wsL_pieces rmL_pieces EX5 (some .boolean) (fun v => v = some (.int (1 : Int32))) 88 3874) (C : Ctx K l cL_pieces RL wsL_pieces rmL_pieces [] (fun _ => 0)) : JW K (0, 0) [] (fun _ => 0) μ0 0 [] [] := by
  have hN_0 : 0 < kN K := by rw [hN]; decide
  refine jw_mkX (rest := []) C G.2.2.2.2.1 (List.mem_of_getElem? (i := 1) rfl) (List.mem_of_getElem? (i := 2) rfl) (List.mem_of_getElem? (i := 3) rfl) iwL_pieces gL_pieces_X5_init (List.mem_of_getElem? (i := 4) rfl) (List.mem_of_getElem? (i := 5) rfl) (Nat.le_of_ble_eq_true rfl) (Nat.le_of_ble_eq_true rfl) (Nat.le_of_ble_eq_true rfl) (Nat.le_of_ble_eq_true rfl) (by decide) dL_pieces_0 rfl dL_pieces_3 rfl dL_pieces_4 (fun ad μ C hF _ => ?_)
  refine jw_astore_n (lw := [(0, .ref _)]) C dL_pieces_7 rfl hN_0 rfl ?_
  refine jw_aload_n C dL_pieces_8 rfl 0 rfl ?_
  refine jw_iconst (v := 0) C dL_pieces_9 (by decide) ?_
  refine jw_iconst (v := 1) C dL_pieces_10 (by decide) ?_
  refine jx_set C XT hF trivial F00_ok pc_E1 gL_pieces_X5_set (Nat.le_of_ble_eq_true rfl) (Nat.le_of_ble_eq_true rfl) ⟨Nat.le_of_ble_eq_true rfl, Nat.le_of_ble_eq_true rfl⟩ (Nat.le_of_ble_eq_true rfl) dL_pieces_11 (fun μ hF _ => ?_)
  have hF := pc_R1 hF
  refine jw_iconst (v := 4) C dL_pieces_14 (by decide) ?_
  refine jw_icmp_ne C 101 dL_pieces_15 (by decide) (fun c => absurd (by decide) c) (fun _ => ?_)
  refine jw_aload_n C dL_pieces_18 rfl 0 rfl ?_
  refine jw_iconst (v := 1) C dL_pieces_19 (by decide) ?_
  refine jw_iconst (v := 0) C dL_pieces_20 (by decide) ?_
  refine jw_bipush (v := 26) C dL_pieces_21 (by decide) ?_
  refine jw_iconst (v := 5) C dL_pieces_23 (by decide) ?_
  refine jx_send C XT hF trivial pc_O1 pc_E2 gL_pieces_X5_send (Nat.le_of_ble_eq_true rfl) (Nat.le_of_ble_eq_true rfl) ⟨Nat.le_of_ble_eq_true rfl, Nat.le_of_ble_eq_true rfl⟩ (Nat.le_of_ble_eq_true rfl) dL_pieces_24 (fun μ hF _ => ?_)
  have hF := pc_R2 hF
  refine jw_iconst (v := 1) C dL_pieces_27 (by decide) ?_
  refine jw_icmp_ne C 101 dL_pieces_28 (by decide) (fun c => absurd (by decide) c) (fun _ => ?_)
  refine jw_aload_n C dL_pieces_31 rfl 0 rfl ?_
  refine jw_iconst (v := 0) C dL_pieces_32 (by decide) ?_
  refine jx_would C XT hF trivial pc_O2 pc_v0 gL_pieces_X5_wouldSink (Nat.le_of_ble_eq_true rfl) (Nat.le_of_ble_eq_true rfl) ⟨Nat.le_of_ble_eq_true rfl, Nat.le_of_ble_eq_true rfl⟩ (Nat.le_of_ble_eq_true rfl) dL_pieces_33 (fun μ hF _ => ?_)
  refine jw_bipush (v := 6) C dL_pieces_36 (by decide) ?_
  refine jw_icmp_ne C 101 dL_pieces_38 (by decide) (fun c => absurd (by decide) c) (fun _ => ?_)
  refine jw_aload_n C dL_pieces_41 rfl 0 rfl ?_
  refine jw_iconst (v := 1) C dL_pieces_42 (by decide) ?_
  refine jx_would C XT hF trivial pc_O2 pc_v1 gL_pieces_X5_wouldSink (Nat.le_of_ble_eq_true rfl) (Nat.le_of_ble_eq_true rfl) ⟨Nat.le_of_ble_eq_true rfl, Nat.le_of_ble_eq_true rfl⟩ (Nat.le_of_ble_eq_true rfl) dL_pieces_43 (fun μ hF _ => ?_)
  refine jw_bipush (v := 7) C dL_pieces_46 (by decide) ?_
  refine jw_icmp_ne C 101 dL_pieces_48 (by decide) (fun c => absurd (by decide) c) (fun _ => ?_)
  refine jw_aload_n C dL_pieces_51 rfl 0 rfl ?_
  refine jw_iconst (v := 4) C dL_pieces_52 (by decide) ?_
  refine jx_would C XT hF trivial pc_O2 pc_v2 gL_pieces_X5_wouldSink (Nat.le_of_ble_eq_true rfl) (Nat.le_of_ble_eq_true rfl) ⟨Nat.le_of_ble_eq_true rfl, Nat.le_of_ble_eq_true rfl⟩ (Nat.le_of_ble_eq_true rfl) dL_pieces_53 (fun μ hF _ => ?_)
  refine jw_bipush (v := 8) C dL_pieces_56 (by decide) ?_
  refine jw_icmp_ne C 101 dL_pieces_58 (by decide) (fun c => absurd (by decide) c) (fun _ => ?_)
  exact pc_S1 hN G C hF
theorem cn_pieces (l : Launch) : ConF l yL_pieces wsL_pieces rmL_pieces EX5 [] (fun v => v = some (.int (1 : Int32))) 88 3874 := ConF.mk (cc := cL_pieces) (maxL := 1) (ret := (some .boolean)) (own := RL) (by decide) rfl rfl (Nat.le_of_ble_eq_true rfl) (fun K hN G => pc_S0 hN G G.1)
