/-! refused calls, on any state -/
theorem idx_m1 (m : Nat) : idx m (-1) = none := by
  unfold idx
  rw [if_pos (by decide)]
theorem len_0 {F : FS} (hok : FOk F) : seLen F.1 0 ≤ 22 := WOk_len hok.1.2.2.2 0 (by decide)
theorem idx_len {F : FS} (hok : FOk F) : idx ((sWT F).1 0).1.length (nI (seLen F.1 0)) = none := by
  have h := len_0 hok
  show idx (seLen F.1 0) (nI (seLen F.1 0)) = none
  unfold idx
  rw [if_neg (nI_pos (by omega)), if_neg (nI_nlt (Nat.le_refl _) (show seLen F.1 0 < 2 ^ 31 by omega))]
theorem idx_pos {F : FS} (hok : FOk F) (c : ¬ nI (seLen F.1 0) ≤ 0) : idx ((sWT F).1 0).1.length 0 = some 0 := by
  have h := len_0 hok
  have h0 : 0 < seLen F.1 0 := Nat.pos_of_ne_zero (fun e => c (by rw [e]; decide))
  exact idx_nI (m := seLen F.1 0) (k := 0) (by omega) h0
abbrev rmL_refused : Room := { frames := 35, cells := 0, slots := 0, locals := 1300 }
theorem miL_refused : MI yL_refused wsL_refused cL_refused 9 (some .boolean) 1 := ⟨⟨_, rfl⟩, by decide, by decide, by decide +kernel⟩
set_option maxRecDepth 100000 in
set_option maxHeartbeats 4000000 in
theorem rf_S18 {K : KT} {l : Launch} {ad : Nat → Nat} {F : FS} (hN : kN K = 9) (G : CtxM K l cL_refused RL wsL_refused rmL_refused shX ad (some .boolean) (pI fun r μ' => r = 1 ∧ RepF μ' F)) (hok : FOk F) {μ : Mem} (hF : RepF μ F) : JW K (0, 0) shX ad μ 613 [(5, .int (2 : Int32)), (8, .int (-1 : Int32)), (7, .int (-1 : Int32)), (6, .int (-1 : Int32)), (4, .int (fCount 6 F)), (3, .int (fCount 7 F)), (1, .long (fSeen F.1)), (0, .ref (ad 0))] [] := by
  refine jw_aload_n G.1 dL_refused_613 rfl 7 rfl ?_
  refine jw_ldc2 (v := (-1)) G.1 (List.mem_of_getElem? (i := 5) rfl) dL_refused_614 ?_
  refine jx_put G.1 XT hF trivial hok (fPut_bad (by decide +kernel)) gL_refused_X5_put (Nat.le_of_ble_eq_true rfl) (Nat.le_of_ble_eq_true rfl) ⟨Nat.zero_le _, Nat.zero_le _⟩ (Nat.le_of_ble_eq_true rfl) dL_refused_617 (fun μ hF _ => ?_)
  refine jw_bipush (v := (-2)) G.1 dL_refused_620 (by decide) ?_
  refine jw_icmp_eq G.1 627 dL_refused_622 (by decide) (fun _ => ?_) (fun c => absurd (by decide) c)
  refine jw_aload_n G.1 dL_refused_627 rfl 7 rfl ?_
  refine jx_seen G.1 XT hF trivial hok gL_refused_L_seen (Nat.le_of_ble_eq_true rfl) (Nat.le_of_ble_eq_true rfl) ⟨Nat.zero_le _, Nat.zero_le _⟩ (Nat.le_of_ble_eq_true rfl) dL_refused_628 (fun μ hF _ => ?_)
  refine jw_lload_n G.1 dL_refused_631 rfl 6 rfl ?_
  refine jw_lcmp G.1 dL_refused_632 ?_
  refine jw_if_ne G.1 661 dL_refused_633 (by decide) (fun c => absurd ((lg_cmp_eq _ _).mpr rfl) c) (fun _ => ?_)
  refine jw_aload_n G.1 dL_refused_636 rfl 7 rfl ?_
  refine jw_bipush (v := 7) G.1 dL_refused_637 (by decide) ?_
  refine jx_count G.1 XT hF trivial hok (show fCount 7 F = fCount 7 F from rfl) gL_refused_X5_count (Nat.le_of_ble_eq_true rfl) (Nat.le_of_ble_eq_true rfl) ⟨Nat.zero_le _, Nat.zero_le _⟩ (Nat.le_of_ble_eq_true rfl) dL_refused_639 (fun μ hF _ => ?_)
  refine jw_iload_n G.1 dL_refused_642 rfl 5 rfl ?_
  refine jw_icmp_ne G.1 661 dL_refused_643 (by decide) (fun c => absurd rfl c) (fun _ => ?_)
  refine jw_aload_n G.1 dL_refused_646 rfl 7 rfl ?_
  refine jw_bipush (v := 6) G.1 dL_refused_647 (by decide) ?_
  refine jx_count G.1 XT hF trivial hok (show fCount 6 F = fCount 6 F from rfl) gL_refused_X5_count (Nat.le_of_ble_eq_true rfl) (Nat.le_of_ble_eq_true rfl) ⟨Nat.zero_le _, Nat.zero_le _⟩ (Nat.le_of_ble_eq_true rfl) dL_refused_649 (fun μ hF _ => ?_)
  refine jw_iload G.1 dL_refused_652 4 rfl ?_
  refine jw_icmp_ne G.1 661 dL_refused_654 (by decide) (fun c => absurd rfl c) (fun _ => ?_)
  refine jw_iconst (v := 1) G.1 dL_refused_657 (by decide) ?_
  refine jw_goto (tgt := 662) G.1 dL_refused_658 (by decide) ?_
  exact jw_zret (Q := fun r μ' => r = 1 ∧ RepF μ' F) G rfl ⟨rfl, hF⟩ dL_refused_662
set_option maxRecDepth 100000 in
set_option maxHeartbeats 4000000 in
theorem rf_S17 {K : KT} {l : Launch} {ad : Nat → Nat} {F : FS} (hN : kN K = 9) (G : CtxM K l cL_refused RL wsL_refused rmL_refused shX ad (some .boolean) (pI fun r μ' => r = 1 ∧ RepF μ' F)) (hok : FOk F) {μ : Mem} (hF : RepF μ F) : JW K (0, 0) shX ad μ 549 [(8, .int (-1 : Int32)), (7, .int (-1 : Int32)), (6, .int (-1 : Int32)), (5, .int (1 : Int32)), (4, .int (fCount 6 F)), (3, .int (fCount 7 F)), (1, .long (fSeen F.1)), (0, .ref (ad 0))] [] := by
  have hN_5 : 5 < kN K := by rw [hN]; decide
  refine jw_iinc (lw := [(5, .int _), (8, .int _), (7, .int _), (6, .int _), (4, .int _), (3, .int _), (1, .long _), (0, .ref _)]) (q := 3) (v := 2) G.1 dL_refused_549 rfl (by decide) hN_5 rfl ?_
  refine jw_goto (tgt := 23) G.1 dL_refused_552 (by decide) ?_
  refine jw_iload G.1 dL_refused_23 0 rfl ?_
  refine jw_iconst (v := 2) G.1 dL_refused_25 (by decide) ?_
  refine jw_icmp_ge G.1 555 dL_refused_26 (by decide) (fun _ => ?_) (fun c => absurd (by decide) c)
  refine jw_aload_n G.1 dL_refused_555 rfl 7 rfl ?_
  refine jw_lconst G.1 dL_refused_556 (v := 0) rfl ?_
  refine jx_put G.1 XT hF trivial hok (fPut_bad (by decide +kernel)) gL_refused_X5_put (Nat.le_of_ble_eq_true rfl) (Nat.le_of_ble_eq_true rfl) ⟨Nat.zero_le _, Nat.zero_le _⟩ (Nat.le_of_ble_eq_true rfl) dL_refused_557 (fun μ hF _ => ?_)
  refine jw_bipush (v := (-2)) G.1 dL_refused_560 (by decide) ?_
  refine jw_icmp_ne G.1 625 dL_refused_562 (by decide) (fun c => absurd (by decide) c) (fun _ => ?_)
  refine jw_aload_n G.1 dL_refused_565 rfl 7 rfl ?_
  refine jw_ldc2 (v := 32) G.1 (List.mem_of_getElem? (i := 1) rfl) dL_refused_566 ?_
  refine jx_put G.1 XT hF trivial hok (fPut_bad (by decide +kernel)) gL_refused_X5_put (Nat.le_of_ble_eq_true rfl) (Nat.le_of_ble_eq_true rfl) ⟨Nat.zero_le _, Nat.zero_le _⟩ (Nat.le_of_ble_eq_true rfl) dL_refused_569 (fun μ hF _ => ?_)
  refine jw_bipush (v := (-2)) G.1 dL_refused_572 (by decide) ?_
  refine jw_icmp_ne G.1 625 dL_refused_574 (by decide) (fun c => absurd (by decide) c) (fun _ => ?_)
  refine jw_aload_n G.1 dL_refused_577 rfl 7 rfl ?_
  refine jw_ldc2 (v := 127) G.1 (List.mem_of_getElem? (i := 2) rfl) dL_refused_578 ?_
  refine jx_put G.1 XT hF trivial hok (fPut_bad (by decide +kernel)) gL_refused_X5_put (Nat.le_of_ble_eq_true rfl) (Nat.le_of_ble_eq_true rfl) ⟨Nat.zero_le _, Nat.zero_le _⟩ (Nat.le_of_ble_eq_true rfl) dL_refused_581 (fun μ hF _ => ?_)
  refine jw_bipush (v := (-2)) G.1 dL_refused_584 (by decide) ?_
  refine jw_icmp_ne G.1 625 dL_refused_586 (by decide) (fun c => absurd (by decide) c) (fun _ => ?_)
  refine jw_aload_n G.1 dL_refused_589 rfl 7 rfl ?_
  refine jw_ldc2 (v := 3473461) G.1 (List.mem_of_getElem? (i := 3) rfl) dL_refused_590 ?_
  refine jx_put G.1 XT hF trivial hok (fPut_bad (by decide +kernel)) gL_refused_X5_put (Nat.le_of_ble_eq_true rfl) (Nat.le_of_ble_eq_true rfl) ⟨Nat.zero_le _, Nat.zero_le _⟩ (Nat.le_of_ble_eq_true rfl) dL_refused_593 (fun μ hF _ => ?_)
  refine jw_bipush (v := (-2)) G.1 dL_refused_596 (by decide) ?_
  refine jw_icmp_ne G.1 625 dL_refused_598 (by decide) (fun c => absurd (by decide) c) (fun _ => ?_)
  refine jw_aload_n G.1 dL_refused_601 rfl 7 rfl ?_
  refine jw_ldc2 (v := 13568) G.1 (List.mem_of_getElem? (i := 4) rfl) dL_refused_602 ?_
  refine jx_put G.1 XT hF trivial hok (fPut_bad (by decide +kernel)) gL_refused_X5_put (Nat.le_of_ble_eq_true rfl) (Nat.le_of_ble_eq_true rfl) ⟨Nat.zero_le _, Nat.zero_le _⟩ (Nat.le_of_ble_eq_true rfl) dL_refused_605 (fun μ hF _ => ?_)
  refine jw_bipush (v := (-2)) G.1 dL_refused_608 (by decide) ?_
  refine jw_icmp_ne G.1 625 dL_refused_610 (by decide) (fun c => absurd (by decide) c) (fun _ => ?_)
  exact rf_S18 hN G hok hF
set_option maxRecDepth 100000 in
set_option maxHeartbeats 4000000 in
theorem rf_S16 {K : KT} {l : Launch} {ad : Nat → Nat} {F : FS} (hN : kN K = 9) (G : CtxM K l cL_refused RL wsL_refused rmL_refused shX ad (some .boolean) (pI fun r μ' => r = 1 ∧ RepF μ' F)) (hok : FOk F) {μ : Mem} (hF : RepF μ F) : JW K (0, 0) shX ad μ 504 [(8, .int (-1 : Int32)), (7, .int (-1 : Int32)), (6, .int (-1 : Int32)), (5, .int (1 : Int32)), (4, .int (fCount 6 F)), (3, .int (fCount 7 F)), (1, .long (fSeen F.1)), (0, .ref (ad 0))] [] := by
  refine jw_aload_n G.1 dL_refused_504 rfl 7 rfl ?_
  refine jw_iload G.1 dL_refused_505 0 rfl ?_
  refine jx_restore G.1 XT hF trivial hok (z_rest (by decide +kernel)) gL_refused_X5_restore (Nat.le_of_ble_eq_true rfl) (Nat.le_of_ble_eq_true rfl) ⟨Nat.zero_le _, Nat.zero_le _⟩ (Nat.le_of_ble_eq_true rfl) dL_refused_507 (fun μ hF _ => ?_)
  refine jw_bipush (v := (-2)) G.1 dL_refused_510 (by decide) ?_
  refine jw_icmp_eq G.1 517 dL_refused_512 (by decide) (fun _ => ?_) (fun c => absurd (by decide) c)
  refine jw_aload_n G.1 dL_refused_517 rfl 7 rfl ?_
  refine jw_iconst (v := 0) G.1 dL_refused_518 (by decide) ?_
  refine jw_iconst (v := 0) G.1 dL_refused_519 (by decide) ?_
  refine jx_node G.1 XT hF trivial hok (node_0 (n := 0) (by decide)) gL_refused_X5_ofNode (Nat.le_of_ble_eq_true rfl) (Nat.le_of_ble_eq_true rfl) ⟨Nat.zero_le _, Nat.zero_le _⟩ (Nat.le_of_ble_eq_true rfl) dL_refused_520 (fun μ hF _ => ?_)
  refine jw_if_le G.1 549 dL_refused_523 (by decide) (fun _ => rf_S17 hN G hok hF) (fun c => ?_)
  refine jw_aload_n G.1 dL_refused_526 rfl 7 rfl ?_
  refine jw_iconst (v := 0) G.1 dL_refused_527 (by decide) ?_
  refine jw_iconst (v := 0) G.1 dL_refused_528 (by decide) ?_
  refine jw_iload G.1 dL_refused_529 3 rfl ?_
  refine jw_if_ne G.1 538 dL_refused_531 (by decide) (fun _ => ?_) (fun c => absurd c (by decide))
  refine jw_iconst (v := (-1)) G.1 dL_refused_538 (by decide) ?_
  refine jx_stone G.1 XT hF trivial hok (z_stone_w (n := 0) (p := 0) (by decide +kernel) (idx_pos hok c) (by decide +kernel)) gL_refused_X5_stone (Nat.le_of_ble_eq_true rfl) (Nat.le_of_ble_eq_true rfl) ⟨Nat.zero_le _, Nat.zero_le _⟩ (Nat.le_of_ble_eq_true rfl) dL_refused_539 (fun μ hF _ => ?_)
  refine jw_bipush (v := (-2)) G.1 dL_refused_542 (by decide) ?_
  refine jw_icmp_eq G.1 549 dL_refused_544 (by decide) (fun _ => ?_) (fun c => absurd (by decide) c)
  exact rf_S17 hN G hok hF
set_option maxRecDepth 100000 in
set_option maxHeartbeats 4000000 in
theorem rf_S15 {K : KT} {l : Launch} {ad : Nat → Nat} {F : FS} (hN : kN K = 9) (G : CtxM K l cL_refused RL wsL_refused rmL_refused shX ad (some .boolean) (pI fun r μ' => r = 1 ∧ RepF μ' F)) (hok : FOk F) {μ : Mem} (hF : RepF μ F) : JW K (0, 0) shX ad μ 442 [(8, .int (-1 : Int32)), (7, .int (-1 : Int32)), (6, .int (-1 : Int32)), (5, .int (1 : Int32)), (4, .int (fCount 6 F)), (3, .int (fCount 7 F)), (1, .long (fSeen F.1)), (0, .ref (ad 0))] [] := by
  refine jw_aload_n G.1 dL_refused_442 rfl 7 rfl ?_
  refine jw_iload G.1 dL_refused_443 2 rfl ?_
  refine jx_would G.1 XT hF trivial hok (z_would (by decide +kernel)) gL_refused_X5_wouldSink (Nat.le_of_ble_eq_true rfl) (Nat.le_of_ble_eq_true rfl) ⟨Nat.zero_le _, Nat.zero_le _⟩ (Nat.le_of_ble_eq_true rfl) dL_refused_445 (fun μ hF _ => ?_)
  refine jw_iconst (v := (-1)) G.1 dL_refused_448 (by decide) ?_
  refine jw_icmp_ne G.1 515 dL_refused_449 (by decide) (fun c => absurd (by decide) c) (fun _ => ?_)
  refine jw_aload_n G.1 dL_refused_452 rfl 7 rfl ?_
  refine jw_iload G.1 dL_refused_453 3 rfl ?_
  refine jw_if_ne G.1 462 dL_refused_455 (by decide) (fun _ => ?_) (fun c => absurd c (by decide))
  refine jw_iconst (v := (-1)) G.1 dL_refused_462 (by decide) ?_
  refine jx_worst G.1 XT hF trivial hok (z_worst (by decide +kernel)) gL_refused_X5_worstKey (Nat.le_of_ble_eq_true rfl) (Nat.le_of_ble_eq_true rfl) ⟨Nat.zero_le _, Nat.zero_le _⟩ (Nat.le_of_ble_eq_true rfl) dL_refused_463 (fun μ hF _ => ?_)
  refine jw_bipush (v := (-2)) G.1 dL_refused_466 (by decide) ?_
  refine jw_icmp_ne G.1 515 dL_refused_468 (by decide) (fun c => absurd (by decide) c) (fun _ => ?_)
  refine jw_aload_n G.1 dL_refused_471 rfl 7 rfl ?_
  refine jw_iload G.1 dL_refused_472 2 rfl ?_
  refine jw_iconst (v := 0) G.1 dL_refused_474 (by decide) ?_
  refine jx_same G.1 XT hF trivial hok (z_same_a (by decide +kernel)) gL_refused_X5_same (Nat.le_of_ble_eq_true rfl) (Nat.le_of_ble_eq_true rfl) ⟨Nat.zero_le _, Nat.zero_le _⟩ (Nat.le_of_ble_eq_true rfl) dL_refused_475 (fun μ hF _ => ?_)
  refine jw_iconst (v := (-1)) G.1 dL_refused_478 (by decide) ?_
  refine jw_icmp_ne G.1 515 dL_refused_479 (by decide) (fun c => absurd (by decide) c) (fun _ => ?_)
  refine jw_aload_n G.1 dL_refused_482 rfl 7 rfl ?_
  refine jw_iconst (v := 0) G.1 dL_refused_483 (by decide) ?_
  refine jw_iload G.1 dL_refused_484 2 rfl ?_
  refine jx_same G.1 XT hF trivial hok (z_same_b (n := 0) (by decide +kernel) (by decide +kernel)) gL_refused_X5_same (Nat.le_of_ble_eq_true rfl) (Nat.le_of_ble_eq_true rfl) ⟨Nat.zero_le _, Nat.zero_le _⟩ (Nat.le_of_ble_eq_true rfl) dL_refused_486 (fun μ hF _ => ?_)
  refine jw_iconst (v := (-1)) G.1 dL_refused_489 (by decide) ?_
  refine jw_icmp_ne G.1 515 dL_refused_490 (by decide) (fun c => absurd (by decide) c) (fun _ => ?_)
  refine jw_aload_n G.1 dL_refused_493 rfl 7 rfl ?_
  refine jw_iload G.1 dL_refused_494 0 rfl ?_
  refine jx_save G.1 XT hF trivial hok (z_save (by decide +kernel)) gL_refused_X5_save (Nat.le_of_ble_eq_true rfl) (Nat.le_of_ble_eq_true rfl) ⟨Nat.zero_le _, Nat.zero_le _⟩ (Nat.le_of_ble_eq_true rfl) dL_refused_496 (fun μ hF _ => ?_)
  refine jw_bipush (v := (-2)) G.1 dL_refused_499 (by decide) ?_
  refine jw_icmp_ne G.1 515 dL_refused_501 (by decide) (fun c => absurd (by decide) c) (fun _ => ?_)
  exact rf_S16 hN G hok hF
set_option maxRecDepth 100000 in
set_option maxHeartbeats 4000000 in
theorem rf_S14 {K : KT} {l : Launch} {ad : Nat → Nat} {F : FS} (hN : kN K = 9) (G : CtxM K l cL_refused RL wsL_refused rmL_refused shX ad (some .boolean) (pI fun r μ' => r = 1 ∧ RepF μ' F)) (hok : FOk F) {μ : Mem} (hF : RepF μ F) : JW K (0, 0) shX ad μ 377 [(8, .int (-1 : Int32)), (7, .int (-1 : Int32)), (6, .int (-1 : Int32)), (5, .int (1 : Int32)), (4, .int (fCount 6 F)), (3, .int (fCount 7 F)), (1, .long (fSeen F.1)), (0, .ref (ad 0))] [] := by
  refine jw_aload_n G.1 dL_refused_377 rfl 7 rfl ?_
  refine jw_iload G.1 dL_refused_378 3 rfl ?_
  refine jw_if_ne G.1 388 dL_refused_380 (by decide) (fun _ => ?_) (fun c => absurd c (by decide))
  refine jw_iconst (v := (-1)) G.1 dL_refused_388 (by decide) ?_
  refine jx_count G.1 XT hF trivial hok (z_count (by decide +kernel)) gL_refused_X5_count (Nat.le_of_ble_eq_true rfl) (Nat.le_of_ble_eq_true rfl) ⟨Nat.zero_le _, Nat.zero_le _⟩ (Nat.le_of_ble_eq_true rfl) dL_refused_389 (fun μ hF _ => ?_)
  refine jw_bipush (v := (-2)) G.1 dL_refused_392 (by decide) ?_
  refine jw_icmp_eq G.1 399 dL_refused_394 (by decide) (fun _ => ?_) (fun c => absurd (by decide) c)
  refine jw_aload_n G.1 dL_refused_399 rfl 7 rfl ?_
  refine jw_iload G.1 dL_refused_400 2 rfl ?_
  refine jw_bipush (v := 26) G.1 dL_refused_402 (by decide) ?_
  refine jx_sum G.1 XT hF trivial hok (z_sum_a (by decide +kernel)) gL_refused_X5_sum (Nat.le_of_ble_eq_true rfl) (Nat.le_of_ble_eq_true rfl) ⟨Nat.zero_le _, Nat.zero_le _⟩ (Nat.le_of_ble_eq_true rfl) dL_refused_404 (fun μ hF _ => ?_)
  refine jw_iconst (v := (-1)) G.1 dL_refused_407 (by decide) ?_
  refine jw_icmp_ne G.1 515 dL_refused_408 (by decide) (fun c => absurd (by decide) c) (fun _ => ?_)
  refine jw_aload_n G.1 dL_refused_411 rfl 7 rfl ?_
  refine jw_iconst (v := 0) G.1 dL_refused_412 (by decide) ?_
  refine jw_iload G.1 dL_refused_413 2 rfl ?_
  refine jx_sum G.1 XT hF trivial hok (z_sum_b (n := 0) (by decide +kernel) (by decide +kernel)) gL_refused_X5_sum (Nat.le_of_ble_eq_true rfl) (Nat.le_of_ble_eq_true rfl) ⟨Nat.zero_le _, Nat.zero_le _⟩ (Nat.le_of_ble_eq_true rfl) dL_refused_415 (fun μ hF _ => ?_)
  refine jw_iconst (v := (-1)) G.1 dL_refused_418 (by decide) ?_
  refine jw_icmp_ne G.1 515 dL_refused_419 (by decide) (fun c => absurd (by decide) c) (fun _ => ?_)
  refine jw_aload_n G.1 dL_refused_422 rfl 7 rfl ?_
  refine jw_iconst (v := 5) G.1 dL_refused_423 (by decide) ?_
  refine jw_iconst (v := 4) G.1 dL_refused_424 (by decide) ?_
  refine jx_sum G.1 XT hF trivial hok (z_sum_l (n := 5) (m := 4) (by decide +kernel) (by decide +kernel) (by decide)) gL_refused_X5_sum (Nat.le_of_ble_eq_true rfl) (Nat.le_of_ble_eq_true rfl) ⟨Nat.zero_le _, Nat.zero_le _⟩ (Nat.le_of_ble_eq_true rfl) dL_refused_425 (fun μ hF _ => ?_)
  refine jw_iconst (v := (-1)) G.1 dL_refused_428 (by decide) ?_
  refine jw_icmp_ne G.1 515 dL_refused_429 (by decide) (fun c => absurd (by decide) c) (fun _ => ?_)
  refine jw_aload_n G.1 dL_refused_432 rfl 7 rfl ?_
  refine jw_iload G.1 dL_refused_433 1 rfl ?_
  refine jx_heavy G.1 XT hF trivial hok (z_heavy (by decide +kernel)) gL_refused_X5_heaviest (Nat.le_of_ble_eq_true rfl) (Nat.le_of_ble_eq_true rfl) ⟨Nat.zero_le _, Nat.zero_le _⟩ (Nat.le_of_ble_eq_true rfl) dL_refused_435 (fun μ hF _ => ?_)
  refine jw_iconst (v := (-1)) G.1 dL_refused_438 (by decide) ?_
  refine jw_icmp_ne G.1 515 dL_refused_439 (by decide) (fun c => absurd (by decide) c) (fun _ => ?_)
  exact rf_S15 hN G hok hF
set_option maxRecDepth 100000 in
set_option maxHeartbeats 4000000 in
theorem rf_S13 {K : KT} {l : Launch} {ad : Nat → Nat} {F : FS} (hN : kN K = 9) (G : CtxM K l cL_refused RL wsL_refused rmL_refused shX ad (some .boolean) (pI fun r μ' => r = 1 ∧ RepF μ' F)) (hok : FOk F) {μ : Mem} (hF : RepF μ F) : JW K (0, 0) shX ad μ 312 [(8, .int (-1 : Int32)), (7, .int (-1 : Int32)), (6, .int (-1 : Int32)), (5, .int (1 : Int32)), (4, .int (fCount 6 F)), (3, .int (fCount 7 F)), (1, .long (fSeen F.1)), (0, .ref (ad 0))] [] := by
  refine jw_aload_n G.1 dL_refused_312 rfl 7 rfl ?_
  refine jw_iload G.1 dL_refused_313 1 rfl ?_
  refine jw_bipush (v := 9) G.1 dL_refused_315 (by decide) ?_
  refine jx_node G.1 XT hF trivial hok (z_node_n (by decide +kernel)) gL_refused_X5_ofNode (Nat.le_of_ble_eq_true rfl) (Nat.le_of_ble_eq_true rfl) ⟨Nat.zero_le _, Nat.zero_le _⟩ (Nat.le_of_ble_eq_true rfl) dL_refused_317 (fun μ hF _ => ?_)
  refine jw_iconst (v := (-1)) G.1 dL_refused_320 (by decide) ?_
  refine jw_icmp_ne G.1 397 dL_refused_321 (by decide) (fun c => absurd (by decide) c) (fun _ => ?_)
  refine jw_aload_n G.1 dL_refused_324 rfl 7 rfl ?_
  refine jw_iconst (v := 0) G.1 dL_refused_325 (by decide) ?_
  refine jw_iload G.1 dL_refused_326 3 rfl ?_
  refine jw_if_ne G.1 336 dL_refused_328 (by decide) (fun _ => ?_) (fun c => absurd c (by decide))
  refine jw_iconst (v := (-1)) G.1 dL_refused_336 (by decide) ?_
  refine jx_node G.1 XT hF trivial hok (z_node_w (n := 0) (by decide +kernel) (by decide +kernel)) gL_refused_X5_ofNode (Nat.le_of_ble_eq_true rfl) (Nat.le_of_ble_eq_true rfl) ⟨Nat.zero_le _, Nat.zero_le _⟩ (Nat.le_of_ble_eq_true rfl) dL_refused_337 (fun μ hF _ => ?_)
  refine jw_bipush (v := (-2)) G.1 dL_refused_340 (by decide) ?_
  refine jw_icmp_ne G.1 397 dL_refused_342 (by decide) (fun c => absurd (by decide) c) (fun _ => ?_)
  refine jw_aload_n G.1 dL_refused_345 rfl 7 rfl ?_
  refine jw_iload G.1 dL_refused_346 2 rfl ?_
  refine jw_bipush (v := 9) G.1 dL_refused_348 (by decide) ?_
  refine jx_key G.1 XT hF trivial hok (z_key_k (by decide +kernel)) gL_refused_X5_ofKey (Nat.le_of_ble_eq_true rfl) (Nat.le_of_ble_eq_true rfl) ⟨Nat.zero_le _, Nat.zero_le _⟩ (Nat.le_of_ble_eq_true rfl) dL_refused_350 (fun μ hF _ => ?_)
  refine jw_iconst (v := (-1)) G.1 dL_refused_353 (by decide) ?_
  refine jw_icmp_ne G.1 397 dL_refused_354 (by decide) (fun c => absurd (by decide) c) (fun _ => ?_)
  refine jw_aload_n G.1 dL_refused_357 rfl 7 rfl ?_
  refine jw_iconst (v := 0) G.1 dL_refused_358 (by decide) ?_
  refine jw_iload G.1 dL_refused_359 3 rfl ?_
  refine jw_if_ne G.1 368 dL_refused_361 (by decide) (fun _ => ?_) (fun c => absurd c (by decide))
  refine jw_iconst (v := (-1)) G.1 dL_refused_368 (by decide) ?_
  refine jx_key G.1 XT hF trivial hok (z_key_w (n := 0) (by decide +kernel) (by decide +kernel)) gL_refused_X5_ofKey (Nat.le_of_ble_eq_true rfl) (Nat.le_of_ble_eq_true rfl) ⟨Nat.zero_le _, Nat.zero_le _⟩ (Nat.le_of_ble_eq_true rfl) dL_refused_369 (fun μ hF _ => ?_)
  refine jw_bipush (v := (-2)) G.1 dL_refused_372 (by decide) ?_
  refine jw_icmp_ne G.1 397 dL_refused_374 (by decide) (fun c => absurd (by decide) c) (fun _ => ?_)
  exact rf_S14 hN G hok hF
set_option maxRecDepth 100000 in
set_option maxHeartbeats 4000000 in
theorem rf_S12 {K : KT} {l : Launch} {ad : Nat → Nat} {F : FS} (hN : kN K = 9) (G : CtxM K l cL_refused RL wsL_refused rmL_refused shX ad (some .boolean) (pI fun r μ' => r = 1 ∧ RepF μ' F)) (hok : FOk F) {μ : Mem} (hF : RepF μ F) : JW K (0, 0) shX ad μ 239 [(8, .int (-1 : Int32)), (7, .int (-1 : Int32)), (6, .int (-1 : Int32)), (5, .int (1 : Int32)), (4, .int (fCount 6 F)), (3, .int (fCount 7 F)), (1, .long (fSeen F.1)), (0, .ref (ad 0))] [] := by
  refine jw_aload_n G.1 dL_refused_239 rfl 7 rfl ?_
  refine jw_iconst (v := 1) G.1 dL_refused_240 (by decide) ?_
  refine jw_iconst (v := 5) G.1 dL_refused_241 (by decide) ?_
  refine jw_iconst (v := 4) G.1 dL_refused_242 (by decide) ?_
  refine jw_iconst (v := 1) G.1 dL_refused_243 (by decide) ?_
  refine jx_send G.1 XT hF trivial hok (zs_l (K := 1) (N := 1) (f := 5) (l := 4) (by decide +kernel) (by decide +kernel) (by decide +kernel) (by decide +kernel) (by decide)) gL_refused_X5_send (Nat.le_of_ble_eq_true rfl) (Nat.le_of_ble_eq_true rfl) ⟨Nat.zero_le _, Nat.zero_le _⟩ (Nat.le_of_ble_eq_true rfl) dL_refused_244 (fun μ hF _ => ?_)
  refine jw_iconst (v := (-1)) G.1 dL_refused_247 (by decide) ?_
  refine jw_icmp_eq G.1 253 dL_refused_248 (by decide) (fun _ => ?_) (fun c => absurd (by decide) c)
  refine jw_aload_n G.1 dL_refused_253 rfl 7 rfl ?_
  refine jw_iload G.1 dL_refused_254 1 rfl ?_
  refine jx_empty G.1 XT hF trivial hok (z_empty (by decide +kernel)) gL_refused_X5_empty (Nat.le_of_ble_eq_true rfl) (Nat.le_of_ble_eq_true rfl) ⟨Nat.zero_le _, Nat.zero_le _⟩ (Nat.le_of_ble_eq_true rfl) dL_refused_256 (fun μ hF _ => ?_)
  refine jw_iconst (v := (-1)) G.1 dL_refused_259 (by decide) ?_
  refine jw_icmp_ne G.1 397 dL_refused_260 (by decide) (fun c => absurd (by decide) c) (fun _ => ?_)
  refine jw_aload_n G.1 dL_refused_263 rfl 7 rfl ?_
  refine jw_iload G.1 dL_refused_264 2 rfl ?_
  refine jx_read G.1 XT hF trivial hok (z_read (by decide +kernel)) gL_refused_X5_read (Nat.le_of_ble_eq_true rfl) (Nat.le_of_ble_eq_true rfl) ⟨Nat.zero_le _, Nat.zero_le _⟩ (Nat.le_of_ble_eq_true rfl) dL_refused_266 (fun μ hF _ => ?_)
  refine jw_iconst (v := (-1)) G.1 dL_refused_269 (by decide) ?_
  refine jw_icmp_ne G.1 397 dL_refused_270 (by decide) (fun c => absurd (by decide) c) (fun _ => ?_)
  refine jw_aload_n G.1 dL_refused_273 rfl 7 rfl ?_
  refine jw_iload G.1 dL_refused_274 1 rfl ?_
  refine jw_iconst (v := 0) G.1 dL_refused_276 (by decide) ?_
  refine jw_bipush (v := 9) G.1 dL_refused_277 (by decide) ?_
  refine jx_stone G.1 XT hF trivial hok (z_stone_n (by decide +kernel)) gL_refused_X5_stone (Nat.le_of_ble_eq_true rfl) (Nat.le_of_ble_eq_true rfl) ⟨Nat.zero_le _, Nat.zero_le _⟩ (Nat.le_of_ble_eq_true rfl) dL_refused_279 (fun μ hF _ => ?_)
  refine jw_iconst (v := (-1)) G.1 dL_refused_282 (by decide) ?_
  refine jw_icmp_ne G.1 397 dL_refused_283 (by decide) (fun c => absurd (by decide) c) (fun _ => ?_)
  refine jw_aload_n G.1 dL_refused_286 rfl 7 rfl ?_
  refine jw_iconst (v := 0) G.1 dL_refused_287 (by decide) ?_
  refine jw_iload G.1 dL_refused_288 3 rfl ?_
  refine jw_if_ne G.1 302 dL_refused_290 (by decide) (fun _ => ?_) (fun c => absurd c (by decide))
  refine jw_iconst (v := (-1)) G.1 dL_refused_302 (by decide) ?_
  refine jw_bipush (v := 9) G.1 dL_refused_303 (by decide) ?_
  refine jx_stone G.1 XT hF trivial hok (z_stone_p (n := 0) (by decide +kernel) (idx_m1 _)) gL_refused_X5_stone (Nat.le_of_ble_eq_true rfl) (Nat.le_of_ble_eq_true rfl) ⟨Nat.zero_le _, Nat.zero_le _⟩ (Nat.le_of_ble_eq_true rfl) dL_refused_305 (fun μ hF _ => ?_)
  refine jw_iconst (v := (-1)) G.1 dL_refused_308 (by decide) ?_
  refine jw_icmp_ne G.1 397 dL_refused_309 (by decide) (fun c => absurd (by decide) c) (fun _ => ?_)
  exact rf_S13 hN G hok hF
set_option maxRecDepth 100000 in
set_option maxHeartbeats 4000000 in
theorem rf_S11 {K : KT} {l : Launch} {ad : Nat → Nat} {F : FS} (hN : kN K = 9) (G : CtxM K l cL_refused RL wsL_refused rmL_refused shX ad (some .boolean) (pI fun r μ' => r = 1 ∧ RepF μ' F)) (hok : FOk F) {μ : Mem} (hF : RepF μ F) : JW K (0, 0) shX ad μ 177 [(8, .int (-1 : Int32)), (7, .int (-1 : Int32)), (6, .int (-1 : Int32)), (5, .int (1 : Int32)), (4, .int (fCount 6 F)), (3, .int (fCount 7 F)), (1, .long (fSeen F.1)), (0, .ref (ad 0))] [] := by
  refine jw_aload_n G.1 dL_refused_177 rfl 7 rfl ?_
  refine jw_iconst (v := 0) G.1 dL_refused_178 (by decide) ?_
  refine jw_iload G.1 dL_refused_179 2 rfl ?_
  refine jw_iload G.1 dL_refused_181 2 rfl ?_
  refine jw_iconst (v := 1) G.1 dL_refused_183 (by decide) ?_
  refine jx_send G.1 XT hF trivial hok (zs_a (K := 0) (N := 1) (by decide +kernel) (by decide +kernel) (by decide +kernel)) gL_refused_X5_send (Nat.le_of_ble_eq_true rfl) (Nat.le_of_ble_eq_true rfl) ⟨Nat.zero_le _, Nat.zero_le _⟩ (Nat.le_of_ble_eq_true rfl) dL_refused_184 (fun μ hF _ => ?_)
  refine jw_iconst (v := (-1)) G.1 dL_refused_187 (by decide) ?_
  refine jw_icmp_ne G.1 251 dL_refused_188 (by decide) (fun c => absurd (by decide) c) (fun _ => ?_)
  refine jw_aload_n G.1 dL_refused_191 rfl 7 rfl ?_
  refine jw_iconst (v := 1) G.1 dL_refused_192 (by decide) ?_
  refine jw_iconst (v := 0) G.1 dL_refused_193 (by decide) ?_
  refine jw_iload G.1 dL_refused_194 2 rfl ?_
  refine jw_iconst (v := 1) G.1 dL_refused_196 (by decide) ?_
  refine jx_send G.1 XT hF trivial hok (zs_b (K := 1) (N := 1) (f := 0) (by decide +kernel) (by decide +kernel) (by decide +kernel) (by decide +kernel)) gL_refused_X5_send (Nat.le_of_ble_eq_true rfl) (Nat.le_of_ble_eq_true rfl) ⟨Nat.zero_le _, Nat.zero_le _⟩ (Nat.le_of_ble_eq_true rfl) dL_refused_197 (fun μ hF _ => ?_)
  refine jw_iconst (v := (-1)) G.1 dL_refused_200 (by decide) ?_
  refine jw_icmp_ne G.1 251 dL_refused_201 (by decide) (fun c => absurd (by decide) c) (fun _ => ?_)
  refine jw_aload_n G.1 dL_refused_204 rfl 7 rfl ?_
  refine jw_iconst (v := 1) G.1 dL_refused_205 (by decide) ?_
  refine jw_iload G.1 dL_refused_206 2 rfl ?_
  refine jw_bipush (v := 26) G.1 dL_refused_208 (by decide) ?_
  refine jw_iconst (v := 1) G.1 dL_refused_210 (by decide) ?_
  refine jx_send G.1 XT hF trivial hok (zs_a (K := 1) (N := 1) (by decide +kernel) (by decide +kernel) (by decide +kernel)) gL_refused_X5_send (Nat.le_of_ble_eq_true rfl) (Nat.le_of_ble_eq_true rfl) ⟨Nat.zero_le _, Nat.zero_le _⟩ (Nat.le_of_ble_eq_true rfl) dL_refused_211 (fun μ hF _ => ?_)
  refine jw_iconst (v := (-1)) G.1 dL_refused_214 (by decide) ?_
  refine jw_icmp_ne G.1 251 dL_refused_215 (by decide) (fun c => absurd (by decide) c) (fun _ => ?_)
  refine jw_aload_n G.1 dL_refused_218 rfl 7 rfl ?_
  refine jw_iload G.1 dL_refused_219 3 rfl ?_
  refine jw_if_ne G.1 228 dL_refused_221 (by decide) (fun _ => ?_) (fun c => absurd c (by decide))
  refine jw_iconst (v := 2) G.1 dL_refused_228 (by decide) ?_
  refine jw_iconst (v := 3) G.1 dL_refused_229 (by decide) ?_
  refine jw_iconst (v := 4) G.1 dL_refused_230 (by decide) ?_
  refine jw_iconst (v := 0) G.1 dL_refused_231 (by decide) ?_
  refine jx_send G.1 XT hF trivial hok (zs_l (K := 2) (N := 0) (f := 3) (l := 4) (by decide +kernel) (by decide +kernel) (by decide +kernel) (by decide +kernel) (by decide)) gL_refused_X5_send (Nat.le_of_ble_eq_true rfl) (Nat.le_of_ble_eq_true rfl) ⟨Nat.zero_le _, Nat.zero_le _⟩ (Nat.le_of_ble_eq_true rfl) dL_refused_232 (fun μ hF _ => ?_)
  refine jw_iconst (v := (-1)) G.1 dL_refused_235 (by decide) ?_
  refine jw_icmp_ne G.1 251 dL_refused_236 (by decide) (fun c => absurd (by decide) c) (fun _ => ?_)
  exact rf_S12 hN G hok hF
set_option maxRecDepth 100000 in
set_option maxHeartbeats 4000000 in
theorem rf_S10 {K : KT} {l : Launch} {ad : Nat → Nat} {F : FS} (hN : kN K = 9) (G : CtxM K l cL_refused RL wsL_refused rmL_refused shX ad (some .boolean) (pI fun r μ' => r = 1 ∧ RepF μ' F)) (hok : FOk F) {μ : Mem} (hF : RepF μ F) : JW K (0, 0) shX ad μ 100 [(8, .int (-1 : Int32)), (7, .int (-1 : Int32)), (6, .int (-1 : Int32)), (5, .int (1 : Int32)), (4, .int (fCount 6 F)), (3, .int (fCount 7 F)), (1, .long (fSeen F.1)), (0, .ref (ad 0))] [] := by
  refine jw_aload_n G.1 dL_refused_100 rfl 7 rfl ?_
  refine jw_iconst (v := 1) G.1 dL_refused_101 (by decide) ?_
  refine jw_iload G.1 dL_refused_102 0 rfl ?_
  refine jx_set G.1 XT hF trivial hok (z_set_1 (by decide +kernel) (by decide +kernel)) gL_refused_X5_set (Nat.le_of_ble_eq_true rfl) (Nat.le_of_ble_eq_true rfl) ⟨Nat.zero_le _, Nat.zero_le _⟩ (Nat.le_of_ble_eq_true rfl) dL_refused_104 (fun μ hF _ => ?_)
  refine jw_bipush (v := (-2)) G.1 dL_refused_107 (by decide) ?_
  refine jw_icmp_ne G.1 175 dL_refused_109 (by decide) (fun c => absurd (by decide) c) (fun _ => ?_)
  refine jw_aload_n G.1 dL_refused_112 rfl 7 rfl ?_
  refine jw_iload G.1 dL_refused_113 3 rfl ?_
  refine jw_if_ne G.1 122 dL_refused_115 (by decide) (fun _ => ?_) (fun c => absurd c (by decide))
  refine jw_iconst (v := (-1)) G.1 dL_refused_122 (by decide) ?_
  refine jw_iload G.1 dL_refused_123 2 rfl ?_
  refine jw_iconst (v := 0) G.1 dL_refused_125 (by decide) ?_
  refine jw_iconst (v := 0) G.1 dL_refused_126 (by decide) ?_
  refine jx_send G.1 XT hF trivial hok (zs_k (by decide +kernel)) gL_refused_X5_send (Nat.le_of_ble_eq_true rfl) (Nat.le_of_ble_eq_true rfl) ⟨Nat.zero_le _, Nat.zero_le _⟩ (Nat.le_of_ble_eq_true rfl) dL_refused_127 (fun μ hF _ => ?_)
  refine jw_bipush (v := (-2)) G.1 dL_refused_130 (by decide) ?_
  refine jw_icmp_ne G.1 175 dL_refused_132 (by decide) (fun c => absurd (by decide) c) (fun _ => ?_)
  refine jw_aload_n G.1 dL_refused_135 rfl 7 rfl ?_
  refine jw_iconst (v := 1) G.1 dL_refused_136 (by decide) ?_
  refine jw_iload G.1 dL_refused_137 2 rfl ?_
  refine jw_iload G.1 dL_refused_139 2 rfl ?_
  refine jw_iload G.1 dL_refused_141 3 rfl ?_
  refine jw_if_ne G.1 152 dL_refused_143 (by decide) (fun _ => ?_) (fun c => absurd c (by decide))
  refine jw_iconst (v := (-1)) G.1 dL_refused_152 (by decide) ?_
  refine jx_send G.1 XT hF trivial hok (zs_n (K := 1) (by decide +kernel) (by decide +kernel)) gL_refused_X5_send (Nat.le_of_ble_eq_true rfl) (Nat.le_of_ble_eq_true rfl) ⟨Nat.zero_le _, Nat.zero_le _⟩ (Nat.le_of_ble_eq_true rfl) dL_refused_153 (fun μ hF _ => ?_)
  refine jw_bipush (v := (-2)) G.1 dL_refused_156 (by decide) ?_
  refine jw_icmp_ne G.1 175 dL_refused_158 (by decide) (fun c => absurd (by decide) c) (fun _ => ?_)
  refine jw_aload_n G.1 dL_refused_161 rfl 7 rfl ?_
  refine jw_iconst (v := 2) G.1 dL_refused_162 (by decide) ?_
  refine jw_iload G.1 dL_refused_163 2 rfl ?_
  refine jw_iconst (v := 0) G.1 dL_refused_165 (by decide) ?_
  refine jw_iconst (v := 1) G.1 dL_refused_166 (by decide) ?_
  refine jx_send G.1 XT hF trivial hok (zs_n (K := 2) (by decide +kernel) (by decide +kernel)) gL_refused_X5_send (Nat.le_of_ble_eq_true rfl) (Nat.le_of_ble_eq_true rfl) ⟨Nat.zero_le _, Nat.zero_le _⟩ (Nat.le_of_ble_eq_true rfl) dL_refused_167 (fun μ hF _ => ?_)
  refine jw_bipush (v := (-2)) G.1 dL_refused_170 (by decide) ?_
  refine jw_icmp_eq G.1 177 dL_refused_172 (by decide) (fun _ => ?_) (fun c => absurd (by decide) c)
  exact rf_S11 hN G hok hF
set_option maxRecDepth 100000 in
set_option maxHeartbeats 4000000 in
theorem rf_S9 {K : KT} {l : Launch} {ad : Nat → Nat} {F : FS} (hN : kN K = 9) (G : CtxM K l cL_refused RL wsL_refused rmL_refused shX ad (some .boolean) (pI fun r μ' => r = 1 ∧ RepF μ' F)) (hok : FOk F) {μ : Mem} (hF : RepF μ F) : JW K (0, 0) shX ad μ 549 [(8, .int (2 : Int32)), (7, .int (13 : Int32)), (6, .int (27 : Int32)), (5, .int (0 : Int32)), (4, .int (fCount 6 F)), (3, .int (fCount 7 F)), (1, .long (fSeen F.1)), (0, .ref (ad 0))] [] := by
  have hN_5 : 5 < kN K := by rw [hN]; decide
  have hN_6 : 6 < kN K := by rw [hN]; decide
  have hN_7 : 7 < kN K := by rw [hN]; decide
  have hN_8 : 8 < kN K := by rw [hN]; decide
  refine jw_iinc (lw := [(5, .int _), (8, .int _), (7, .int _), (6, .int _), (4, .int _), (3, .int _), (1, .long _), (0, .ref _)]) (q := 3) (v := 1) G.1 dL_refused_549 rfl (by decide) hN_5 rfl ?_
  refine jw_goto (tgt := 23) G.1 dL_refused_552 (by decide) ?_
  refine jw_iload G.1 dL_refused_23 0 rfl ?_
  refine jw_iconst (v := 2) G.1 dL_refused_25 (by decide) ?_
  refine jw_icmp_ge G.1 555 dL_refused_26 (by decide) (fun c => absurd c (by decide)) (fun _ => ?_)
  refine jw_iload G.1 dL_refused_29 0 rfl ?_
  refine jw_if_ne G.1 39 dL_refused_31 (by decide) (fun _ => ?_) (fun c => absurd c (by decide))
  refine jw_iconst (v := (-1)) G.1 dL_refused_39 (by decide) ?_
  refine jw_istore (lw := [(6, .int _), (5, .int _), (8, .int _), (7, .int _), (4, .int _), (3, .int _), (1, .long _), (0, .ref _)]) G.1 dL_refused_40 hN_6 rfl ?_
  refine jw_iload G.1 dL_refused_42 1 rfl ?_
  refine jw_if_ne G.1 52 dL_refused_44 (by decide) (fun _ => ?_) (fun c => absurd c (by decide))
  refine jw_iconst (v := (-1)) G.1 dL_refused_52 (by decide) ?_
  refine jw_istore (lw := [(7, .int _), (6, .int _), (5, .int _), (8, .int _), (4, .int _), (3, .int _), (1, .long _), (0, .ref _)]) G.1 dL_refused_53 hN_7 rfl ?_
  refine jw_iload G.1 dL_refused_55 2 rfl ?_
  refine jw_if_ne G.1 64 dL_refused_57 (by decide) (fun _ => ?_) (fun c => absurd c (by decide))
  refine jw_iconst (v := (-1)) G.1 dL_refused_64 (by decide) ?_
  refine jw_istore (lw := [(8, .int _), (7, .int _), (6, .int _), (5, .int _), (4, .int _), (3, .int _), (1, .long _), (0, .ref _)]) G.1 dL_refused_65 hN_8 rfl ?_
  refine jw_aload_n G.1 dL_refused_67 rfl 7 rfl ?_
  refine jw_iload G.1 dL_refused_68 0 rfl ?_
  refine jw_iconst (v := 1) G.1 dL_refused_70 (by decide) ?_
  refine jx_set G.1 XT hF trivial hok (z_set_s (by decide +kernel)) gL_refused_X5_set (Nat.le_of_ble_eq_true rfl) (Nat.le_of_ble_eq_true rfl) ⟨Nat.zero_le _, Nat.zero_le _⟩ (Nat.le_of_ble_eq_true rfl) dL_refused_71 (fun μ hF _ => ?_)
  refine jw_bipush (v := (-2)) G.1 dL_refused_74 (by decide) ?_
  refine jw_icmp_ne G.1 175 dL_refused_76 (by decide) (fun c => absurd (by decide) c) (fun _ => ?_)
  refine jw_aload_n G.1 dL_refused_79 rfl 7 rfl ?_
  refine jw_iconst (v := 0) G.1 dL_refused_80 (by decide) ?_
  refine jw_iload G.1 dL_refused_81 3 rfl ?_
  refine jw_if_ne G.1 91 dL_refused_83 (by decide) (fun _ => ?_) (fun c => absurd c (by decide))
  refine jw_iconst (v := 0) G.1 dL_refused_91 (by decide) ?_
  refine jx_set G.1 XT hF trivial hok (z_set_0 (by decide +kernel) (by decide +kernel)) gL_refused_X5_set (Nat.le_of_ble_eq_true rfl) (Nat.le_of_ble_eq_true rfl) ⟨Nat.zero_le _, Nat.zero_le _⟩ (Nat.le_of_ble_eq_true rfl) dL_refused_92 (fun μ hF _ => ?_)
  refine jw_bipush (v := (-2)) G.1 dL_refused_95 (by decide) ?_
  refine jw_icmp_ne G.1 175 dL_refused_97 (by decide) (fun c => absurd (by decide) c) (fun _ => ?_)
  exact rf_S10 hN G hok hF
set_option maxRecDepth 100000 in
set_option maxHeartbeats 4000000 in
theorem rf_S8 {K : KT} {l : Launch} {ad : Nat → Nat} {F : FS} (hN : kN K = 9) (G : CtxM K l cL_refused RL wsL_refused rmL_refused shX ad (some .boolean) (pI fun r μ' => r = 1 ∧ RepF μ' F)) (hok : FOk F) {μ : Mem} (hF : RepF μ F) : JW K (0, 0) shX ad μ 517 [(8, .int (2 : Int32)), (7, .int (13 : Int32)), (6, .int (27 : Int32)), (5, .int (0 : Int32)), (4, .int (fCount 6 F)), (3, .int (fCount 7 F)), (1, .long (fSeen F.1)), (0, .ref (ad 0))] [] := by
  refine jw_aload_n G.1 dL_refused_517 rfl 7 rfl ?_
  refine jw_iconst (v := 0) G.1 dL_refused_518 (by decide) ?_
  refine jw_iconst (v := 0) G.1 dL_refused_519 (by decide) ?_
  refine jx_node G.1 XT hF trivial hok (node_0 (n := 0) (by decide)) gL_refused_X5_ofNode (Nat.le_of_ble_eq_true rfl) (Nat.le_of_ble_eq_true rfl) ⟨Nat.zero_le _, Nat.zero_le _⟩ (Nat.le_of_ble_eq_true rfl) dL_refused_520 (fun μ hF _ => ?_)
  refine jw_if_le G.1 549 dL_refused_523 (by decide) (fun _ => rf_S9 hN G hok hF) (fun c => ?_)
  refine jw_aload_n G.1 dL_refused_526 rfl 7 rfl ?_
  refine jw_iconst (v := 0) G.1 dL_refused_527 (by decide) ?_
  refine jw_iconst (v := 0) G.1 dL_refused_528 (by decide) ?_
  refine jw_iload G.1 dL_refused_529 3 rfl ?_
  refine jw_if_ne G.1 538 dL_refused_531 (by decide) (fun c => absurd (by decide) c) (fun _ => ?_)
  refine jw_iconst (v := 4) G.1 dL_refused_534 (by decide) ?_
  refine jw_goto (tgt := 539) G.1 dL_refused_535 (by decide) ?_
  refine jx_stone G.1 XT hF trivial hok (z_stone_w (n := 0) (p := 0) (by decide +kernel) (idx_pos hok c) (by decide +kernel)) gL_refused_X5_stone (Nat.le_of_ble_eq_true rfl) (Nat.le_of_ble_eq_true rfl) ⟨Nat.zero_le _, Nat.zero_le _⟩ (Nat.le_of_ble_eq_true rfl) dL_refused_539 (fun μ hF _ => ?_)
  refine jw_bipush (v := (-2)) G.1 dL_refused_542 (by decide) ?_
  refine jw_icmp_eq G.1 549 dL_refused_544 (by decide) (fun _ => ?_) (fun c => absurd (by decide) c)
  exact rf_S9 hN G hok hF
set_option maxRecDepth 100000 in
set_option maxHeartbeats 4000000 in
theorem rf_S7 {K : KT} {l : Launch} {ad : Nat → Nat} {F : FS} (hN : kN K = 9) (G : CtxM K l cL_refused RL wsL_refused rmL_refused shX ad (some .boolean) (pI fun r μ' => r = 1 ∧ RepF μ' F)) (hok : FOk F) {μ : Mem} (hF : RepF μ F) : JW K (0, 0) shX ad μ 452 [(8, .int (2 : Int32)), (7, .int (13 : Int32)), (6, .int (27 : Int32)), (5, .int (0 : Int32)), (4, .int (fCount 6 F)), (3, .int (fCount 7 F)), (1, .long (fSeen F.1)), (0, .ref (ad 0))] [] := by
  refine jw_aload_n G.1 dL_refused_452 rfl 7 rfl ?_
  refine jw_iload G.1 dL_refused_453 3 rfl ?_
  refine jw_if_ne G.1 462 dL_refused_455 (by decide) (fun c => absurd (by decide) c) (fun _ => ?_)
  refine jw_iconst (v := 2) G.1 dL_refused_458 (by decide) ?_
  refine jw_goto (tgt := 463) G.1 dL_refused_459 (by decide) ?_
  refine jx_worst G.1 XT hF trivial hok (z_worst (by decide +kernel)) gL_refused_X5_worstKey (Nat.le_of_ble_eq_true rfl) (Nat.le_of_ble_eq_true rfl) ⟨Nat.zero_le _, Nat.zero_le _⟩ (Nat.le_of_ble_eq_true rfl) dL_refused_463 (fun μ hF _ => ?_)
  refine jw_bipush (v := (-2)) G.1 dL_refused_466 (by decide) ?_
  refine jw_icmp_ne G.1 515 dL_refused_468 (by decide) (fun c => absurd (by decide) c) (fun _ => ?_)
  refine jw_aload_n G.1 dL_refused_471 rfl 7 rfl ?_
  refine jw_iload G.1 dL_refused_472 2 rfl ?_
  refine jw_iconst (v := 0) G.1 dL_refused_474 (by decide) ?_
  refine jx_same G.1 XT hF trivial hok (z_same_a (by decide +kernel)) gL_refused_X5_same (Nat.le_of_ble_eq_true rfl) (Nat.le_of_ble_eq_true rfl) ⟨Nat.zero_le _, Nat.zero_le _⟩ (Nat.le_of_ble_eq_true rfl) dL_refused_475 (fun μ hF _ => ?_)
  refine jw_iconst (v := (-1)) G.1 dL_refused_478 (by decide) ?_
  refine jw_icmp_ne G.1 515 dL_refused_479 (by decide) (fun c => absurd (by decide) c) (fun _ => ?_)
  refine jw_aload_n G.1 dL_refused_482 rfl 7 rfl ?_
  refine jw_iconst (v := 0) G.1 dL_refused_483 (by decide) ?_
  refine jw_iload G.1 dL_refused_484 2 rfl ?_
  refine jx_same G.1 XT hF trivial hok (z_same_b (n := 0) (by decide +kernel) (by decide +kernel)) gL_refused_X5_same (Nat.le_of_ble_eq_true rfl) (Nat.le_of_ble_eq_true rfl) ⟨Nat.zero_le _, Nat.zero_le _⟩ (Nat.le_of_ble_eq_true rfl) dL_refused_486 (fun μ hF _ => ?_)
  refine jw_iconst (v := (-1)) G.1 dL_refused_489 (by decide) ?_
  refine jw_icmp_ne G.1 515 dL_refused_490 (by decide) (fun c => absurd (by decide) c) (fun _ => ?_)
  refine jw_aload_n G.1 dL_refused_493 rfl 7 rfl ?_
  refine jw_iload G.1 dL_refused_494 0 rfl ?_
  refine jx_save G.1 XT hF trivial hok (z_save (by decide +kernel)) gL_refused_X5_save (Nat.le_of_ble_eq_true rfl) (Nat.le_of_ble_eq_true rfl) ⟨Nat.zero_le _, Nat.zero_le _⟩ (Nat.le_of_ble_eq_true rfl) dL_refused_496 (fun μ hF _ => ?_)
  refine jw_bipush (v := (-2)) G.1 dL_refused_499 (by decide) ?_
  refine jw_icmp_ne G.1 515 dL_refused_501 (by decide) (fun c => absurd (by decide) c) (fun _ => ?_)
  refine jw_aload_n G.1 dL_refused_504 rfl 7 rfl ?_
  refine jw_iload G.1 dL_refused_505 0 rfl ?_
  refine jx_restore G.1 XT hF trivial hok (z_rest (by decide +kernel)) gL_refused_X5_restore (Nat.le_of_ble_eq_true rfl) (Nat.le_of_ble_eq_true rfl) ⟨Nat.zero_le _, Nat.zero_le _⟩ (Nat.le_of_ble_eq_true rfl) dL_refused_507 (fun μ hF _ => ?_)
  refine jw_bipush (v := (-2)) G.1 dL_refused_510 (by decide) ?_
  refine jw_icmp_eq G.1 517 dL_refused_512 (by decide) (fun _ => ?_) (fun c => absurd (by decide) c)
  exact rf_S8 hN G hok hF
set_option maxRecDepth 100000 in
set_option maxHeartbeats 4000000 in
theorem rf_S6 {K : KT} {l : Launch} {ad : Nat → Nat} {F : FS} (hN : kN K = 9) (G : CtxM K l cL_refused RL wsL_refused rmL_refused shX ad (some .boolean) (pI fun r μ' => r = 1 ∧ RepF μ' F)) (hok : FOk F) {μ : Mem} (hF : RepF μ F) : JW K (0, 0) shX ad μ 399 [(8, .int (2 : Int32)), (7, .int (13 : Int32)), (6, .int (27 : Int32)), (5, .int (0 : Int32)), (4, .int (fCount 6 F)), (3, .int (fCount 7 F)), (1, .long (fSeen F.1)), (0, .ref (ad 0))] [] := by
  refine jw_aload_n G.1 dL_refused_399 rfl 7 rfl ?_
  refine jw_iload G.1 dL_refused_400 2 rfl ?_
  refine jw_bipush (v := 26) G.1 dL_refused_402 (by decide) ?_
  refine jx_sum G.1 XT hF trivial hok (z_sum_a (by decide +kernel)) gL_refused_X5_sum (Nat.le_of_ble_eq_true rfl) (Nat.le_of_ble_eq_true rfl) ⟨Nat.zero_le _, Nat.zero_le _⟩ (Nat.le_of_ble_eq_true rfl) dL_refused_404 (fun μ hF _ => ?_)
  refine jw_iconst (v := (-1)) G.1 dL_refused_407 (by decide) ?_
  refine jw_icmp_ne G.1 515 dL_refused_408 (by decide) (fun c => absurd (by decide) c) (fun _ => ?_)
  refine jw_aload_n G.1 dL_refused_411 rfl 7 rfl ?_
  refine jw_iconst (v := 0) G.1 dL_refused_412 (by decide) ?_
  refine jw_iload G.1 dL_refused_413 2 rfl ?_
  refine jx_sum G.1 XT hF trivial hok (z_sum_b (n := 0) (by decide +kernel) (by decide +kernel)) gL_refused_X5_sum (Nat.le_of_ble_eq_true rfl) (Nat.le_of_ble_eq_true rfl) ⟨Nat.zero_le _, Nat.zero_le _⟩ (Nat.le_of_ble_eq_true rfl) dL_refused_415 (fun μ hF _ => ?_)
  refine jw_iconst (v := (-1)) G.1 dL_refused_418 (by decide) ?_
  refine jw_icmp_ne G.1 515 dL_refused_419 (by decide) (fun c => absurd (by decide) c) (fun _ => ?_)
  refine jw_aload_n G.1 dL_refused_422 rfl 7 rfl ?_
  refine jw_iconst (v := 5) G.1 dL_refused_423 (by decide) ?_
  refine jw_iconst (v := 4) G.1 dL_refused_424 (by decide) ?_
  refine jx_sum G.1 XT hF trivial hok (z_sum_l (n := 5) (m := 4) (by decide +kernel) (by decide +kernel) (by decide)) gL_refused_X5_sum (Nat.le_of_ble_eq_true rfl) (Nat.le_of_ble_eq_true rfl) ⟨Nat.zero_le _, Nat.zero_le _⟩ (Nat.le_of_ble_eq_true rfl) dL_refused_425 (fun μ hF _ => ?_)
  refine jw_iconst (v := (-1)) G.1 dL_refused_428 (by decide) ?_
  refine jw_icmp_ne G.1 515 dL_refused_429 (by decide) (fun c => absurd (by decide) c) (fun _ => ?_)
  refine jw_aload_n G.1 dL_refused_432 rfl 7 rfl ?_
  refine jw_iload G.1 dL_refused_433 1 rfl ?_
  refine jx_heavy G.1 XT hF trivial hok (z_heavy (by decide +kernel)) gL_refused_X5_heaviest (Nat.le_of_ble_eq_true rfl) (Nat.le_of_ble_eq_true rfl) ⟨Nat.zero_le _, Nat.zero_le _⟩ (Nat.le_of_ble_eq_true rfl) dL_refused_435 (fun μ hF _ => ?_)
  refine jw_iconst (v := (-1)) G.1 dL_refused_438 (by decide) ?_
  refine jw_icmp_ne G.1 515 dL_refused_439 (by decide) (fun c => absurd (by decide) c) (fun _ => ?_)
  refine jw_aload_n G.1 dL_refused_442 rfl 7 rfl ?_
  refine jw_iload G.1 dL_refused_443 2 rfl ?_
  refine jx_would G.1 XT hF trivial hok (z_would (by decide +kernel)) gL_refused_X5_wouldSink (Nat.le_of_ble_eq_true rfl) (Nat.le_of_ble_eq_true rfl) ⟨Nat.zero_le _, Nat.zero_le _⟩ (Nat.le_of_ble_eq_true rfl) dL_refused_445 (fun μ hF _ => ?_)
  refine jw_iconst (v := (-1)) G.1 dL_refused_448 (by decide) ?_
  refine jw_icmp_ne G.1 515 dL_refused_449 (by decide) (fun c => absurd (by decide) c) (fun _ => ?_)
  exact rf_S7 hN G hok hF
set_option maxRecDepth 100000 in
set_option maxHeartbeats 4000000 in
theorem rf_S5 {K : KT} {l : Launch} {ad : Nat → Nat} {F : FS} (hN : kN K = 9) (G : CtxM K l cL_refused RL wsL_refused rmL_refused shX ad (some .boolean) (pI fun r μ' => r = 1 ∧ RepF μ' F)) (hok : FOk F) {μ : Mem} (hF : RepF μ F) : JW K (0, 0) shX ad μ 324 [(8, .int (2 : Int32)), (7, .int (13 : Int32)), (6, .int (27 : Int32)), (5, .int (0 : Int32)), (4, .int (fCount 6 F)), (3, .int (fCount 7 F)), (1, .long (fSeen F.1)), (0, .ref (ad 0))] [] := by
  refine jw_aload_n G.1 dL_refused_324 rfl 7 rfl ?_
  refine jw_iconst (v := 0) G.1 dL_refused_325 (by decide) ?_
  refine jw_iload G.1 dL_refused_326 3 rfl ?_
  refine jw_if_ne G.1 336 dL_refused_328 (by decide) (fun c => absurd (by decide) c) (fun _ => ?_)
  refine jw_bipush (v := 6) G.1 dL_refused_331 (by decide) ?_
  refine jw_goto (tgt := 337) G.1 dL_refused_333 (by decide) ?_
  refine jx_node G.1 XT hF trivial hok (z_node_w (n := 0) (by decide +kernel) (by decide +kernel)) gL_refused_X5_ofNode (Nat.le_of_ble_eq_true rfl) (Nat.le_of_ble_eq_true rfl) ⟨Nat.zero_le _, Nat.zero_le _⟩ (Nat.le_of_ble_eq_true rfl) dL_refused_337 (fun μ hF _ => ?_)
  refine jw_bipush (v := (-2)) G.1 dL_refused_340 (by decide) ?_
  refine jw_icmp_ne G.1 397 dL_refused_342 (by decide) (fun c => absurd (by decide) c) (fun _ => ?_)
  refine jw_aload_n G.1 dL_refused_345 rfl 7 rfl ?_
  refine jw_iload G.1 dL_refused_346 2 rfl ?_
  refine jw_bipush (v := 9) G.1 dL_refused_348 (by decide) ?_
  refine jx_key G.1 XT hF trivial hok (z_key_k (by decide +kernel)) gL_refused_X5_ofKey (Nat.le_of_ble_eq_true rfl) (Nat.le_of_ble_eq_true rfl) ⟨Nat.zero_le _, Nat.zero_le _⟩ (Nat.le_of_ble_eq_true rfl) dL_refused_350 (fun μ hF _ => ?_)
  refine jw_iconst (v := (-1)) G.1 dL_refused_353 (by decide) ?_
  refine jw_icmp_ne G.1 397 dL_refused_354 (by decide) (fun c => absurd (by decide) c) (fun _ => ?_)
  refine jw_aload_n G.1 dL_refused_357 rfl 7 rfl ?_
  refine jw_iconst (v := 0) G.1 dL_refused_358 (by decide) ?_
  refine jw_iload G.1 dL_refused_359 3 rfl ?_
  refine jw_if_ne G.1 368 dL_refused_361 (by decide) (fun c => absurd (by decide) c) (fun _ => ?_)
  refine jw_iconst (v := 4) G.1 dL_refused_364 (by decide) ?_
  refine jw_goto (tgt := 369) G.1 dL_refused_365 (by decide) ?_
  refine jx_key G.1 XT hF trivial hok (z_key_w (n := 0) (by decide +kernel) (by decide +kernel)) gL_refused_X5_ofKey (Nat.le_of_ble_eq_true rfl) (Nat.le_of_ble_eq_true rfl) ⟨Nat.zero_le _, Nat.zero_le _⟩ (Nat.le_of_ble_eq_true rfl) dL_refused_369 (fun μ hF _ => ?_)
  refine jw_bipush (v := (-2)) G.1 dL_refused_372 (by decide) ?_
  refine jw_icmp_ne G.1 397 dL_refused_374 (by decide) (fun c => absurd (by decide) c) (fun _ => ?_)
  refine jw_aload_n G.1 dL_refused_377 rfl 7 rfl ?_
  refine jw_iload G.1 dL_refused_378 3 rfl ?_
  refine jw_if_ne G.1 388 dL_refused_380 (by decide) (fun c => absurd (by decide) c) (fun _ => ?_)
  refine jw_bipush (v := 10) G.1 dL_refused_383 (by decide) ?_
  refine jw_goto (tgt := 389) G.1 dL_refused_385 (by decide) ?_
  refine jx_count G.1 XT hF trivial hok (z_count (by decide +kernel)) gL_refused_X5_count (Nat.le_of_ble_eq_true rfl) (Nat.le_of_ble_eq_true rfl) ⟨Nat.zero_le _, Nat.zero_le _⟩ (Nat.le_of_ble_eq_true rfl) dL_refused_389 (fun μ hF _ => ?_)
  refine jw_bipush (v := (-2)) G.1 dL_refused_392 (by decide) ?_
  refine jw_icmp_eq G.1 399 dL_refused_394 (by decide) (fun _ => ?_) (fun c => absurd (by decide) c)
  exact rf_S6 hN G hok hF
set_option maxRecDepth 100000 in
set_option maxHeartbeats 4000000 in
theorem rf_S4 {K : KT} {l : Launch} {ad : Nat → Nat} {F : FS} (hN : kN K = 9) (G : CtxM K l cL_refused RL wsL_refused rmL_refused shX ad (some .boolean) (pI fun r μ' => r = 1 ∧ RepF μ' F)) (hok : FOk F) {μ : Mem} (hF : RepF μ F) : JW K (0, 0) shX ad μ 263 [(8, .int (2 : Int32)), (7, .int (13 : Int32)), (6, .int (27 : Int32)), (5, .int (0 : Int32)), (4, .int (fCount 6 F)), (3, .int (fCount 7 F)), (1, .long (fSeen F.1)), (0, .ref (ad 0))] [] := by
  refine jw_aload_n G.1 dL_refused_263 rfl 7 rfl ?_
  refine jw_iload G.1 dL_refused_264 2 rfl ?_
  refine jx_read G.1 XT hF trivial hok (z_read (by decide +kernel)) gL_refused_X5_read (Nat.le_of_ble_eq_true rfl) (Nat.le_of_ble_eq_true rfl) ⟨Nat.zero_le _, Nat.zero_le _⟩ (Nat.le_of_ble_eq_true rfl) dL_refused_266 (fun μ hF _ => ?_)
  refine jw_iconst (v := (-1)) G.1 dL_refused_269 (by decide) ?_
  refine jw_icmp_ne G.1 397 dL_refused_270 (by decide) (fun c => absurd (by decide) c) (fun _ => ?_)
  refine jw_aload_n G.1 dL_refused_273 rfl 7 rfl ?_
  refine jw_iload G.1 dL_refused_274 1 rfl ?_
  refine jw_iconst (v := 0) G.1 dL_refused_276 (by decide) ?_
  refine jw_bipush (v := 9) G.1 dL_refused_277 (by decide) ?_
  refine jx_stone G.1 XT hF trivial hok (z_stone_n (by decide +kernel)) gL_refused_X5_stone (Nat.le_of_ble_eq_true rfl) (Nat.le_of_ble_eq_true rfl) ⟨Nat.zero_le _, Nat.zero_le _⟩ (Nat.le_of_ble_eq_true rfl) dL_refused_279 (fun μ hF _ => ?_)
  refine jw_iconst (v := (-1)) G.1 dL_refused_282 (by decide) ?_
  refine jw_icmp_ne G.1 397 dL_refused_283 (by decide) (fun c => absurd (by decide) c) (fun _ => ?_)
  refine jw_aload_n G.1 dL_refused_286 rfl 7 rfl ?_
  refine jw_iconst (v := 0) G.1 dL_refused_287 (by decide) ?_
  refine jw_iload G.1 dL_refused_288 3 rfl ?_
  refine jw_if_ne G.1 302 dL_refused_290 (by decide) (fun c => absurd (by decide) c) (fun _ => ?_)
  refine jw_aload_n G.1 dL_refused_293 rfl 7 rfl ?_
  refine jw_iconst (v := 0) G.1 dL_refused_294 (by decide) ?_
  refine jw_iconst (v := 0) G.1 dL_refused_295 (by decide) ?_
  refine jx_node G.1 XT hF trivial hok (node_0 (n := 0) (by decide)) gL_refused_X5_ofNode (Nat.le_of_ble_eq_true rfl) (Nat.le_of_ble_eq_true rfl) ⟨Nat.zero_le _, Nat.zero_le _⟩ (Nat.le_of_ble_eq_true rfl) dL_refused_296 (fun μ hF _ => ?_)
  refine jw_goto (tgt := 303) G.1 dL_refused_299 (by decide) ?_
  refine jw_bipush (v := 9) G.1 dL_refused_303 (by decide) ?_
  refine jx_stone G.1 XT hF trivial hok (z_stone_p (n := 0) (by decide +kernel) (idx_len hok)) gL_refused_X5_stone (Nat.le_of_ble_eq_true rfl) (Nat.le_of_ble_eq_true rfl) ⟨Nat.zero_le _, Nat.zero_le _⟩ (Nat.le_of_ble_eq_true rfl) dL_refused_305 (fun μ hF _ => ?_)
  refine jw_iconst (v := (-1)) G.1 dL_refused_308 (by decide) ?_
  refine jw_icmp_ne G.1 397 dL_refused_309 (by decide) (fun c => absurd (by decide) c) (fun _ => ?_)
  refine jw_aload_n G.1 dL_refused_312 rfl 7 rfl ?_
  refine jw_iload G.1 dL_refused_313 1 rfl ?_
  refine jw_bipush (v := 9) G.1 dL_refused_315 (by decide) ?_
  refine jx_node G.1 XT hF trivial hok (z_node_n (by decide +kernel)) gL_refused_X5_ofNode (Nat.le_of_ble_eq_true rfl) (Nat.le_of_ble_eq_true rfl) ⟨Nat.zero_le _, Nat.zero_le _⟩ (Nat.le_of_ble_eq_true rfl) dL_refused_317 (fun μ hF _ => ?_)
  refine jw_iconst (v := (-1)) G.1 dL_refused_320 (by decide) ?_
  refine jw_icmp_ne G.1 397 dL_refused_321 (by decide) (fun c => absurd (by decide) c) (fun _ => ?_)
  exact rf_S5 hN G hok hF
set_option maxRecDepth 100000 in
set_option maxHeartbeats 4000000 in
theorem rf_S3 {K : KT} {l : Launch} {ad : Nat → Nat} {F : FS} (hN : kN K = 9) (G : CtxM K l cL_refused RL wsL_refused rmL_refused shX ad (some .boolean) (pI fun r μ' => r = 1 ∧ RepF μ' F)) (hok : FOk F) {μ : Mem} (hF : RepF μ F) : JW K (0, 0) shX ad μ 204 [(8, .int (2 : Int32)), (7, .int (13 : Int32)), (6, .int (27 : Int32)), (5, .int (0 : Int32)), (4, .int (fCount 6 F)), (3, .int (fCount 7 F)), (1, .long (fSeen F.1)), (0, .ref (ad 0))] [] := by
  refine jw_aload_n G.1 dL_refused_204 rfl 7 rfl ?_
  refine jw_iconst (v := 1) G.1 dL_refused_205 (by decide) ?_
  refine jw_iload G.1 dL_refused_206 2 rfl ?_
  refine jw_bipush (v := 26) G.1 dL_refused_208 (by decide) ?_
  refine jw_iconst (v := 1) G.1 dL_refused_210 (by decide) ?_
  refine jx_send G.1 XT hF trivial hok (zs_a (K := 1) (N := 1) (by decide +kernel) (by decide +kernel) (by decide +kernel)) gL_refused_X5_send (Nat.le_of_ble_eq_true rfl) (Nat.le_of_ble_eq_true rfl) ⟨Nat.zero_le _, Nat.zero_le _⟩ (Nat.le_of_ble_eq_true rfl) dL_refused_211 (fun μ hF _ => ?_)
  refine jw_iconst (v := (-1)) G.1 dL_refused_214 (by decide) ?_
  refine jw_icmp_ne G.1 251 dL_refused_215 (by decide) (fun c => absurd (by decide) c) (fun _ => ?_)
  refine jw_aload_n G.1 dL_refused_218 rfl 7 rfl ?_
  refine jw_iload G.1 dL_refused_219 3 rfl ?_
  refine jw_if_ne G.1 228 dL_refused_221 (by decide) (fun c => absurd (by decide) c) (fun _ => ?_)
  refine jw_iconst (v := 0) G.1 dL_refused_224 (by decide) ?_
  refine jw_goto (tgt := 229) G.1 dL_refused_225 (by decide) ?_
  refine jw_iconst (v := 3) G.1 dL_refused_229 (by decide) ?_
  refine jw_iconst (v := 4) G.1 dL_refused_230 (by decide) ?_
  refine jw_iconst (v := 0) G.1 dL_refused_231 (by decide) ?_
  refine jx_send G.1 XT hF trivial hok (zs_l (K := 0) (N := 0) (f := 3) (l := 4) (by decide +kernel) (by decide +kernel) (by decide +kernel) (by decide +kernel) (by decide)) gL_refused_X5_send (Nat.le_of_ble_eq_true rfl) (Nat.le_of_ble_eq_true rfl) ⟨Nat.zero_le _, Nat.zero_le _⟩ (Nat.le_of_ble_eq_true rfl) dL_refused_232 (fun μ hF _ => ?_)
  refine jw_iconst (v := (-1)) G.1 dL_refused_235 (by decide) ?_
  refine jw_icmp_ne G.1 251 dL_refused_236 (by decide) (fun c => absurd (by decide) c) (fun _ => ?_)
  refine jw_aload_n G.1 dL_refused_239 rfl 7 rfl ?_
  refine jw_iconst (v := 1) G.1 dL_refused_240 (by decide) ?_
  refine jw_iconst (v := 5) G.1 dL_refused_241 (by decide) ?_
  refine jw_iconst (v := 4) G.1 dL_refused_242 (by decide) ?_
  refine jw_iconst (v := 1) G.1 dL_refused_243 (by decide) ?_
  refine jx_send G.1 XT hF trivial hok (zs_l (K := 1) (N := 1) (f := 5) (l := 4) (by decide +kernel) (by decide +kernel) (by decide +kernel) (by decide +kernel) (by decide)) gL_refused_X5_send (Nat.le_of_ble_eq_true rfl) (Nat.le_of_ble_eq_true rfl) ⟨Nat.zero_le _, Nat.zero_le _⟩ (Nat.le_of_ble_eq_true rfl) dL_refused_244 (fun μ hF _ => ?_)
  refine jw_iconst (v := (-1)) G.1 dL_refused_247 (by decide) ?_
  refine jw_icmp_eq G.1 253 dL_refused_248 (by decide) (fun _ => ?_) (fun c => absurd (by decide) c)
  refine jw_aload_n G.1 dL_refused_253 rfl 7 rfl ?_
  refine jw_iload G.1 dL_refused_254 1 rfl ?_
  refine jx_empty G.1 XT hF trivial hok (z_empty (by decide +kernel)) gL_refused_X5_empty (Nat.le_of_ble_eq_true rfl) (Nat.le_of_ble_eq_true rfl) ⟨Nat.zero_le _, Nat.zero_le _⟩ (Nat.le_of_ble_eq_true rfl) dL_refused_256 (fun μ hF _ => ?_)
  refine jw_iconst (v := (-1)) G.1 dL_refused_259 (by decide) ?_
  refine jw_icmp_ne G.1 397 dL_refused_260 (by decide) (fun c => absurd (by decide) c) (fun _ => ?_)
  exact rf_S4 hN G hok hF
set_option maxRecDepth 100000 in
set_option maxHeartbeats 4000000 in
theorem rf_S2 {K : KT} {l : Launch} {ad : Nat → Nat} {F : FS} (hN : kN K = 9) (G : CtxM K l cL_refused RL wsL_refused rmL_refused shX ad (some .boolean) (pI fun r μ' => r = 1 ∧ RepF μ' F)) (hok : FOk F) {μ : Mem} (hF : RepF μ F) : JW K (0, 0) shX ad μ 135 [(8, .int (2 : Int32)), (7, .int (13 : Int32)), (6, .int (27 : Int32)), (5, .int (0 : Int32)), (4, .int (fCount 6 F)), (3, .int (fCount 7 F)), (1, .long (fSeen F.1)), (0, .ref (ad 0))] [] := by
  refine jw_aload_n G.1 dL_refused_135 rfl 7 rfl ?_
  refine jw_iconst (v := 1) G.1 dL_refused_136 (by decide) ?_
  refine jw_iload G.1 dL_refused_137 2 rfl ?_
  refine jw_iload G.1 dL_refused_139 2 rfl ?_
  refine jw_iload G.1 dL_refused_141 3 rfl ?_
  refine jw_if_ne G.1 152 dL_refused_143 (by decide) (fun c => absurd (by decide) c) (fun _ => ?_)
  refine jw_sipush (v := 1000) G.1 dL_refused_146 (by decide) ?_
  refine jw_goto (tgt := 153) G.1 dL_refused_149 (by decide) ?_
  refine jx_send G.1 XT hF trivial hok (zs_n (K := 1) (by decide +kernel) (by decide +kernel)) gL_refused_X5_send (Nat.le_of_ble_eq_true rfl) (Nat.le_of_ble_eq_true rfl) ⟨Nat.zero_le _, Nat.zero_le _⟩ (Nat.le_of_ble_eq_true rfl) dL_refused_153 (fun μ hF _ => ?_)
  refine jw_bipush (v := (-2)) G.1 dL_refused_156 (by decide) ?_
  refine jw_icmp_ne G.1 175 dL_refused_158 (by decide) (fun c => absurd (by decide) c) (fun _ => ?_)
  refine jw_aload_n G.1 dL_refused_161 rfl 7 rfl ?_
  refine jw_iconst (v := 2) G.1 dL_refused_162 (by decide) ?_
  refine jw_iload G.1 dL_refused_163 2 rfl ?_
  refine jw_iconst (v := 0) G.1 dL_refused_165 (by decide) ?_
  refine jw_iconst (v := 1) G.1 dL_refused_166 (by decide) ?_
  refine jx_send G.1 XT hF trivial hok (zs_n (K := 2) (by decide +kernel) (by decide +kernel)) gL_refused_X5_send (Nat.le_of_ble_eq_true rfl) (Nat.le_of_ble_eq_true rfl) ⟨Nat.zero_le _, Nat.zero_le _⟩ (Nat.le_of_ble_eq_true rfl) dL_refused_167 (fun μ hF _ => ?_)
  refine jw_bipush (v := (-2)) G.1 dL_refused_170 (by decide) ?_
  refine jw_icmp_eq G.1 177 dL_refused_172 (by decide) (fun _ => ?_) (fun c => absurd (by decide) c)
  refine jw_aload_n G.1 dL_refused_177 rfl 7 rfl ?_
  refine jw_iconst (v := 0) G.1 dL_refused_178 (by decide) ?_
  refine jw_iload G.1 dL_refused_179 2 rfl ?_
  refine jw_iload G.1 dL_refused_181 2 rfl ?_
  refine jw_iconst (v := 1) G.1 dL_refused_183 (by decide) ?_
  refine jx_send G.1 XT hF trivial hok (zs_a (K := 0) (N := 1) (by decide +kernel) (by decide +kernel) (by decide +kernel)) gL_refused_X5_send (Nat.le_of_ble_eq_true rfl) (Nat.le_of_ble_eq_true rfl) ⟨Nat.zero_le _, Nat.zero_le _⟩ (Nat.le_of_ble_eq_true rfl) dL_refused_184 (fun μ hF _ => ?_)
  refine jw_iconst (v := (-1)) G.1 dL_refused_187 (by decide) ?_
  refine jw_icmp_ne G.1 251 dL_refused_188 (by decide) (fun c => absurd (by decide) c) (fun _ => ?_)
  refine jw_aload_n G.1 dL_refused_191 rfl 7 rfl ?_
  refine jw_iconst (v := 1) G.1 dL_refused_192 (by decide) ?_
  refine jw_iconst (v := 0) G.1 dL_refused_193 (by decide) ?_
  refine jw_iload G.1 dL_refused_194 2 rfl ?_
  refine jw_iconst (v := 1) G.1 dL_refused_196 (by decide) ?_
  refine jx_send G.1 XT hF trivial hok (zs_b (K := 1) (N := 1) (f := 0) (by decide +kernel) (by decide +kernel) (by decide +kernel) (by decide +kernel)) gL_refused_X5_send (Nat.le_of_ble_eq_true rfl) (Nat.le_of_ble_eq_true rfl) ⟨Nat.zero_le _, Nat.zero_le _⟩ (Nat.le_of_ble_eq_true rfl) dL_refused_197 (fun μ hF _ => ?_)
  refine jw_iconst (v := (-1)) G.1 dL_refused_200 (by decide) ?_
  refine jw_icmp_ne G.1 251 dL_refused_201 (by decide) (fun c => absurd (by decide) c) (fun _ => ?_)
  exact rf_S3 hN G hok hF
set_option maxRecDepth 100000 in
set_option maxHeartbeats 4000000 in
theorem rf_S1 {K : KT} {l : Launch} {ad : Nat → Nat} {F : FS} (hN : kN K = 9) (G : CtxM K l cL_refused RL wsL_refused rmL_refused shX ad (some .boolean) (pI fun r μ' => r = 1 ∧ RepF μ' F)) (hok : FOk F) {μ : Mem} (hF : RepF μ F) : JW K (0, 0) shX ad μ 60 [(7, .int (13 : Int32)), (6, .int (27 : Int32)), (5, .int (0 : Int32)), (4, .int (fCount 6 F)), (3, .int (fCount 7 F)), (1, .long (fSeen F.1)), (0, .ref (ad 0))] [] := by
  have hN_8 : 8 < kN K := by rw [hN]; decide
  refine jw_iconst (v := 2) G.1 dL_refused_60 (by decide) ?_
  refine jw_goto (tgt := 65) G.1 dL_refused_61 (by decide) ?_
  refine jw_istore (lw := [(8, .int _), (7, .int _), (6, .int _), (5, .int _), (4, .int _), (3, .int _), (1, .long _), (0, .ref _)]) G.1 dL_refused_65 hN_8 rfl ?_
  refine jw_aload_n G.1 dL_refused_67 rfl 7 rfl ?_
  refine jw_iload G.1 dL_refused_68 0 rfl ?_
  refine jw_iconst (v := 1) G.1 dL_refused_70 (by decide) ?_
  refine jx_set G.1 XT hF trivial hok (z_set_s (by decide +kernel)) gL_refused_X5_set (Nat.le_of_ble_eq_true rfl) (Nat.le_of_ble_eq_true rfl) ⟨Nat.zero_le _, Nat.zero_le _⟩ (Nat.le_of_ble_eq_true rfl) dL_refused_71 (fun μ hF _ => ?_)
  refine jw_bipush (v := (-2)) G.1 dL_refused_74 (by decide) ?_
  refine jw_icmp_ne G.1 175 dL_refused_76 (by decide) (fun c => absurd (by decide) c) (fun _ => ?_)
  refine jw_aload_n G.1 dL_refused_79 rfl 7 rfl ?_
  refine jw_iconst (v := 0) G.1 dL_refused_80 (by decide) ?_
  refine jw_iload G.1 dL_refused_81 3 rfl ?_
  refine jw_if_ne G.1 91 dL_refused_83 (by decide) (fun c => absurd (by decide) c) (fun _ => ?_)
  refine jw_bipush (v := 11) G.1 dL_refused_86 (by decide) ?_
  refine jw_goto (tgt := 92) G.1 dL_refused_88 (by decide) ?_
  refine jx_set G.1 XT hF trivial hok (z_set_0 (by decide +kernel) (by decide +kernel)) gL_refused_X5_set (Nat.le_of_ble_eq_true rfl) (Nat.le_of_ble_eq_true rfl) ⟨Nat.zero_le _, Nat.zero_le _⟩ (Nat.le_of_ble_eq_true rfl) dL_refused_92 (fun μ hF _ => ?_)
  refine jw_bipush (v := (-2)) G.1 dL_refused_95 (by decide) ?_
  refine jw_icmp_ne G.1 175 dL_refused_97 (by decide) (fun c => absurd (by decide) c) (fun _ => ?_)
  refine jw_aload_n G.1 dL_refused_100 rfl 7 rfl ?_
  refine jw_iconst (v := 1) G.1 dL_refused_101 (by decide) ?_
  refine jw_iload G.1 dL_refused_102 0 rfl ?_
  refine jx_set G.1 XT hF trivial hok (z_set_1 (by decide +kernel) (by decide +kernel)) gL_refused_X5_set (Nat.le_of_ble_eq_true rfl) (Nat.le_of_ble_eq_true rfl) ⟨Nat.zero_le _, Nat.zero_le _⟩ (Nat.le_of_ble_eq_true rfl) dL_refused_104 (fun μ hF _ => ?_)
  refine jw_bipush (v := (-2)) G.1 dL_refused_107 (by decide) ?_
  refine jw_icmp_ne G.1 175 dL_refused_109 (by decide) (fun c => absurd (by decide) c) (fun _ => ?_)
  refine jw_aload_n G.1 dL_refused_112 rfl 7 rfl ?_
  refine jw_iload G.1 dL_refused_113 3 rfl ?_
  refine jw_if_ne G.1 122 dL_refused_115 (by decide) (fun c => absurd (by decide) c) (fun _ => ?_)
  refine jw_iconst (v := 3) G.1 dL_refused_118 (by decide) ?_
  refine jw_goto (tgt := 123) G.1 dL_refused_119 (by decide) ?_
  refine jw_iload G.1 dL_refused_123 2 rfl ?_
  refine jw_iconst (v := 0) G.1 dL_refused_125 (by decide) ?_
  refine jw_iconst (v := 0) G.1 dL_refused_126 (by decide) ?_
  refine jx_send G.1 XT hF trivial hok (zs_k (by decide +kernel)) gL_refused_X5_send (Nat.le_of_ble_eq_true rfl) (Nat.le_of_ble_eq_true rfl) ⟨Nat.zero_le _, Nat.zero_le _⟩ (Nat.le_of_ble_eq_true rfl) dL_refused_127 (fun μ hF _ => ?_)
  refine jw_bipush (v := (-2)) G.1 dL_refused_130 (by decide) ?_
  refine jw_icmp_ne G.1 175 dL_refused_132 (by decide) (fun c => absurd (by decide) c) (fun _ => ?_)
  exact rf_S2 hN G hok hF
set_option maxRecDepth 100000 in
set_option maxHeartbeats 4000000 in
theorem rf_S0 {K : KT} {l : Launch} {ad : Nat → Nat} {F : FS} (hN : kN K = 9) (G : CtxM K l cL_refused RL wsL_refused rmL_refused shX ad (some .boolean) (pI fun r μ' => r = 1 ∧ RepF μ' F)) (hok : FOk F) {μ : Mem} (hF : RepF μ F) : JW K (0, 0) shX ad μ 0 [(0, .ref (ad 0))] [] := by
  have hN_2 : 2 < kN K := by rw [hN]; decide
  have hN_3 : 3 < kN K := by rw [hN]; decide
  have hN_4 : 4 < kN K := by rw [hN]; decide
  have hN_5 : 5 < kN K := by rw [hN]; decide
  have hN_6 : 6 < kN K := by rw [hN]; decide
  have hN_7 : 7 < kN K := by rw [hN]; decide
  refine jw_aload_n G.1 dL_refused_0 rfl 0 rfl ?_
  refine jx_seen G.1 XT hF trivial hok gL_refused_L_seen (Nat.le_of_ble_eq_true rfl) (Nat.le_of_ble_eq_true rfl) ⟨Nat.zero_le _, Nat.zero_le _⟩ (Nat.le_of_ble_eq_true rfl) dL_refused_1 (fun μ hF _ => ?_)
  refine jw_lstore_n (lw := [(1, .long _), (0, .ref _)]) G.1 dL_refused_4 rfl hN_2 rfl ?_
  refine jw_aload_n G.1 dL_refused_5 rfl 1 rfl ?_
  refine jw_bipush (v := 7) G.1 dL_refused_6 (by decide) ?_
  refine jx_count G.1 XT hF trivial hok (show fCount 7 F = fCount 7 F from rfl) gL_refused_X5_count (Nat.le_of_ble_eq_true rfl) (Nat.le_of_ble_eq_true rfl) ⟨Nat.zero_le _, Nat.zero_le _⟩ (Nat.le_of_ble_eq_true rfl) dL_refused_8 (fun μ hF _ => ?_)
  refine jw_istore_n (lw := [(3, .int _), (1, .long _), (0, .ref _)]) G.1 dL_refused_11 rfl hN_3 rfl ?_
  refine jw_aload_n G.1 dL_refused_12 rfl 2 rfl ?_
  refine jw_bipush (v := 6) G.1 dL_refused_13 (by decide) ?_
  refine jx_count G.1 XT hF trivial hok (show fCount 6 F = fCount 6 F from rfl) gL_refused_X5_count (Nat.le_of_ble_eq_true rfl) (Nat.le_of_ble_eq_true rfl) ⟨Nat.zero_le _, Nat.zero_le _⟩ (Nat.le_of_ble_eq_true rfl) dL_refused_15 (fun μ hF _ => ?_)
  refine jw_istore (lw := [(4, .int _), (3, .int _), (1, .long _), (0, .ref _)]) G.1 dL_refused_18 hN_4 rfl ?_
  refine jw_iconst (v := 0) G.1 dL_refused_20 (by decide) ?_
  refine jw_istore (lw := [(5, .int _), (4, .int _), (3, .int _), (1, .long _), (0, .ref _)]) G.1 dL_refused_21 hN_5 rfl ?_
  refine jw_iload G.1 dL_refused_23 0 rfl ?_
  refine jw_iconst (v := 2) G.1 dL_refused_25 (by decide) ?_
  refine jw_icmp_ge G.1 555 dL_refused_26 (by decide) (fun c => absurd c (by decide)) (fun _ => ?_)
  refine jw_iload G.1 dL_refused_29 0 rfl ?_
  refine jw_if_ne G.1 39 dL_refused_31 (by decide) (fun c => absurd (by decide) c) (fun _ => ?_)
  refine jw_bipush (v := 27) G.1 dL_refused_34 (by decide) ?_
  refine jw_goto (tgt := 40) G.1 dL_refused_36 (by decide) ?_
  refine jw_istore (lw := [(6, .int _), (5, .int _), (4, .int _), (3, .int _), (1, .long _), (0, .ref _)]) G.1 dL_refused_40 hN_6 rfl ?_
  refine jw_iload G.1 dL_refused_42 1 rfl ?_
  refine jw_if_ne G.1 52 dL_refused_44 (by decide) (fun c => absurd (by decide) c) (fun _ => ?_)
  refine jw_bipush (v := 13) G.1 dL_refused_47 (by decide) ?_
  refine jw_goto (tgt := 53) G.1 dL_refused_49 (by decide) ?_
  refine jw_istore (lw := [(7, .int _), (6, .int _), (5, .int _), (4, .int _), (3, .int _), (1, .long _), (0, .ref _)]) G.1 dL_refused_53 hN_7 rfl ?_
  refine jw_iload G.1 dL_refused_55 2 rfl ?_
  refine jw_if_ne G.1 64 dL_refused_57 (by decide) (fun c => absurd (by decide) c) (fun _ => ?_)
  exact rf_S1 hN G hok hF
theorem cnL_refused (l : Launch) {F : FS} (hok : FOk F) : ∀ μ, RepF μ F → Con l yL_refused wsL_refused rmL_refused shX (fun ad => [.ref (ad 0)]) μ (pI fun r μ' => r = 1 ∧ RepF μ' F) := fun μ hF => Con.mk (cc := cL_refused) (maxL := 9) (ret := (some .boolean)) (own := RL) (by decide) rfl rfl (fun _ => Nat.le_of_ble_eq_true rfl) (fun K ad hN G => rf_S0 hN G hok hF)
theorem jx_refused {K : KT} {l : Launch} {cc : ByteArray} {own : String} {Ts : List Cond} {rm : Room} {sh : List Ds} {ad : Nat → Nat} {cs : Nat × Nat} {μ : Mem} {pc index : Nat} {lv : List (Nat × Value)} {rest : List Value} {E : Mem → Prop} {F : FS} (C : Ctx K l cc own Ts rm sh ad) (X : XC sh E) (hF : RepF μ F) (hE : E μ) (hok : FOk F) (hG : GoodIn Ts (va_wsS own index yL_refused wsL_refused)) (hfr : 40 ≤ rm.frames) (hlo : 1400 ≤ rm.locals) (hcs : cs.1 ≤ rm.cells ∧ cs.2 ≤ rm.slots) (hW : (rest.map fun v => v.category).sum ≤ 8) (d : decode cc pc = .ok (.invokestatic index, 3)) (kk : ∀ μ', RepF μ' F → E μ' → JW K cs sh ad μ' (pc + 3) lv (.int 1 :: rest)) : JW K cs sh ad μ pc lv (.ref (ad 0) :: rest) := by
  refine jw_callS (i := e1 0) (rest := rest) (As := [.ref (ad 0)]) C (cnL_refused l hok _ (law_0 hF)) X.1 rfl (miL_refused.S C hG ⟨rfl, rfl, Nat.le_trans (Nat.le_of_ble_eq_true rfl) hfr, Nat.le_trans (Nat.le_of_ble_eq_true rfl) hlo⟩) rfl rfl hW d hcs (fun v μ' h => ?_)
  obtain ⟨r, rfl, rfl, h2⟩ := h
  obtain ⟨g1, g2⟩ := XC_g X hE h2
  exact kk _ g1 g2
