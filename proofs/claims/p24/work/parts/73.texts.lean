/-! texts -/
set_option maxRecDepth 100000 in
set_option maxHeartbeats 4000000 in
theorem tx_S28 {K : KT} {l : Launch} {ad : Nat → Nat} (hN : kN K = 2) (G : CtxF K l cL_texts RL wsL_texts rmL_texts EX5 (some .boolean) (fun v => v = some (.int (1 : Int32))) 2464 108472) (C : Ctx K l cL_texts RL wsL_texts rmL_texts shX ad) {μ : Mem} (hF : RepF μ tx_F67) : JW K (2464, 108472) shX ad μ 547 [(1, .int (61 : Int32)), (0, .ref (ad 0))] [] := by
  refine jw_iconst (v := 1) C dL_texts_547 (by decide) ?_
  refine jw_goto (tgt := 552) C dL_texts_548 (by decide) ?_
  exact jw_fret G rfl rfl (Nat.le_of_ble_eq_true rfl) (Nat.le_of_ble_eq_true rfl) dL_texts_552
set_option maxRecDepth 100000 in
set_option maxHeartbeats 4000000 in
theorem tx_S27 {K : KT} {l : Launch} {ad : Nat → Nat} (hN : kN K = 2) (G : CtxF K l cL_texts RL wsL_texts rmL_texts EX5 (some .boolean) (fun v => v = some (.int (1 : Int32))) 2464 108472) (C : Ctx K l cL_texts RL wsL_texts rmL_texts shX ad) {μ : Mem} (hF : RepF μ tx_F64) : JW K (2464, 108472) shX ad μ 480 [(1, .int (61 : Int32)), (0, .ref (ad 0))] [] := by
  refine jw_aload_n C dL_texts_480 rfl 1 rfl ?_
  refine jw_ldc2 (v := 14080) C (List.mem_of_getElem? (i := 34) rfl) dL_texts_481 ?_
  refine jx_put C XT hF trivial tx_O64 tx_z9 gL_texts_X5_put (Nat.le_of_ble_eq_true rfl) (Nat.le_of_ble_eq_true rfl) ⟨Nat.le_of_ble_eq_true rfl, Nat.le_of_ble_eq_true rfl⟩ (Nat.le_of_ble_eq_true rfl) dL_texts_484 (fun μ hF _ => ?_)
  refine jw_bipush (v := (-2)) C dL_texts_487 (by decide) ?_
  refine jw_icmp_ne C 551 dL_texts_489 (by decide) (fun c => absurd (by decide) c) (fun _ => ?_)
  refine jw_aload_n C dL_texts_492 rfl 1 rfl ?_
  refine jx_fault C XT hF trivial tx_O64 tx_v10 gL_texts_X5_fault (Nat.le_of_ble_eq_true rfl) (Nat.le_of_ble_eq_true rfl) ⟨Nat.le_of_ble_eq_true rfl, Nat.le_of_ble_eq_true rfl⟩ (Nat.le_of_ble_eq_true rfl) dL_texts_493 (fun μ hF _ => ?_)
  refine jw_iconst (v := 1) C dL_texts_496 (by decide) ?_
  refine jw_icmp_ne C 551 dL_texts_497 (by decide) (fun c => absurd (by decide) c) (fun _ => ?_)
  refine jw_aload_n C dL_texts_500 rfl 1 rfl ?_
  refine jx_wipe C XT hF trivial tx_O64 tx_E65 gL_texts_X5_wipe (Nat.le_of_ble_eq_true rfl) (Nat.le_of_ble_eq_true rfl) ⟨Nat.le_of_ble_eq_true rfl, Nat.le_of_ble_eq_true rfl⟩ (Nat.le_of_ble_eq_true rfl) dL_texts_501 (fun μ hF _ => ?_)
  refine jw_bipush (v := 60) C dL_texts_504 (by decide) ?_
  refine jw_icmp_ne C 551 dL_texts_506 (by decide) (fun c => absurd (by decide) c) (fun _ => ?_)
  refine jw_aload_n C dL_texts_509 rfl 1 rfl ?_
  refine jx_wipe C XT hF trivial tx_O65 tx_E66 gL_texts_X5_wipe (Nat.le_of_ble_eq_true rfl) (Nat.le_of_ble_eq_true rfl) ⟨Nat.le_of_ble_eq_true rfl, Nat.le_of_ble_eq_true rfl⟩ (Nat.le_of_ble_eq_true rfl) dL_texts_510 (fun μ hF _ => ?_)
  refine jw_if_ne C 551 dL_texts_513 (by decide) (fun c => absurd (by decide) c) (fun _ => ?_)
  refine jw_aload_n C dL_texts_516 rfl 1 rfl ?_
  refine jx_undo C XT hF trivial tx_O66 tx_E67 gL_texts_X5_undo (Nat.le_of_ble_eq_true rfl) (Nat.le_of_ble_eq_true rfl) ⟨Nat.le_of_ble_eq_true rfl, Nat.le_of_ble_eq_true rfl⟩ (Nat.le_of_ble_eq_true rfl) dL_texts_517 (fun μ hF _ => ?_)
  refine jw_if_ne C 551 dL_texts_520 (by decide) (fun c => absurd (by decide) c) (fun _ => ?_)
  refine jw_aload_n C dL_texts_523 rfl 1 rfl ?_
  refine jx_undo C XT hF trivial tx_O67 tx_z11 gL_texts_X5_undo (Nat.le_of_ble_eq_true rfl) (Nat.le_of_ble_eq_true rfl) ⟨Nat.le_of_ble_eq_true rfl, Nat.le_of_ble_eq_true rfl⟩ (Nat.le_of_ble_eq_true rfl) dL_texts_524 (fun μ hF _ => ?_)
  refine jw_bipush (v := (-5)) C dL_texts_527 (by decide) ?_
  refine jw_icmp_ne C 551 dL_texts_529 (by decide) (fun c => absurd (by decide) c) (fun _ => ?_)
  refine jw_aload_n C dL_texts_532 rfl 1 rfl ?_
  refine jw_iconst (v := 1) C dL_texts_533 (by decide) ?_
  refine jx_count C XT hF trivial tx_O67 tx_v12 gL_texts_X5_count (Nat.le_of_ble_eq_true rfl) (Nat.le_of_ble_eq_true rfl) ⟨Nat.le_of_ble_eq_true rfl, Nat.le_of_ble_eq_true rfl⟩ (Nat.le_of_ble_eq_true rfl) dL_texts_534 (fun μ hF _ => ?_)
  refine jw_if_ne C 551 dL_texts_537 (by decide) (fun c => absurd (by decide) c) (fun _ => ?_)
  refine jw_aload_n C dL_texts_540 rfl 1 rfl ?_
  refine jx_refused C XT hF trivial tx_O67 gL_texts_L_refused (Nat.le_of_ble_eq_true rfl) (Nat.le_of_ble_eq_true rfl) ⟨Nat.le_of_ble_eq_true rfl, Nat.le_of_ble_eq_true rfl⟩ (Nat.le_of_ble_eq_true rfl) dL_texts_541 (fun μ hF _ => ?_)
  refine jw_if_eq C 551 dL_texts_544 (by decide) (fun c => absurd c (by decide)) (fun _ => ?_)
  exact tx_S28 hN G C hF
set_option maxRecDepth 100000 in
set_option maxHeartbeats 4000000 in
theorem tx_S26 {K : KT} {l : Launch} {ad : Nat → Nat} (hN : kN K = 2) (G : CtxF K l cL_texts RL wsL_texts rmL_texts EX5 (some .boolean) (fun v => v = some (.int (1 : Int32))) 2464 108472) (C : Ctx K l cL_texts RL wsL_texts rmL_texts shX ad) {μ : Mem} (hF : RepF μ tx_F62) : JW K (2464, 108472) shX ad μ 462 [(1, .int (58 : Int32)), (0, .ref (ad 0))] [] := by
  have hN_1 : 1 < kN K := by rw [hN]; decide
  refine jw_iinc (lw := [(1, .int _), (0, .ref _)]) (q := 0) (v := 59) C dL_texts_462 rfl (by decide) hN_1 rfl ?_
  refine jw_goto (tgt := 443) C dL_texts_465 (by decide) ?_
  refine jw_iload_n C dL_texts_443 rfl 0 rfl ?_
  refine jw_bipush (v := 60) C dL_texts_444 (by decide) ?_
  refine jw_icmp_gt C 468 dL_texts_446 (by decide) (fun c => absurd c (by decide)) (fun _ => ?_)
  refine jw_aload_n C dL_texts_449 rfl 1 rfl ?_
  refine jw_ldc2 (v := 55) C (List.mem_of_getElem? (i := 33) rfl) dL_texts_450 ?_
  refine jx_put C XT hF trivial tx_O62 tx_E63 gL_texts_X5_put (Nat.le_of_ble_eq_true rfl) (Nat.le_of_ble_eq_true rfl) ⟨Nat.le_of_ble_eq_true rfl, Nat.le_of_ble_eq_true rfl⟩ (Nat.le_of_ble_eq_true rfl) dL_texts_453 (fun μ hF _ => ?_)
  refine jw_iload_n C dL_texts_456 rfl 0 rfl ?_
  refine jw_icmp_eq C 462 dL_texts_457 (by decide) (fun _ => ?_) (fun c => absurd (by decide) c)
  refine jw_iinc (lw := [(1, .int _), (0, .ref _)]) (q := 0) (v := 60) C dL_texts_462 rfl (by decide) hN_1 rfl ?_
  refine jw_goto (tgt := 443) C dL_texts_465 (by decide) ?_
  refine jw_iload_n C dL_texts_443 rfl 0 rfl ?_
  refine jw_bipush (v := 60) C dL_texts_444 (by decide) ?_
  refine jw_icmp_gt C 468 dL_texts_446 (by decide) (fun c => absurd c (by decide)) (fun _ => ?_)
  refine jw_aload_n C dL_texts_449 rfl 1 rfl ?_
  refine jw_ldc2 (v := 55) C (List.mem_of_getElem? (i := 33) rfl) dL_texts_450 ?_
  refine jx_put C XT hF trivial tx_O63 tx_E64 gL_texts_X5_put (Nat.le_of_ble_eq_true rfl) (Nat.le_of_ble_eq_true rfl) ⟨Nat.le_of_ble_eq_true rfl, Nat.le_of_ble_eq_true rfl⟩ (Nat.le_of_ble_eq_true rfl) dL_texts_453 (fun μ hF _ => ?_)
  refine jw_iload_n C dL_texts_456 rfl 0 rfl ?_
  refine jw_icmp_eq C 462 dL_texts_457 (by decide) (fun _ => ?_) (fun c => absurd (by decide) c)
  refine jw_iinc (lw := [(1, .int _), (0, .ref _)]) (q := 0) (v := 61) C dL_texts_462 rfl (by decide) hN_1 rfl ?_
  refine jw_goto (tgt := 443) C dL_texts_465 (by decide) ?_
  refine jw_iload_n C dL_texts_443 rfl 0 rfl ?_
  refine jw_bipush (v := 60) C dL_texts_444 (by decide) ?_
  refine jw_icmp_gt C 468 dL_texts_446 (by decide) (fun _ => ?_) (fun c => absurd (by decide) c)
  refine jw_aload_n C dL_texts_468 rfl 1 rfl ?_
  refine jw_ldc2 (v := 55) C (List.mem_of_getElem? (i := 33) rfl) dL_texts_469 ?_
  refine jx_put C XT hF trivial tx_O64 tx_z8 gL_texts_X5_put (Nat.le_of_ble_eq_true rfl) (Nat.le_of_ble_eq_true rfl) ⟨Nat.le_of_ble_eq_true rfl, Nat.le_of_ble_eq_true rfl⟩ (Nat.le_of_ble_eq_true rfl) dL_texts_472 (fun μ hF _ => ?_)
  refine jw_bipush (v := (-4)) C dL_texts_475 (by decide) ?_
  refine jw_icmp_ne C 551 dL_texts_477 (by decide) (fun c => absurd (by decide) c) (fun _ => ?_)
  exact tx_S27 hN G C hF
set_option maxRecDepth 100000 in
set_option maxHeartbeats 4000000 in
theorem tx_S25 {K : KT} {l : Launch} {ad : Nat → Nat} (hN : kN K = 2) (G : CtxF K l cL_texts RL wsL_texts rmL_texts EX5 (some .boolean) (fun v => v = some (.int (1 : Int32))) 2464 108472) (C : Ctx K l cL_texts RL wsL_texts rmL_texts shX ad) {μ : Mem} (hF : RepF μ tx_F59) : JW K (2464, 108472) shX ad μ 462 [(1, .int (55 : Int32)), (0, .ref (ad 0))] [] := by
  have hN_1 : 1 < kN K := by rw [hN]; decide
  refine jw_iinc (lw := [(1, .int _), (0, .ref _)]) (q := 0) (v := 56) C dL_texts_462 rfl (by decide) hN_1 rfl ?_
  refine jw_goto (tgt := 443) C dL_texts_465 (by decide) ?_
  refine jw_iload_n C dL_texts_443 rfl 0 rfl ?_
  refine jw_bipush (v := 60) C dL_texts_444 (by decide) ?_
  refine jw_icmp_gt C 468 dL_texts_446 (by decide) (fun c => absurd c (by decide)) (fun _ => ?_)
  refine jw_aload_n C dL_texts_449 rfl 1 rfl ?_
  refine jw_ldc2 (v := 55) C (List.mem_of_getElem? (i := 33) rfl) dL_texts_450 ?_
  refine jx_put C XT hF trivial tx_O59 tx_E60 gL_texts_X5_put (Nat.le_of_ble_eq_true rfl) (Nat.le_of_ble_eq_true rfl) ⟨Nat.le_of_ble_eq_true rfl, Nat.le_of_ble_eq_true rfl⟩ (Nat.le_of_ble_eq_true rfl) dL_texts_453 (fun μ hF _ => ?_)
  refine jw_iload_n C dL_texts_456 rfl 0 rfl ?_
  refine jw_icmp_eq C 462 dL_texts_457 (by decide) (fun _ => ?_) (fun c => absurd (by decide) c)
  refine jw_iinc (lw := [(1, .int _), (0, .ref _)]) (q := 0) (v := 57) C dL_texts_462 rfl (by decide) hN_1 rfl ?_
  refine jw_goto (tgt := 443) C dL_texts_465 (by decide) ?_
  refine jw_iload_n C dL_texts_443 rfl 0 rfl ?_
  refine jw_bipush (v := 60) C dL_texts_444 (by decide) ?_
  refine jw_icmp_gt C 468 dL_texts_446 (by decide) (fun c => absurd c (by decide)) (fun _ => ?_)
  refine jw_aload_n C dL_texts_449 rfl 1 rfl ?_
  refine jw_ldc2 (v := 55) C (List.mem_of_getElem? (i := 33) rfl) dL_texts_450 ?_
  refine jx_put C XT hF trivial tx_O60 tx_E61 gL_texts_X5_put (Nat.le_of_ble_eq_true rfl) (Nat.le_of_ble_eq_true rfl) ⟨Nat.le_of_ble_eq_true rfl, Nat.le_of_ble_eq_true rfl⟩ (Nat.le_of_ble_eq_true rfl) dL_texts_453 (fun μ hF _ => ?_)
  refine jw_iload_n C dL_texts_456 rfl 0 rfl ?_
  refine jw_icmp_eq C 462 dL_texts_457 (by decide) (fun _ => ?_) (fun c => absurd (by decide) c)
  refine jw_iinc (lw := [(1, .int _), (0, .ref _)]) (q := 0) (v := 58) C dL_texts_462 rfl (by decide) hN_1 rfl ?_
  refine jw_goto (tgt := 443) C dL_texts_465 (by decide) ?_
  refine jw_iload_n C dL_texts_443 rfl 0 rfl ?_
  refine jw_bipush (v := 60) C dL_texts_444 (by decide) ?_
  refine jw_icmp_gt C 468 dL_texts_446 (by decide) (fun c => absurd c (by decide)) (fun _ => ?_)
  refine jw_aload_n C dL_texts_449 rfl 1 rfl ?_
  refine jw_ldc2 (v := 55) C (List.mem_of_getElem? (i := 33) rfl) dL_texts_450 ?_
  refine jx_put C XT hF trivial tx_O61 tx_E62 gL_texts_X5_put (Nat.le_of_ble_eq_true rfl) (Nat.le_of_ble_eq_true rfl) ⟨Nat.le_of_ble_eq_true rfl, Nat.le_of_ble_eq_true rfl⟩ (Nat.le_of_ble_eq_true rfl) dL_texts_453 (fun μ hF _ => ?_)
  refine jw_iload_n C dL_texts_456 rfl 0 rfl ?_
  refine jw_icmp_eq C 462 dL_texts_457 (by decide) (fun _ => ?_) (fun c => absurd (by decide) c)
  exact tx_S26 hN G C hF
set_option maxRecDepth 100000 in
set_option maxHeartbeats 4000000 in
theorem tx_S24 {K : KT} {l : Launch} {ad : Nat → Nat} (hN : kN K = 2) (G : CtxF K l cL_texts RL wsL_texts rmL_texts EX5 (some .boolean) (fun v => v = some (.int (1 : Int32))) 2464 108472) (C : Ctx K l cL_texts RL wsL_texts rmL_texts shX ad) {μ : Mem} (hF : RepF μ tx_F56) : JW K (2464, 108472) shX ad μ 462 [(1, .int (52 : Int32)), (0, .ref (ad 0))] [] := by
  have hN_1 : 1 < kN K := by rw [hN]; decide
  refine jw_iinc (lw := [(1, .int _), (0, .ref _)]) (q := 0) (v := 53) C dL_texts_462 rfl (by decide) hN_1 rfl ?_
  refine jw_goto (tgt := 443) C dL_texts_465 (by decide) ?_
  refine jw_iload_n C dL_texts_443 rfl 0 rfl ?_
  refine jw_bipush (v := 60) C dL_texts_444 (by decide) ?_
  refine jw_icmp_gt C 468 dL_texts_446 (by decide) (fun c => absurd c (by decide)) (fun _ => ?_)
  refine jw_aload_n C dL_texts_449 rfl 1 rfl ?_
  refine jw_ldc2 (v := 55) C (List.mem_of_getElem? (i := 33) rfl) dL_texts_450 ?_
  refine jx_put C XT hF trivial tx_O56 tx_E57 gL_texts_X5_put (Nat.le_of_ble_eq_true rfl) (Nat.le_of_ble_eq_true rfl) ⟨Nat.le_of_ble_eq_true rfl, Nat.le_of_ble_eq_true rfl⟩ (Nat.le_of_ble_eq_true rfl) dL_texts_453 (fun μ hF _ => ?_)
  refine jw_iload_n C dL_texts_456 rfl 0 rfl ?_
  refine jw_icmp_eq C 462 dL_texts_457 (by decide) (fun _ => ?_) (fun c => absurd (by decide) c)
  refine jw_iinc (lw := [(1, .int _), (0, .ref _)]) (q := 0) (v := 54) C dL_texts_462 rfl (by decide) hN_1 rfl ?_
  refine jw_goto (tgt := 443) C dL_texts_465 (by decide) ?_
  refine jw_iload_n C dL_texts_443 rfl 0 rfl ?_
  refine jw_bipush (v := 60) C dL_texts_444 (by decide) ?_
  refine jw_icmp_gt C 468 dL_texts_446 (by decide) (fun c => absurd c (by decide)) (fun _ => ?_)
  refine jw_aload_n C dL_texts_449 rfl 1 rfl ?_
  refine jw_ldc2 (v := 55) C (List.mem_of_getElem? (i := 33) rfl) dL_texts_450 ?_
  refine jx_put C XT hF trivial tx_O57 tx_E58 gL_texts_X5_put (Nat.le_of_ble_eq_true rfl) (Nat.le_of_ble_eq_true rfl) ⟨Nat.le_of_ble_eq_true rfl, Nat.le_of_ble_eq_true rfl⟩ (Nat.le_of_ble_eq_true rfl) dL_texts_453 (fun μ hF _ => ?_)
  refine jw_iload_n C dL_texts_456 rfl 0 rfl ?_
  refine jw_icmp_eq C 462 dL_texts_457 (by decide) (fun _ => ?_) (fun c => absurd (by decide) c)
  refine jw_iinc (lw := [(1, .int _), (0, .ref _)]) (q := 0) (v := 55) C dL_texts_462 rfl (by decide) hN_1 rfl ?_
  refine jw_goto (tgt := 443) C dL_texts_465 (by decide) ?_
  refine jw_iload_n C dL_texts_443 rfl 0 rfl ?_
  refine jw_bipush (v := 60) C dL_texts_444 (by decide) ?_
  refine jw_icmp_gt C 468 dL_texts_446 (by decide) (fun c => absurd c (by decide)) (fun _ => ?_)
  refine jw_aload_n C dL_texts_449 rfl 1 rfl ?_
  refine jw_ldc2 (v := 55) C (List.mem_of_getElem? (i := 33) rfl) dL_texts_450 ?_
  refine jx_put C XT hF trivial tx_O58 tx_E59 gL_texts_X5_put (Nat.le_of_ble_eq_true rfl) (Nat.le_of_ble_eq_true rfl) ⟨Nat.le_of_ble_eq_true rfl, Nat.le_of_ble_eq_true rfl⟩ (Nat.le_of_ble_eq_true rfl) dL_texts_453 (fun μ hF _ => ?_)
  refine jw_iload_n C dL_texts_456 rfl 0 rfl ?_
  refine jw_icmp_eq C 462 dL_texts_457 (by decide) (fun _ => ?_) (fun c => absurd (by decide) c)
  exact tx_S25 hN G C hF
set_option maxRecDepth 100000 in
set_option maxHeartbeats 4000000 in
theorem tx_S23 {K : KT} {l : Launch} {ad : Nat → Nat} (hN : kN K = 2) (G : CtxF K l cL_texts RL wsL_texts rmL_texts EX5 (some .boolean) (fun v => v = some (.int (1 : Int32))) 2464 108472) (C : Ctx K l cL_texts RL wsL_texts rmL_texts shX ad) {μ : Mem} (hF : RepF μ tx_F53) : JW K (2464, 108472) shX ad μ 462 [(1, .int (49 : Int32)), (0, .ref (ad 0))] [] := by
  have hN_1 : 1 < kN K := by rw [hN]; decide
  refine jw_iinc (lw := [(1, .int _), (0, .ref _)]) (q := 0) (v := 50) C dL_texts_462 rfl (by decide) hN_1 rfl ?_
  refine jw_goto (tgt := 443) C dL_texts_465 (by decide) ?_
  refine jw_iload_n C dL_texts_443 rfl 0 rfl ?_
  refine jw_bipush (v := 60) C dL_texts_444 (by decide) ?_
  refine jw_icmp_gt C 468 dL_texts_446 (by decide) (fun c => absurd c (by decide)) (fun _ => ?_)
  refine jw_aload_n C dL_texts_449 rfl 1 rfl ?_
  refine jw_ldc2 (v := 55) C (List.mem_of_getElem? (i := 33) rfl) dL_texts_450 ?_
  refine jx_put C XT hF trivial tx_O53 tx_E54 gL_texts_X5_put (Nat.le_of_ble_eq_true rfl) (Nat.le_of_ble_eq_true rfl) ⟨Nat.le_of_ble_eq_true rfl, Nat.le_of_ble_eq_true rfl⟩ (Nat.le_of_ble_eq_true rfl) dL_texts_453 (fun μ hF _ => ?_)
  refine jw_iload_n C dL_texts_456 rfl 0 rfl ?_
  refine jw_icmp_eq C 462 dL_texts_457 (by decide) (fun _ => ?_) (fun c => absurd (by decide) c)
  refine jw_iinc (lw := [(1, .int _), (0, .ref _)]) (q := 0) (v := 51) C dL_texts_462 rfl (by decide) hN_1 rfl ?_
  refine jw_goto (tgt := 443) C dL_texts_465 (by decide) ?_
  refine jw_iload_n C dL_texts_443 rfl 0 rfl ?_
  refine jw_bipush (v := 60) C dL_texts_444 (by decide) ?_
  refine jw_icmp_gt C 468 dL_texts_446 (by decide) (fun c => absurd c (by decide)) (fun _ => ?_)
  refine jw_aload_n C dL_texts_449 rfl 1 rfl ?_
  refine jw_ldc2 (v := 55) C (List.mem_of_getElem? (i := 33) rfl) dL_texts_450 ?_
  refine jx_put C XT hF trivial tx_O54 tx_E55 gL_texts_X5_put (Nat.le_of_ble_eq_true rfl) (Nat.le_of_ble_eq_true rfl) ⟨Nat.le_of_ble_eq_true rfl, Nat.le_of_ble_eq_true rfl⟩ (Nat.le_of_ble_eq_true rfl) dL_texts_453 (fun μ hF _ => ?_)
  refine jw_iload_n C dL_texts_456 rfl 0 rfl ?_
  refine jw_icmp_eq C 462 dL_texts_457 (by decide) (fun _ => ?_) (fun c => absurd (by decide) c)
  refine jw_iinc (lw := [(1, .int _), (0, .ref _)]) (q := 0) (v := 52) C dL_texts_462 rfl (by decide) hN_1 rfl ?_
  refine jw_goto (tgt := 443) C dL_texts_465 (by decide) ?_
  refine jw_iload_n C dL_texts_443 rfl 0 rfl ?_
  refine jw_bipush (v := 60) C dL_texts_444 (by decide) ?_
  refine jw_icmp_gt C 468 dL_texts_446 (by decide) (fun c => absurd c (by decide)) (fun _ => ?_)
  refine jw_aload_n C dL_texts_449 rfl 1 rfl ?_
  refine jw_ldc2 (v := 55) C (List.mem_of_getElem? (i := 33) rfl) dL_texts_450 ?_
  refine jx_put C XT hF trivial tx_O55 tx_E56 gL_texts_X5_put (Nat.le_of_ble_eq_true rfl) (Nat.le_of_ble_eq_true rfl) ⟨Nat.le_of_ble_eq_true rfl, Nat.le_of_ble_eq_true rfl⟩ (Nat.le_of_ble_eq_true rfl) dL_texts_453 (fun μ hF _ => ?_)
  refine jw_iload_n C dL_texts_456 rfl 0 rfl ?_
  refine jw_icmp_eq C 462 dL_texts_457 (by decide) (fun _ => ?_) (fun c => absurd (by decide) c)
  exact tx_S24 hN G C hF
set_option maxRecDepth 100000 in
set_option maxHeartbeats 4000000 in
theorem tx_S22 {K : KT} {l : Launch} {ad : Nat → Nat} (hN : kN K = 2) (G : CtxF K l cL_texts RL wsL_texts rmL_texts EX5 (some .boolean) (fun v => v = some (.int (1 : Int32))) 2464 108472) (C : Ctx K l cL_texts RL wsL_texts rmL_texts shX ad) {μ : Mem} (hF : RepF μ tx_F50) : JW K (2464, 108472) shX ad μ 462 [(1, .int (46 : Int32)), (0, .ref (ad 0))] [] := by
  have hN_1 : 1 < kN K := by rw [hN]; decide
  refine jw_iinc (lw := [(1, .int _), (0, .ref _)]) (q := 0) (v := 47) C dL_texts_462 rfl (by decide) hN_1 rfl ?_
  refine jw_goto (tgt := 443) C dL_texts_465 (by decide) ?_
  refine jw_iload_n C dL_texts_443 rfl 0 rfl ?_
  refine jw_bipush (v := 60) C dL_texts_444 (by decide) ?_
  refine jw_icmp_gt C 468 dL_texts_446 (by decide) (fun c => absurd c (by decide)) (fun _ => ?_)
  refine jw_aload_n C dL_texts_449 rfl 1 rfl ?_
  refine jw_ldc2 (v := 55) C (List.mem_of_getElem? (i := 33) rfl) dL_texts_450 ?_
  refine jx_put C XT hF trivial tx_O50 tx_E51 gL_texts_X5_put (Nat.le_of_ble_eq_true rfl) (Nat.le_of_ble_eq_true rfl) ⟨Nat.le_of_ble_eq_true rfl, Nat.le_of_ble_eq_true rfl⟩ (Nat.le_of_ble_eq_true rfl) dL_texts_453 (fun μ hF _ => ?_)
  refine jw_iload_n C dL_texts_456 rfl 0 rfl ?_
  refine jw_icmp_eq C 462 dL_texts_457 (by decide) (fun _ => ?_) (fun c => absurd (by decide) c)
  refine jw_iinc (lw := [(1, .int _), (0, .ref _)]) (q := 0) (v := 48) C dL_texts_462 rfl (by decide) hN_1 rfl ?_
  refine jw_goto (tgt := 443) C dL_texts_465 (by decide) ?_
  refine jw_iload_n C dL_texts_443 rfl 0 rfl ?_
  refine jw_bipush (v := 60) C dL_texts_444 (by decide) ?_
  refine jw_icmp_gt C 468 dL_texts_446 (by decide) (fun c => absurd c (by decide)) (fun _ => ?_)
  refine jw_aload_n C dL_texts_449 rfl 1 rfl ?_
  refine jw_ldc2 (v := 55) C (List.mem_of_getElem? (i := 33) rfl) dL_texts_450 ?_
  refine jx_put C XT hF trivial tx_O51 tx_E52 gL_texts_X5_put (Nat.le_of_ble_eq_true rfl) (Nat.le_of_ble_eq_true rfl) ⟨Nat.le_of_ble_eq_true rfl, Nat.le_of_ble_eq_true rfl⟩ (Nat.le_of_ble_eq_true rfl) dL_texts_453 (fun μ hF _ => ?_)
  refine jw_iload_n C dL_texts_456 rfl 0 rfl ?_
  refine jw_icmp_eq C 462 dL_texts_457 (by decide) (fun _ => ?_) (fun c => absurd (by decide) c)
  refine jw_iinc (lw := [(1, .int _), (0, .ref _)]) (q := 0) (v := 49) C dL_texts_462 rfl (by decide) hN_1 rfl ?_
  refine jw_goto (tgt := 443) C dL_texts_465 (by decide) ?_
  refine jw_iload_n C dL_texts_443 rfl 0 rfl ?_
  refine jw_bipush (v := 60) C dL_texts_444 (by decide) ?_
  refine jw_icmp_gt C 468 dL_texts_446 (by decide) (fun c => absurd c (by decide)) (fun _ => ?_)
  refine jw_aload_n C dL_texts_449 rfl 1 rfl ?_
  refine jw_ldc2 (v := 55) C (List.mem_of_getElem? (i := 33) rfl) dL_texts_450 ?_
  refine jx_put C XT hF trivial tx_O52 tx_E53 gL_texts_X5_put (Nat.le_of_ble_eq_true rfl) (Nat.le_of_ble_eq_true rfl) ⟨Nat.le_of_ble_eq_true rfl, Nat.le_of_ble_eq_true rfl⟩ (Nat.le_of_ble_eq_true rfl) dL_texts_453 (fun μ hF _ => ?_)
  refine jw_iload_n C dL_texts_456 rfl 0 rfl ?_
  refine jw_icmp_eq C 462 dL_texts_457 (by decide) (fun _ => ?_) (fun c => absurd (by decide) c)
  exact tx_S23 hN G C hF
set_option maxRecDepth 100000 in
set_option maxHeartbeats 4000000 in
theorem tx_S21 {K : KT} {l : Launch} {ad : Nat → Nat} (hN : kN K = 2) (G : CtxF K l cL_texts RL wsL_texts rmL_texts EX5 (some .boolean) (fun v => v = some (.int (1 : Int32))) 2464 108472) (C : Ctx K l cL_texts RL wsL_texts rmL_texts shX ad) {μ : Mem} (hF : RepF μ tx_F47) : JW K (2464, 108472) shX ad μ 462 [(1, .int (43 : Int32)), (0, .ref (ad 0))] [] := by
  have hN_1 : 1 < kN K := by rw [hN]; decide
  refine jw_iinc (lw := [(1, .int _), (0, .ref _)]) (q := 0) (v := 44) C dL_texts_462 rfl (by decide) hN_1 rfl ?_
  refine jw_goto (tgt := 443) C dL_texts_465 (by decide) ?_
  refine jw_iload_n C dL_texts_443 rfl 0 rfl ?_
  refine jw_bipush (v := 60) C dL_texts_444 (by decide) ?_
  refine jw_icmp_gt C 468 dL_texts_446 (by decide) (fun c => absurd c (by decide)) (fun _ => ?_)
  refine jw_aload_n C dL_texts_449 rfl 1 rfl ?_
  refine jw_ldc2 (v := 55) C (List.mem_of_getElem? (i := 33) rfl) dL_texts_450 ?_
  refine jx_put C XT hF trivial tx_O47 tx_E48 gL_texts_X5_put (Nat.le_of_ble_eq_true rfl) (Nat.le_of_ble_eq_true rfl) ⟨Nat.le_of_ble_eq_true rfl, Nat.le_of_ble_eq_true rfl⟩ (Nat.le_of_ble_eq_true rfl) dL_texts_453 (fun μ hF _ => ?_)
  refine jw_iload_n C dL_texts_456 rfl 0 rfl ?_
  refine jw_icmp_eq C 462 dL_texts_457 (by decide) (fun _ => ?_) (fun c => absurd (by decide) c)
  refine jw_iinc (lw := [(1, .int _), (0, .ref _)]) (q := 0) (v := 45) C dL_texts_462 rfl (by decide) hN_1 rfl ?_
  refine jw_goto (tgt := 443) C dL_texts_465 (by decide) ?_
  refine jw_iload_n C dL_texts_443 rfl 0 rfl ?_
  refine jw_bipush (v := 60) C dL_texts_444 (by decide) ?_
  refine jw_icmp_gt C 468 dL_texts_446 (by decide) (fun c => absurd c (by decide)) (fun _ => ?_)
  refine jw_aload_n C dL_texts_449 rfl 1 rfl ?_
  refine jw_ldc2 (v := 55) C (List.mem_of_getElem? (i := 33) rfl) dL_texts_450 ?_
  refine jx_put C XT hF trivial tx_O48 tx_E49 gL_texts_X5_put (Nat.le_of_ble_eq_true rfl) (Nat.le_of_ble_eq_true rfl) ⟨Nat.le_of_ble_eq_true rfl, Nat.le_of_ble_eq_true rfl⟩ (Nat.le_of_ble_eq_true rfl) dL_texts_453 (fun μ hF _ => ?_)
  refine jw_iload_n C dL_texts_456 rfl 0 rfl ?_
  refine jw_icmp_eq C 462 dL_texts_457 (by decide) (fun _ => ?_) (fun c => absurd (by decide) c)
  refine jw_iinc (lw := [(1, .int _), (0, .ref _)]) (q := 0) (v := 46) C dL_texts_462 rfl (by decide) hN_1 rfl ?_
  refine jw_goto (tgt := 443) C dL_texts_465 (by decide) ?_
  refine jw_iload_n C dL_texts_443 rfl 0 rfl ?_
  refine jw_bipush (v := 60) C dL_texts_444 (by decide) ?_
  refine jw_icmp_gt C 468 dL_texts_446 (by decide) (fun c => absurd c (by decide)) (fun _ => ?_)
  refine jw_aload_n C dL_texts_449 rfl 1 rfl ?_
  refine jw_ldc2 (v := 55) C (List.mem_of_getElem? (i := 33) rfl) dL_texts_450 ?_
  refine jx_put C XT hF trivial tx_O49 tx_E50 gL_texts_X5_put (Nat.le_of_ble_eq_true rfl) (Nat.le_of_ble_eq_true rfl) ⟨Nat.le_of_ble_eq_true rfl, Nat.le_of_ble_eq_true rfl⟩ (Nat.le_of_ble_eq_true rfl) dL_texts_453 (fun μ hF _ => ?_)
  refine jw_iload_n C dL_texts_456 rfl 0 rfl ?_
  refine jw_icmp_eq C 462 dL_texts_457 (by decide) (fun _ => ?_) (fun c => absurd (by decide) c)
  exact tx_S22 hN G C hF
set_option maxRecDepth 100000 in
set_option maxHeartbeats 4000000 in
theorem tx_S20 {K : KT} {l : Launch} {ad : Nat → Nat} (hN : kN K = 2) (G : CtxF K l cL_texts RL wsL_texts rmL_texts EX5 (some .boolean) (fun v => v = some (.int (1 : Int32))) 2464 108472) (C : Ctx K l cL_texts RL wsL_texts rmL_texts shX ad) {μ : Mem} (hF : RepF μ tx_F44) : JW K (2464, 108472) shX ad μ 462 [(1, .int (40 : Int32)), (0, .ref (ad 0))] [] := by
  have hN_1 : 1 < kN K := by rw [hN]; decide
  refine jw_iinc (lw := [(1, .int _), (0, .ref _)]) (q := 0) (v := 41) C dL_texts_462 rfl (by decide) hN_1 rfl ?_
  refine jw_goto (tgt := 443) C dL_texts_465 (by decide) ?_
  refine jw_iload_n C dL_texts_443 rfl 0 rfl ?_
  refine jw_bipush (v := 60) C dL_texts_444 (by decide) ?_
  refine jw_icmp_gt C 468 dL_texts_446 (by decide) (fun c => absurd c (by decide)) (fun _ => ?_)
  refine jw_aload_n C dL_texts_449 rfl 1 rfl ?_
  refine jw_ldc2 (v := 55) C (List.mem_of_getElem? (i := 33) rfl) dL_texts_450 ?_
  refine jx_put C XT hF trivial tx_O44 tx_E45 gL_texts_X5_put (Nat.le_of_ble_eq_true rfl) (Nat.le_of_ble_eq_true rfl) ⟨Nat.le_of_ble_eq_true rfl, Nat.le_of_ble_eq_true rfl⟩ (Nat.le_of_ble_eq_true rfl) dL_texts_453 (fun μ hF _ => ?_)
  refine jw_iload_n C dL_texts_456 rfl 0 rfl ?_
  refine jw_icmp_eq C 462 dL_texts_457 (by decide) (fun _ => ?_) (fun c => absurd (by decide) c)
  refine jw_iinc (lw := [(1, .int _), (0, .ref _)]) (q := 0) (v := 42) C dL_texts_462 rfl (by decide) hN_1 rfl ?_
  refine jw_goto (tgt := 443) C dL_texts_465 (by decide) ?_
  refine jw_iload_n C dL_texts_443 rfl 0 rfl ?_
  refine jw_bipush (v := 60) C dL_texts_444 (by decide) ?_
  refine jw_icmp_gt C 468 dL_texts_446 (by decide) (fun c => absurd c (by decide)) (fun _ => ?_)
  refine jw_aload_n C dL_texts_449 rfl 1 rfl ?_
  refine jw_ldc2 (v := 55) C (List.mem_of_getElem? (i := 33) rfl) dL_texts_450 ?_
  refine jx_put C XT hF trivial tx_O45 tx_E46 gL_texts_X5_put (Nat.le_of_ble_eq_true rfl) (Nat.le_of_ble_eq_true rfl) ⟨Nat.le_of_ble_eq_true rfl, Nat.le_of_ble_eq_true rfl⟩ (Nat.le_of_ble_eq_true rfl) dL_texts_453 (fun μ hF _ => ?_)
  refine jw_iload_n C dL_texts_456 rfl 0 rfl ?_
  refine jw_icmp_eq C 462 dL_texts_457 (by decide) (fun _ => ?_) (fun c => absurd (by decide) c)
  refine jw_iinc (lw := [(1, .int _), (0, .ref _)]) (q := 0) (v := 43) C dL_texts_462 rfl (by decide) hN_1 rfl ?_
  refine jw_goto (tgt := 443) C dL_texts_465 (by decide) ?_
  refine jw_iload_n C dL_texts_443 rfl 0 rfl ?_
  refine jw_bipush (v := 60) C dL_texts_444 (by decide) ?_
  refine jw_icmp_gt C 468 dL_texts_446 (by decide) (fun c => absurd c (by decide)) (fun _ => ?_)
  refine jw_aload_n C dL_texts_449 rfl 1 rfl ?_
  refine jw_ldc2 (v := 55) C (List.mem_of_getElem? (i := 33) rfl) dL_texts_450 ?_
  refine jx_put C XT hF trivial tx_O46 tx_E47 gL_texts_X5_put (Nat.le_of_ble_eq_true rfl) (Nat.le_of_ble_eq_true rfl) ⟨Nat.le_of_ble_eq_true rfl, Nat.le_of_ble_eq_true rfl⟩ (Nat.le_of_ble_eq_true rfl) dL_texts_453 (fun μ hF _ => ?_)
  refine jw_iload_n C dL_texts_456 rfl 0 rfl ?_
  refine jw_icmp_eq C 462 dL_texts_457 (by decide) (fun _ => ?_) (fun c => absurd (by decide) c)
  exact tx_S21 hN G C hF
set_option maxRecDepth 100000 in
set_option maxHeartbeats 4000000 in
theorem tx_S19 {K : KT} {l : Launch} {ad : Nat → Nat} (hN : kN K = 2) (G : CtxF K l cL_texts RL wsL_texts rmL_texts EX5 (some .boolean) (fun v => v = some (.int (1 : Int32))) 2464 108472) (C : Ctx K l cL_texts RL wsL_texts rmL_texts shX ad) {μ : Mem} (hF : RepF μ tx_F41) : JW K (2464, 108472) shX ad μ 462 [(1, .int (37 : Int32)), (0, .ref (ad 0))] [] := by
  have hN_1 : 1 < kN K := by rw [hN]; decide
  refine jw_iinc (lw := [(1, .int _), (0, .ref _)]) (q := 0) (v := 38) C dL_texts_462 rfl (by decide) hN_1 rfl ?_
  refine jw_goto (tgt := 443) C dL_texts_465 (by decide) ?_
  refine jw_iload_n C dL_texts_443 rfl 0 rfl ?_
  refine jw_bipush (v := 60) C dL_texts_444 (by decide) ?_
  refine jw_icmp_gt C 468 dL_texts_446 (by decide) (fun c => absurd c (by decide)) (fun _ => ?_)
  refine jw_aload_n C dL_texts_449 rfl 1 rfl ?_
  refine jw_ldc2 (v := 55) C (List.mem_of_getElem? (i := 33) rfl) dL_texts_450 ?_
  refine jx_put C XT hF trivial tx_O41 tx_E42 gL_texts_X5_put (Nat.le_of_ble_eq_true rfl) (Nat.le_of_ble_eq_true rfl) ⟨Nat.le_of_ble_eq_true rfl, Nat.le_of_ble_eq_true rfl⟩ (Nat.le_of_ble_eq_true rfl) dL_texts_453 (fun μ hF _ => ?_)
  refine jw_iload_n C dL_texts_456 rfl 0 rfl ?_
  refine jw_icmp_eq C 462 dL_texts_457 (by decide) (fun _ => ?_) (fun c => absurd (by decide) c)
  refine jw_iinc (lw := [(1, .int _), (0, .ref _)]) (q := 0) (v := 39) C dL_texts_462 rfl (by decide) hN_1 rfl ?_
  refine jw_goto (tgt := 443) C dL_texts_465 (by decide) ?_
  refine jw_iload_n C dL_texts_443 rfl 0 rfl ?_
  refine jw_bipush (v := 60) C dL_texts_444 (by decide) ?_
  refine jw_icmp_gt C 468 dL_texts_446 (by decide) (fun c => absurd c (by decide)) (fun _ => ?_)
  refine jw_aload_n C dL_texts_449 rfl 1 rfl ?_
  refine jw_ldc2 (v := 55) C (List.mem_of_getElem? (i := 33) rfl) dL_texts_450 ?_
  refine jx_put C XT hF trivial tx_O42 tx_E43 gL_texts_X5_put (Nat.le_of_ble_eq_true rfl) (Nat.le_of_ble_eq_true rfl) ⟨Nat.le_of_ble_eq_true rfl, Nat.le_of_ble_eq_true rfl⟩ (Nat.le_of_ble_eq_true rfl) dL_texts_453 (fun μ hF _ => ?_)
  refine jw_iload_n C dL_texts_456 rfl 0 rfl ?_
  refine jw_icmp_eq C 462 dL_texts_457 (by decide) (fun _ => ?_) (fun c => absurd (by decide) c)
  refine jw_iinc (lw := [(1, .int _), (0, .ref _)]) (q := 0) (v := 40) C dL_texts_462 rfl (by decide) hN_1 rfl ?_
  refine jw_goto (tgt := 443) C dL_texts_465 (by decide) ?_
  refine jw_iload_n C dL_texts_443 rfl 0 rfl ?_
  refine jw_bipush (v := 60) C dL_texts_444 (by decide) ?_
  refine jw_icmp_gt C 468 dL_texts_446 (by decide) (fun c => absurd c (by decide)) (fun _ => ?_)
  refine jw_aload_n C dL_texts_449 rfl 1 rfl ?_
  refine jw_ldc2 (v := 55) C (List.mem_of_getElem? (i := 33) rfl) dL_texts_450 ?_
  refine jx_put C XT hF trivial tx_O43 tx_E44 gL_texts_X5_put (Nat.le_of_ble_eq_true rfl) (Nat.le_of_ble_eq_true rfl) ⟨Nat.le_of_ble_eq_true rfl, Nat.le_of_ble_eq_true rfl⟩ (Nat.le_of_ble_eq_true rfl) dL_texts_453 (fun μ hF _ => ?_)
  refine jw_iload_n C dL_texts_456 rfl 0 rfl ?_
  refine jw_icmp_eq C 462 dL_texts_457 (by decide) (fun _ => ?_) (fun c => absurd (by decide) c)
  exact tx_S20 hN G C hF
set_option maxRecDepth 100000 in
set_option maxHeartbeats 4000000 in
theorem tx_S18 {K : KT} {l : Launch} {ad : Nat → Nat} (hN : kN K = 2) (G : CtxF K l cL_texts RL wsL_texts rmL_texts EX5 (some .boolean) (fun v => v = some (.int (1 : Int32))) 2464 108472) (C : Ctx K l cL_texts RL wsL_texts rmL_texts shX ad) {μ : Mem} (hF : RepF μ tx_F38) : JW K (2464, 108472) shX ad μ 462 [(1, .int (34 : Int32)), (0, .ref (ad 0))] [] := by
  have hN_1 : 1 < kN K := by rw [hN]; decide
  refine jw_iinc (lw := [(1, .int _), (0, .ref _)]) (q := 0) (v := 35) C dL_texts_462 rfl (by decide) hN_1 rfl ?_
  refine jw_goto (tgt := 443) C dL_texts_465 (by decide) ?_
  refine jw_iload_n C dL_texts_443 rfl 0 rfl ?_
  refine jw_bipush (v := 60) C dL_texts_444 (by decide) ?_
  refine jw_icmp_gt C 468 dL_texts_446 (by decide) (fun c => absurd c (by decide)) (fun _ => ?_)
  refine jw_aload_n C dL_texts_449 rfl 1 rfl ?_
  refine jw_ldc2 (v := 55) C (List.mem_of_getElem? (i := 33) rfl) dL_texts_450 ?_
  refine jx_put C XT hF trivial tx_O38 tx_E39 gL_texts_X5_put (Nat.le_of_ble_eq_true rfl) (Nat.le_of_ble_eq_true rfl) ⟨Nat.le_of_ble_eq_true rfl, Nat.le_of_ble_eq_true rfl⟩ (Nat.le_of_ble_eq_true rfl) dL_texts_453 (fun μ hF _ => ?_)
  refine jw_iload_n C dL_texts_456 rfl 0 rfl ?_
  refine jw_icmp_eq C 462 dL_texts_457 (by decide) (fun _ => ?_) (fun c => absurd (by decide) c)
  refine jw_iinc (lw := [(1, .int _), (0, .ref _)]) (q := 0) (v := 36) C dL_texts_462 rfl (by decide) hN_1 rfl ?_
  refine jw_goto (tgt := 443) C dL_texts_465 (by decide) ?_
  refine jw_iload_n C dL_texts_443 rfl 0 rfl ?_
  refine jw_bipush (v := 60) C dL_texts_444 (by decide) ?_
  refine jw_icmp_gt C 468 dL_texts_446 (by decide) (fun c => absurd c (by decide)) (fun _ => ?_)
  refine jw_aload_n C dL_texts_449 rfl 1 rfl ?_
  refine jw_ldc2 (v := 55) C (List.mem_of_getElem? (i := 33) rfl) dL_texts_450 ?_
  refine jx_put C XT hF trivial tx_O39 tx_E40 gL_texts_X5_put (Nat.le_of_ble_eq_true rfl) (Nat.le_of_ble_eq_true rfl) ⟨Nat.le_of_ble_eq_true rfl, Nat.le_of_ble_eq_true rfl⟩ (Nat.le_of_ble_eq_true rfl) dL_texts_453 (fun μ hF _ => ?_)
  refine jw_iload_n C dL_texts_456 rfl 0 rfl ?_
  refine jw_icmp_eq C 462 dL_texts_457 (by decide) (fun _ => ?_) (fun c => absurd (by decide) c)
  refine jw_iinc (lw := [(1, .int _), (0, .ref _)]) (q := 0) (v := 37) C dL_texts_462 rfl (by decide) hN_1 rfl ?_
  refine jw_goto (tgt := 443) C dL_texts_465 (by decide) ?_
  refine jw_iload_n C dL_texts_443 rfl 0 rfl ?_
  refine jw_bipush (v := 60) C dL_texts_444 (by decide) ?_
  refine jw_icmp_gt C 468 dL_texts_446 (by decide) (fun c => absurd c (by decide)) (fun _ => ?_)
  refine jw_aload_n C dL_texts_449 rfl 1 rfl ?_
  refine jw_ldc2 (v := 55) C (List.mem_of_getElem? (i := 33) rfl) dL_texts_450 ?_
  refine jx_put C XT hF trivial tx_O40 tx_E41 gL_texts_X5_put (Nat.le_of_ble_eq_true rfl) (Nat.le_of_ble_eq_true rfl) ⟨Nat.le_of_ble_eq_true rfl, Nat.le_of_ble_eq_true rfl⟩ (Nat.le_of_ble_eq_true rfl) dL_texts_453 (fun μ hF _ => ?_)
  refine jw_iload_n C dL_texts_456 rfl 0 rfl ?_
  refine jw_icmp_eq C 462 dL_texts_457 (by decide) (fun _ => ?_) (fun c => absurd (by decide) c)
  exact tx_S19 hN G C hF
set_option maxRecDepth 100000 in
set_option maxHeartbeats 4000000 in
theorem tx_S17 {K : KT} {l : Launch} {ad : Nat → Nat} (hN : kN K = 2) (G : CtxF K l cL_texts RL wsL_texts rmL_texts EX5 (some .boolean) (fun v => v = some (.int (1 : Int32))) 2464 108472) (C : Ctx K l cL_texts RL wsL_texts rmL_texts shX ad) {μ : Mem} (hF : RepF μ tx_F35) : JW K (2464, 108472) shX ad μ 462 [(1, .int (31 : Int32)), (0, .ref (ad 0))] [] := by
  have hN_1 : 1 < kN K := by rw [hN]; decide
  refine jw_iinc (lw := [(1, .int _), (0, .ref _)]) (q := 0) (v := 32) C dL_texts_462 rfl (by decide) hN_1 rfl ?_
  refine jw_goto (tgt := 443) C dL_texts_465 (by decide) ?_
  refine jw_iload_n C dL_texts_443 rfl 0 rfl ?_
  refine jw_bipush (v := 60) C dL_texts_444 (by decide) ?_
  refine jw_icmp_gt C 468 dL_texts_446 (by decide) (fun c => absurd c (by decide)) (fun _ => ?_)
  refine jw_aload_n C dL_texts_449 rfl 1 rfl ?_
  refine jw_ldc2 (v := 55) C (List.mem_of_getElem? (i := 33) rfl) dL_texts_450 ?_
  refine jx_put C XT hF trivial tx_O35 tx_E36 gL_texts_X5_put (Nat.le_of_ble_eq_true rfl) (Nat.le_of_ble_eq_true rfl) ⟨Nat.le_of_ble_eq_true rfl, Nat.le_of_ble_eq_true rfl⟩ (Nat.le_of_ble_eq_true rfl) dL_texts_453 (fun μ hF _ => ?_)
  refine jw_iload_n C dL_texts_456 rfl 0 rfl ?_
  refine jw_icmp_eq C 462 dL_texts_457 (by decide) (fun _ => ?_) (fun c => absurd (by decide) c)
  refine jw_iinc (lw := [(1, .int _), (0, .ref _)]) (q := 0) (v := 33) C dL_texts_462 rfl (by decide) hN_1 rfl ?_
  refine jw_goto (tgt := 443) C dL_texts_465 (by decide) ?_
  refine jw_iload_n C dL_texts_443 rfl 0 rfl ?_
  refine jw_bipush (v := 60) C dL_texts_444 (by decide) ?_
  refine jw_icmp_gt C 468 dL_texts_446 (by decide) (fun c => absurd c (by decide)) (fun _ => ?_)
  refine jw_aload_n C dL_texts_449 rfl 1 rfl ?_
  refine jw_ldc2 (v := 55) C (List.mem_of_getElem? (i := 33) rfl) dL_texts_450 ?_
  refine jx_put C XT hF trivial tx_O36 tx_E37 gL_texts_X5_put (Nat.le_of_ble_eq_true rfl) (Nat.le_of_ble_eq_true rfl) ⟨Nat.le_of_ble_eq_true rfl, Nat.le_of_ble_eq_true rfl⟩ (Nat.le_of_ble_eq_true rfl) dL_texts_453 (fun μ hF _ => ?_)
  refine jw_iload_n C dL_texts_456 rfl 0 rfl ?_
  refine jw_icmp_eq C 462 dL_texts_457 (by decide) (fun _ => ?_) (fun c => absurd (by decide) c)
  refine jw_iinc (lw := [(1, .int _), (0, .ref _)]) (q := 0) (v := 34) C dL_texts_462 rfl (by decide) hN_1 rfl ?_
  refine jw_goto (tgt := 443) C dL_texts_465 (by decide) ?_
  refine jw_iload_n C dL_texts_443 rfl 0 rfl ?_
  refine jw_bipush (v := 60) C dL_texts_444 (by decide) ?_
  refine jw_icmp_gt C 468 dL_texts_446 (by decide) (fun c => absurd c (by decide)) (fun _ => ?_)
  refine jw_aload_n C dL_texts_449 rfl 1 rfl ?_
  refine jw_ldc2 (v := 55) C (List.mem_of_getElem? (i := 33) rfl) dL_texts_450 ?_
  refine jx_put C XT hF trivial tx_O37 tx_E38 gL_texts_X5_put (Nat.le_of_ble_eq_true rfl) (Nat.le_of_ble_eq_true rfl) ⟨Nat.le_of_ble_eq_true rfl, Nat.le_of_ble_eq_true rfl⟩ (Nat.le_of_ble_eq_true rfl) dL_texts_453 (fun μ hF _ => ?_)
  refine jw_iload_n C dL_texts_456 rfl 0 rfl ?_
  refine jw_icmp_eq C 462 dL_texts_457 (by decide) (fun _ => ?_) (fun c => absurd (by decide) c)
  exact tx_S18 hN G C hF
set_option maxRecDepth 100000 in
set_option maxHeartbeats 4000000 in
theorem tx_S16 {K : KT} {l : Launch} {ad : Nat → Nat} (hN : kN K = 2) (G : CtxF K l cL_texts RL wsL_texts rmL_texts EX5 (some .boolean) (fun v => v = some (.int (1 : Int32))) 2464 108472) (C : Ctx K l cL_texts RL wsL_texts rmL_texts shX ad) {μ : Mem} (hF : RepF μ tx_F32) : JW K (2464, 108472) shX ad μ 462 [(1, .int (28 : Int32)), (0, .ref (ad 0))] [] := by
  have hN_1 : 1 < kN K := by rw [hN]; decide
  refine jw_iinc (lw := [(1, .int _), (0, .ref _)]) (q := 0) (v := 29) C dL_texts_462 rfl (by decide) hN_1 rfl ?_
  refine jw_goto (tgt := 443) C dL_texts_465 (by decide) ?_
  refine jw_iload_n C dL_texts_443 rfl 0 rfl ?_
  refine jw_bipush (v := 60) C dL_texts_444 (by decide) ?_
  refine jw_icmp_gt C 468 dL_texts_446 (by decide) (fun c => absurd c (by decide)) (fun _ => ?_)
  refine jw_aload_n C dL_texts_449 rfl 1 rfl ?_
  refine jw_ldc2 (v := 55) C (List.mem_of_getElem? (i := 33) rfl) dL_texts_450 ?_
  refine jx_put C XT hF trivial tx_O32 tx_E33 gL_texts_X5_put (Nat.le_of_ble_eq_true rfl) (Nat.le_of_ble_eq_true rfl) ⟨Nat.le_of_ble_eq_true rfl, Nat.le_of_ble_eq_true rfl⟩ (Nat.le_of_ble_eq_true rfl) dL_texts_453 (fun μ hF _ => ?_)
  refine jw_iload_n C dL_texts_456 rfl 0 rfl ?_
  refine jw_icmp_eq C 462 dL_texts_457 (by decide) (fun _ => ?_) (fun c => absurd (by decide) c)
  refine jw_iinc (lw := [(1, .int _), (0, .ref _)]) (q := 0) (v := 30) C dL_texts_462 rfl (by decide) hN_1 rfl ?_
  refine jw_goto (tgt := 443) C dL_texts_465 (by decide) ?_
  refine jw_iload_n C dL_texts_443 rfl 0 rfl ?_
  refine jw_bipush (v := 60) C dL_texts_444 (by decide) ?_
  refine jw_icmp_gt C 468 dL_texts_446 (by decide) (fun c => absurd c (by decide)) (fun _ => ?_)
  refine jw_aload_n C dL_texts_449 rfl 1 rfl ?_
  refine jw_ldc2 (v := 55) C (List.mem_of_getElem? (i := 33) rfl) dL_texts_450 ?_
  refine jx_put C XT hF trivial tx_O33 tx_E34 gL_texts_X5_put (Nat.le_of_ble_eq_true rfl) (Nat.le_of_ble_eq_true rfl) ⟨Nat.le_of_ble_eq_true rfl, Nat.le_of_ble_eq_true rfl⟩ (Nat.le_of_ble_eq_true rfl) dL_texts_453 (fun μ hF _ => ?_)
  refine jw_iload_n C dL_texts_456 rfl 0 rfl ?_
  refine jw_icmp_eq C 462 dL_texts_457 (by decide) (fun _ => ?_) (fun c => absurd (by decide) c)
  refine jw_iinc (lw := [(1, .int _), (0, .ref _)]) (q := 0) (v := 31) C dL_texts_462 rfl (by decide) hN_1 rfl ?_
  refine jw_goto (tgt := 443) C dL_texts_465 (by decide) ?_
  refine jw_iload_n C dL_texts_443 rfl 0 rfl ?_
  refine jw_bipush (v := 60) C dL_texts_444 (by decide) ?_
  refine jw_icmp_gt C 468 dL_texts_446 (by decide) (fun c => absurd c (by decide)) (fun _ => ?_)
  refine jw_aload_n C dL_texts_449 rfl 1 rfl ?_
  refine jw_ldc2 (v := 55) C (List.mem_of_getElem? (i := 33) rfl) dL_texts_450 ?_
  refine jx_put C XT hF trivial tx_O34 tx_E35 gL_texts_X5_put (Nat.le_of_ble_eq_true rfl) (Nat.le_of_ble_eq_true rfl) ⟨Nat.le_of_ble_eq_true rfl, Nat.le_of_ble_eq_true rfl⟩ (Nat.le_of_ble_eq_true rfl) dL_texts_453 (fun μ hF _ => ?_)
  refine jw_iload_n C dL_texts_456 rfl 0 rfl ?_
  refine jw_icmp_eq C 462 dL_texts_457 (by decide) (fun _ => ?_) (fun c => absurd (by decide) c)
  exact tx_S17 hN G C hF
set_option maxRecDepth 100000 in
set_option maxHeartbeats 4000000 in
theorem tx_S15 {K : KT} {l : Launch} {ad : Nat → Nat} (hN : kN K = 2) (G : CtxF K l cL_texts RL wsL_texts rmL_texts EX5 (some .boolean) (fun v => v = some (.int (1 : Int32))) 2464 108472) (C : Ctx K l cL_texts RL wsL_texts rmL_texts shX ad) {μ : Mem} (hF : RepF μ tx_F29) : JW K (2464, 108472) shX ad μ 462 [(1, .int (25 : Int32)), (0, .ref (ad 0))] [] := by
  have hN_1 : 1 < kN K := by rw [hN]; decide
  refine jw_iinc (lw := [(1, .int _), (0, .ref _)]) (q := 0) (v := 26) C dL_texts_462 rfl (by decide) hN_1 rfl ?_
  refine jw_goto (tgt := 443) C dL_texts_465 (by decide) ?_
  refine jw_iload_n C dL_texts_443 rfl 0 rfl ?_
  refine jw_bipush (v := 60) C dL_texts_444 (by decide) ?_
  refine jw_icmp_gt C 468 dL_texts_446 (by decide) (fun c => absurd c (by decide)) (fun _ => ?_)
  refine jw_aload_n C dL_texts_449 rfl 1 rfl ?_
  refine jw_ldc2 (v := 55) C (List.mem_of_getElem? (i := 33) rfl) dL_texts_450 ?_
  refine jx_put C XT hF trivial tx_O29 tx_E30 gL_texts_X5_put (Nat.le_of_ble_eq_true rfl) (Nat.le_of_ble_eq_true rfl) ⟨Nat.le_of_ble_eq_true rfl, Nat.le_of_ble_eq_true rfl⟩ (Nat.le_of_ble_eq_true rfl) dL_texts_453 (fun μ hF _ => ?_)
  refine jw_iload_n C dL_texts_456 rfl 0 rfl ?_
  refine jw_icmp_eq C 462 dL_texts_457 (by decide) (fun _ => ?_) (fun c => absurd (by decide) c)
  refine jw_iinc (lw := [(1, .int _), (0, .ref _)]) (q := 0) (v := 27) C dL_texts_462 rfl (by decide) hN_1 rfl ?_
  refine jw_goto (tgt := 443) C dL_texts_465 (by decide) ?_
  refine jw_iload_n C dL_texts_443 rfl 0 rfl ?_
  refine jw_bipush (v := 60) C dL_texts_444 (by decide) ?_
  refine jw_icmp_gt C 468 dL_texts_446 (by decide) (fun c => absurd c (by decide)) (fun _ => ?_)
  refine jw_aload_n C dL_texts_449 rfl 1 rfl ?_
  refine jw_ldc2 (v := 55) C (List.mem_of_getElem? (i := 33) rfl) dL_texts_450 ?_
  refine jx_put C XT hF trivial tx_O30 tx_E31 gL_texts_X5_put (Nat.le_of_ble_eq_true rfl) (Nat.le_of_ble_eq_true rfl) ⟨Nat.le_of_ble_eq_true rfl, Nat.le_of_ble_eq_true rfl⟩ (Nat.le_of_ble_eq_true rfl) dL_texts_453 (fun μ hF _ => ?_)
  refine jw_iload_n C dL_texts_456 rfl 0 rfl ?_
  refine jw_icmp_eq C 462 dL_texts_457 (by decide) (fun _ => ?_) (fun c => absurd (by decide) c)
  refine jw_iinc (lw := [(1, .int _), (0, .ref _)]) (q := 0) (v := 28) C dL_texts_462 rfl (by decide) hN_1 rfl ?_
  refine jw_goto (tgt := 443) C dL_texts_465 (by decide) ?_
  refine jw_iload_n C dL_texts_443 rfl 0 rfl ?_
  refine jw_bipush (v := 60) C dL_texts_444 (by decide) ?_
  refine jw_icmp_gt C 468 dL_texts_446 (by decide) (fun c => absurd c (by decide)) (fun _ => ?_)
  refine jw_aload_n C dL_texts_449 rfl 1 rfl ?_
  refine jw_ldc2 (v := 55) C (List.mem_of_getElem? (i := 33) rfl) dL_texts_450 ?_
  refine jx_put C XT hF trivial tx_O31 tx_E32 gL_texts_X5_put (Nat.le_of_ble_eq_true rfl) (Nat.le_of_ble_eq_true rfl) ⟨Nat.le_of_ble_eq_true rfl, Nat.le_of_ble_eq_true rfl⟩ (Nat.le_of_ble_eq_true rfl) dL_texts_453 (fun μ hF _ => ?_)
  refine jw_iload_n C dL_texts_456 rfl 0 rfl ?_
  refine jw_icmp_eq C 462 dL_texts_457 (by decide) (fun _ => ?_) (fun c => absurd (by decide) c)
  exact tx_S16 hN G C hF
set_option maxRecDepth 100000 in
set_option maxHeartbeats 4000000 in
theorem tx_S14 {K : KT} {l : Launch} {ad : Nat → Nat} (hN : kN K = 2) (G : CtxF K l cL_texts RL wsL_texts rmL_texts EX5 (some .boolean) (fun v => v = some (.int (1 : Int32))) 2464 108472) (C : Ctx K l cL_texts RL wsL_texts rmL_texts shX ad) {μ : Mem} (hF : RepF μ tx_F26) : JW K (2464, 108472) shX ad μ 462 [(1, .int (22 : Int32)), (0, .ref (ad 0))] [] := by
  have hN_1 : 1 < kN K := by rw [hN]; decide
  refine jw_iinc (lw := [(1, .int _), (0, .ref _)]) (q := 0) (v := 23) C dL_texts_462 rfl (by decide) hN_1 rfl ?_
  refine jw_goto (tgt := 443) C dL_texts_465 (by decide) ?_
  refine jw_iload_n C dL_texts_443 rfl 0 rfl ?_
  refine jw_bipush (v := 60) C dL_texts_444 (by decide) ?_
  refine jw_icmp_gt C 468 dL_texts_446 (by decide) (fun c => absurd c (by decide)) (fun _ => ?_)
  refine jw_aload_n C dL_texts_449 rfl 1 rfl ?_
  refine jw_ldc2 (v := 55) C (List.mem_of_getElem? (i := 33) rfl) dL_texts_450 ?_
  refine jx_put C XT hF trivial tx_O26 tx_E27 gL_texts_X5_put (Nat.le_of_ble_eq_true rfl) (Nat.le_of_ble_eq_true rfl) ⟨Nat.le_of_ble_eq_true rfl, Nat.le_of_ble_eq_true rfl⟩ (Nat.le_of_ble_eq_true rfl) dL_texts_453 (fun μ hF _ => ?_)
  refine jw_iload_n C dL_texts_456 rfl 0 rfl ?_
  refine jw_icmp_eq C 462 dL_texts_457 (by decide) (fun _ => ?_) (fun c => absurd (by decide) c)
  refine jw_iinc (lw := [(1, .int _), (0, .ref _)]) (q := 0) (v := 24) C dL_texts_462 rfl (by decide) hN_1 rfl ?_
  refine jw_goto (tgt := 443) C dL_texts_465 (by decide) ?_
  refine jw_iload_n C dL_texts_443 rfl 0 rfl ?_
  refine jw_bipush (v := 60) C dL_texts_444 (by decide) ?_
  refine jw_icmp_gt C 468 dL_texts_446 (by decide) (fun c => absurd c (by decide)) (fun _ => ?_)
  refine jw_aload_n C dL_texts_449 rfl 1 rfl ?_
  refine jw_ldc2 (v := 55) C (List.mem_of_getElem? (i := 33) rfl) dL_texts_450 ?_
  refine jx_put C XT hF trivial tx_O27 tx_E28 gL_texts_X5_put (Nat.le_of_ble_eq_true rfl) (Nat.le_of_ble_eq_true rfl) ⟨Nat.le_of_ble_eq_true rfl, Nat.le_of_ble_eq_true rfl⟩ (Nat.le_of_ble_eq_true rfl) dL_texts_453 (fun μ hF _ => ?_)
  refine jw_iload_n C dL_texts_456 rfl 0 rfl ?_
  refine jw_icmp_eq C 462 dL_texts_457 (by decide) (fun _ => ?_) (fun c => absurd (by decide) c)
  refine jw_iinc (lw := [(1, .int _), (0, .ref _)]) (q := 0) (v := 25) C dL_texts_462 rfl (by decide) hN_1 rfl ?_
  refine jw_goto (tgt := 443) C dL_texts_465 (by decide) ?_
  refine jw_iload_n C dL_texts_443 rfl 0 rfl ?_
  refine jw_bipush (v := 60) C dL_texts_444 (by decide) ?_
  refine jw_icmp_gt C 468 dL_texts_446 (by decide) (fun c => absurd c (by decide)) (fun _ => ?_)
  refine jw_aload_n C dL_texts_449 rfl 1 rfl ?_
  refine jw_ldc2 (v := 55) C (List.mem_of_getElem? (i := 33) rfl) dL_texts_450 ?_
  refine jx_put C XT hF trivial tx_O28 tx_E29 gL_texts_X5_put (Nat.le_of_ble_eq_true rfl) (Nat.le_of_ble_eq_true rfl) ⟨Nat.le_of_ble_eq_true rfl, Nat.le_of_ble_eq_true rfl⟩ (Nat.le_of_ble_eq_true rfl) dL_texts_453 (fun μ hF _ => ?_)
  refine jw_iload_n C dL_texts_456 rfl 0 rfl ?_
  refine jw_icmp_eq C 462 dL_texts_457 (by decide) (fun _ => ?_) (fun c => absurd (by decide) c)
  exact tx_S15 hN G C hF
set_option maxRecDepth 100000 in
set_option maxHeartbeats 4000000 in
theorem tx_S13 {K : KT} {l : Launch} {ad : Nat → Nat} (hN : kN K = 2) (G : CtxF K l cL_texts RL wsL_texts rmL_texts EX5 (some .boolean) (fun v => v = some (.int (1 : Int32))) 2464 108472) (C : Ctx K l cL_texts RL wsL_texts rmL_texts shX ad) {μ : Mem} (hF : RepF μ tx_F23) : JW K (2464, 108472) shX ad μ 462 [(1, .int (19 : Int32)), (0, .ref (ad 0))] [] := by
  have hN_1 : 1 < kN K := by rw [hN]; decide
  refine jw_iinc (lw := [(1, .int _), (0, .ref _)]) (q := 0) (v := 20) C dL_texts_462 rfl (by decide) hN_1 rfl ?_
  refine jw_goto (tgt := 443) C dL_texts_465 (by decide) ?_
  refine jw_iload_n C dL_texts_443 rfl 0 rfl ?_
  refine jw_bipush (v := 60) C dL_texts_444 (by decide) ?_
  refine jw_icmp_gt C 468 dL_texts_446 (by decide) (fun c => absurd c (by decide)) (fun _ => ?_)
  refine jw_aload_n C dL_texts_449 rfl 1 rfl ?_
  refine jw_ldc2 (v := 55) C (List.mem_of_getElem? (i := 33) rfl) dL_texts_450 ?_
  refine jx_put C XT hF trivial tx_O23 tx_E24 gL_texts_X5_put (Nat.le_of_ble_eq_true rfl) (Nat.le_of_ble_eq_true rfl) ⟨Nat.le_of_ble_eq_true rfl, Nat.le_of_ble_eq_true rfl⟩ (Nat.le_of_ble_eq_true rfl) dL_texts_453 (fun μ hF _ => ?_)
  refine jw_iload_n C dL_texts_456 rfl 0 rfl ?_
  refine jw_icmp_eq C 462 dL_texts_457 (by decide) (fun _ => ?_) (fun c => absurd (by decide) c)
  refine jw_iinc (lw := [(1, .int _), (0, .ref _)]) (q := 0) (v := 21) C dL_texts_462 rfl (by decide) hN_1 rfl ?_
  refine jw_goto (tgt := 443) C dL_texts_465 (by decide) ?_
  refine jw_iload_n C dL_texts_443 rfl 0 rfl ?_
  refine jw_bipush (v := 60) C dL_texts_444 (by decide) ?_
  refine jw_icmp_gt C 468 dL_texts_446 (by decide) (fun c => absurd c (by decide)) (fun _ => ?_)
  refine jw_aload_n C dL_texts_449 rfl 1 rfl ?_
  refine jw_ldc2 (v := 55) C (List.mem_of_getElem? (i := 33) rfl) dL_texts_450 ?_
  refine jx_put C XT hF trivial tx_O24 tx_E25 gL_texts_X5_put (Nat.le_of_ble_eq_true rfl) (Nat.le_of_ble_eq_true rfl) ⟨Nat.le_of_ble_eq_true rfl, Nat.le_of_ble_eq_true rfl⟩ (Nat.le_of_ble_eq_true rfl) dL_texts_453 (fun μ hF _ => ?_)
  refine jw_iload_n C dL_texts_456 rfl 0 rfl ?_
  refine jw_icmp_eq C 462 dL_texts_457 (by decide) (fun _ => ?_) (fun c => absurd (by decide) c)
  refine jw_iinc (lw := [(1, .int _), (0, .ref _)]) (q := 0) (v := 22) C dL_texts_462 rfl (by decide) hN_1 rfl ?_
  refine jw_goto (tgt := 443) C dL_texts_465 (by decide) ?_
  refine jw_iload_n C dL_texts_443 rfl 0 rfl ?_
  refine jw_bipush (v := 60) C dL_texts_444 (by decide) ?_
  refine jw_icmp_gt C 468 dL_texts_446 (by decide) (fun c => absurd c (by decide)) (fun _ => ?_)
  refine jw_aload_n C dL_texts_449 rfl 1 rfl ?_
  refine jw_ldc2 (v := 55) C (List.mem_of_getElem? (i := 33) rfl) dL_texts_450 ?_
  refine jx_put C XT hF trivial tx_O25 tx_E26 gL_texts_X5_put (Nat.le_of_ble_eq_true rfl) (Nat.le_of_ble_eq_true rfl) ⟨Nat.le_of_ble_eq_true rfl, Nat.le_of_ble_eq_true rfl⟩ (Nat.le_of_ble_eq_true rfl) dL_texts_453 (fun μ hF _ => ?_)
  refine jw_iload_n C dL_texts_456 rfl 0 rfl ?_
  refine jw_icmp_eq C 462 dL_texts_457 (by decide) (fun _ => ?_) (fun c => absurd (by decide) c)
  exact tx_S14 hN G C hF
set_option maxRecDepth 100000 in
set_option maxHeartbeats 4000000 in
theorem tx_S12 {K : KT} {l : Launch} {ad : Nat → Nat} (hN : kN K = 2) (G : CtxF K l cL_texts RL wsL_texts rmL_texts EX5 (some .boolean) (fun v => v = some (.int (1 : Int32))) 2464 108472) (C : Ctx K l cL_texts RL wsL_texts rmL_texts shX ad) {μ : Mem} (hF : RepF μ tx_F20) : JW K (2464, 108472) shX ad μ 462 [(1, .int (16 : Int32)), (0, .ref (ad 0))] [] := by
  have hN_1 : 1 < kN K := by rw [hN]; decide
  refine jw_iinc (lw := [(1, .int _), (0, .ref _)]) (q := 0) (v := 17) C dL_texts_462 rfl (by decide) hN_1 rfl ?_
  refine jw_goto (tgt := 443) C dL_texts_465 (by decide) ?_
  refine jw_iload_n C dL_texts_443 rfl 0 rfl ?_
  refine jw_bipush (v := 60) C dL_texts_444 (by decide) ?_
  refine jw_icmp_gt C 468 dL_texts_446 (by decide) (fun c => absurd c (by decide)) (fun _ => ?_)
  refine jw_aload_n C dL_texts_449 rfl 1 rfl ?_
  refine jw_ldc2 (v := 55) C (List.mem_of_getElem? (i := 33) rfl) dL_texts_450 ?_
  refine jx_put C XT hF trivial tx_O20 tx_E21 gL_texts_X5_put (Nat.le_of_ble_eq_true rfl) (Nat.le_of_ble_eq_true rfl) ⟨Nat.le_of_ble_eq_true rfl, Nat.le_of_ble_eq_true rfl⟩ (Nat.le_of_ble_eq_true rfl) dL_texts_453 (fun μ hF _ => ?_)
  refine jw_iload_n C dL_texts_456 rfl 0 rfl ?_
  refine jw_icmp_eq C 462 dL_texts_457 (by decide) (fun _ => ?_) (fun c => absurd (by decide) c)
  refine jw_iinc (lw := [(1, .int _), (0, .ref _)]) (q := 0) (v := 18) C dL_texts_462 rfl (by decide) hN_1 rfl ?_
  refine jw_goto (tgt := 443) C dL_texts_465 (by decide) ?_
  refine jw_iload_n C dL_texts_443 rfl 0 rfl ?_
  refine jw_bipush (v := 60) C dL_texts_444 (by decide) ?_
  refine jw_icmp_gt C 468 dL_texts_446 (by decide) (fun c => absurd c (by decide)) (fun _ => ?_)
  refine jw_aload_n C dL_texts_449 rfl 1 rfl ?_
  refine jw_ldc2 (v := 55) C (List.mem_of_getElem? (i := 33) rfl) dL_texts_450 ?_
  refine jx_put C XT hF trivial tx_O21 tx_E22 gL_texts_X5_put (Nat.le_of_ble_eq_true rfl) (Nat.le_of_ble_eq_true rfl) ⟨Nat.le_of_ble_eq_true rfl, Nat.le_of_ble_eq_true rfl⟩ (Nat.le_of_ble_eq_true rfl) dL_texts_453 (fun μ hF _ => ?_)
  refine jw_iload_n C dL_texts_456 rfl 0 rfl ?_
  refine jw_icmp_eq C 462 dL_texts_457 (by decide) (fun _ => ?_) (fun c => absurd (by decide) c)
  refine jw_iinc (lw := [(1, .int _), (0, .ref _)]) (q := 0) (v := 19) C dL_texts_462 rfl (by decide) hN_1 rfl ?_
  refine jw_goto (tgt := 443) C dL_texts_465 (by decide) ?_
  refine jw_iload_n C dL_texts_443 rfl 0 rfl ?_
  refine jw_bipush (v := 60) C dL_texts_444 (by decide) ?_
  refine jw_icmp_gt C 468 dL_texts_446 (by decide) (fun c => absurd c (by decide)) (fun _ => ?_)
  refine jw_aload_n C dL_texts_449 rfl 1 rfl ?_
  refine jw_ldc2 (v := 55) C (List.mem_of_getElem? (i := 33) rfl) dL_texts_450 ?_
  refine jx_put C XT hF trivial tx_O22 tx_E23 gL_texts_X5_put (Nat.le_of_ble_eq_true rfl) (Nat.le_of_ble_eq_true rfl) ⟨Nat.le_of_ble_eq_true rfl, Nat.le_of_ble_eq_true rfl⟩ (Nat.le_of_ble_eq_true rfl) dL_texts_453 (fun μ hF _ => ?_)
  refine jw_iload_n C dL_texts_456 rfl 0 rfl ?_
  refine jw_icmp_eq C 462 dL_texts_457 (by decide) (fun _ => ?_) (fun c => absurd (by decide) c)
  exact tx_S13 hN G C hF
set_option maxRecDepth 100000 in
set_option maxHeartbeats 4000000 in
theorem tx_S11 {K : KT} {l : Launch} {ad : Nat → Nat} (hN : kN K = 2) (G : CtxF K l cL_texts RL wsL_texts rmL_texts EX5 (some .boolean) (fun v => v = some (.int (1 : Int32))) 2464 108472) (C : Ctx K l cL_texts RL wsL_texts rmL_texts shX ad) {μ : Mem} (hF : RepF μ tx_F17) : JW K (2464, 108472) shX ad μ 462 [(1, .int (13 : Int32)), (0, .ref (ad 0))] [] := by
  have hN_1 : 1 < kN K := by rw [hN]; decide
  refine jw_iinc (lw := [(1, .int _), (0, .ref _)]) (q := 0) (v := 14) C dL_texts_462 rfl (by decide) hN_1 rfl ?_
  refine jw_goto (tgt := 443) C dL_texts_465 (by decide) ?_
  refine jw_iload_n C dL_texts_443 rfl 0 rfl ?_
  refine jw_bipush (v := 60) C dL_texts_444 (by decide) ?_
  refine jw_icmp_gt C 468 dL_texts_446 (by decide) (fun c => absurd c (by decide)) (fun _ => ?_)
  refine jw_aload_n C dL_texts_449 rfl 1 rfl ?_
  refine jw_ldc2 (v := 55) C (List.mem_of_getElem? (i := 33) rfl) dL_texts_450 ?_
  refine jx_put C XT hF trivial tx_O17 tx_E18 gL_texts_X5_put (Nat.le_of_ble_eq_true rfl) (Nat.le_of_ble_eq_true rfl) ⟨Nat.le_of_ble_eq_true rfl, Nat.le_of_ble_eq_true rfl⟩ (Nat.le_of_ble_eq_true rfl) dL_texts_453 (fun μ hF _ => ?_)
  refine jw_iload_n C dL_texts_456 rfl 0 rfl ?_
  refine jw_icmp_eq C 462 dL_texts_457 (by decide) (fun _ => ?_) (fun c => absurd (by decide) c)
  refine jw_iinc (lw := [(1, .int _), (0, .ref _)]) (q := 0) (v := 15) C dL_texts_462 rfl (by decide) hN_1 rfl ?_
  refine jw_goto (tgt := 443) C dL_texts_465 (by decide) ?_
  refine jw_iload_n C dL_texts_443 rfl 0 rfl ?_
  refine jw_bipush (v := 60) C dL_texts_444 (by decide) ?_
  refine jw_icmp_gt C 468 dL_texts_446 (by decide) (fun c => absurd c (by decide)) (fun _ => ?_)
  refine jw_aload_n C dL_texts_449 rfl 1 rfl ?_
  refine jw_ldc2 (v := 55) C (List.mem_of_getElem? (i := 33) rfl) dL_texts_450 ?_
  refine jx_put C XT hF trivial tx_O18 tx_E19 gL_texts_X5_put (Nat.le_of_ble_eq_true rfl) (Nat.le_of_ble_eq_true rfl) ⟨Nat.le_of_ble_eq_true rfl, Nat.le_of_ble_eq_true rfl⟩ (Nat.le_of_ble_eq_true rfl) dL_texts_453 (fun μ hF _ => ?_)
  refine jw_iload_n C dL_texts_456 rfl 0 rfl ?_
  refine jw_icmp_eq C 462 dL_texts_457 (by decide) (fun _ => ?_) (fun c => absurd (by decide) c)
  refine jw_iinc (lw := [(1, .int _), (0, .ref _)]) (q := 0) (v := 16) C dL_texts_462 rfl (by decide) hN_1 rfl ?_
  refine jw_goto (tgt := 443) C dL_texts_465 (by decide) ?_
  refine jw_iload_n C dL_texts_443 rfl 0 rfl ?_
  refine jw_bipush (v := 60) C dL_texts_444 (by decide) ?_
  refine jw_icmp_gt C 468 dL_texts_446 (by decide) (fun c => absurd c (by decide)) (fun _ => ?_)
  refine jw_aload_n C dL_texts_449 rfl 1 rfl ?_
  refine jw_ldc2 (v := 55) C (List.mem_of_getElem? (i := 33) rfl) dL_texts_450 ?_
  refine jx_put C XT hF trivial tx_O19 tx_E20 gL_texts_X5_put (Nat.le_of_ble_eq_true rfl) (Nat.le_of_ble_eq_true rfl) ⟨Nat.le_of_ble_eq_true rfl, Nat.le_of_ble_eq_true rfl⟩ (Nat.le_of_ble_eq_true rfl) dL_texts_453 (fun μ hF _ => ?_)
  refine jw_iload_n C dL_texts_456 rfl 0 rfl ?_
  refine jw_icmp_eq C 462 dL_texts_457 (by decide) (fun _ => ?_) (fun c => absurd (by decide) c)
  exact tx_S12 hN G C hF
set_option maxRecDepth 100000 in
set_option maxHeartbeats 4000000 in
theorem tx_S10 {K : KT} {l : Launch} {ad : Nat → Nat} (hN : kN K = 2) (G : CtxF K l cL_texts RL wsL_texts rmL_texts EX5 (some .boolean) (fun v => v = some (.int (1 : Int32))) 2464 108472) (C : Ctx K l cL_texts RL wsL_texts rmL_texts shX ad) {μ : Mem} (hF : RepF μ tx_F14) : JW K (2464, 108472) shX ad μ 462 [(1, .int (10 : Int32)), (0, .ref (ad 0))] [] := by
  have hN_1 : 1 < kN K := by rw [hN]; decide
  refine jw_iinc (lw := [(1, .int _), (0, .ref _)]) (q := 0) (v := 11) C dL_texts_462 rfl (by decide) hN_1 rfl ?_
  refine jw_goto (tgt := 443) C dL_texts_465 (by decide) ?_
  refine jw_iload_n C dL_texts_443 rfl 0 rfl ?_
  refine jw_bipush (v := 60) C dL_texts_444 (by decide) ?_
  refine jw_icmp_gt C 468 dL_texts_446 (by decide) (fun c => absurd c (by decide)) (fun _ => ?_)
  refine jw_aload_n C dL_texts_449 rfl 1 rfl ?_
  refine jw_ldc2 (v := 55) C (List.mem_of_getElem? (i := 33) rfl) dL_texts_450 ?_
  refine jx_put C XT hF trivial tx_O14 tx_E15 gL_texts_X5_put (Nat.le_of_ble_eq_true rfl) (Nat.le_of_ble_eq_true rfl) ⟨Nat.le_of_ble_eq_true rfl, Nat.le_of_ble_eq_true rfl⟩ (Nat.le_of_ble_eq_true rfl) dL_texts_453 (fun μ hF _ => ?_)
  refine jw_iload_n C dL_texts_456 rfl 0 rfl ?_
  refine jw_icmp_eq C 462 dL_texts_457 (by decide) (fun _ => ?_) (fun c => absurd (by decide) c)
  refine jw_iinc (lw := [(1, .int _), (0, .ref _)]) (q := 0) (v := 12) C dL_texts_462 rfl (by decide) hN_1 rfl ?_
  refine jw_goto (tgt := 443) C dL_texts_465 (by decide) ?_
  refine jw_iload_n C dL_texts_443 rfl 0 rfl ?_
  refine jw_bipush (v := 60) C dL_texts_444 (by decide) ?_
  refine jw_icmp_gt C 468 dL_texts_446 (by decide) (fun c => absurd c (by decide)) (fun _ => ?_)
  refine jw_aload_n C dL_texts_449 rfl 1 rfl ?_
  refine jw_ldc2 (v := 55) C (List.mem_of_getElem? (i := 33) rfl) dL_texts_450 ?_
  refine jx_put C XT hF trivial tx_O15 tx_E16 gL_texts_X5_put (Nat.le_of_ble_eq_true rfl) (Nat.le_of_ble_eq_true rfl) ⟨Nat.le_of_ble_eq_true rfl, Nat.le_of_ble_eq_true rfl⟩ (Nat.le_of_ble_eq_true rfl) dL_texts_453 (fun μ hF _ => ?_)
  refine jw_iload_n C dL_texts_456 rfl 0 rfl ?_
  refine jw_icmp_eq C 462 dL_texts_457 (by decide) (fun _ => ?_) (fun c => absurd (by decide) c)
  refine jw_iinc (lw := [(1, .int _), (0, .ref _)]) (q := 0) (v := 13) C dL_texts_462 rfl (by decide) hN_1 rfl ?_
  refine jw_goto (tgt := 443) C dL_texts_465 (by decide) ?_
  refine jw_iload_n C dL_texts_443 rfl 0 rfl ?_
  refine jw_bipush (v := 60) C dL_texts_444 (by decide) ?_
  refine jw_icmp_gt C 468 dL_texts_446 (by decide) (fun c => absurd c (by decide)) (fun _ => ?_)
  refine jw_aload_n C dL_texts_449 rfl 1 rfl ?_
  refine jw_ldc2 (v := 55) C (List.mem_of_getElem? (i := 33) rfl) dL_texts_450 ?_
  refine jx_put C XT hF trivial tx_O16 tx_E17 gL_texts_X5_put (Nat.le_of_ble_eq_true rfl) (Nat.le_of_ble_eq_true rfl) ⟨Nat.le_of_ble_eq_true rfl, Nat.le_of_ble_eq_true rfl⟩ (Nat.le_of_ble_eq_true rfl) dL_texts_453 (fun μ hF _ => ?_)
  refine jw_iload_n C dL_texts_456 rfl 0 rfl ?_
  refine jw_icmp_eq C 462 dL_texts_457 (by decide) (fun _ => ?_) (fun c => absurd (by decide) c)
  exact tx_S11 hN G C hF
set_option maxRecDepth 100000 in
set_option maxHeartbeats 4000000 in
theorem tx_S9 {K : KT} {l : Launch} {ad : Nat → Nat} (hN : kN K = 2) (G : CtxF K l cL_texts RL wsL_texts rmL_texts EX5 (some .boolean) (fun v => v = some (.int (1 : Int32))) 2464 108472) (C : Ctx K l cL_texts RL wsL_texts rmL_texts shX ad) {μ : Mem} (hF : RepF μ tx_F11) : JW K (2464, 108472) shX ad μ 462 [(1, .int (7 : Int32)), (0, .ref (ad 0))] [] := by
  have hN_1 : 1 < kN K := by rw [hN]; decide
  refine jw_iinc (lw := [(1, .int _), (0, .ref _)]) (q := 0) (v := 8) C dL_texts_462 rfl (by decide) hN_1 rfl ?_
  refine jw_goto (tgt := 443) C dL_texts_465 (by decide) ?_
  refine jw_iload_n C dL_texts_443 rfl 0 rfl ?_
  refine jw_bipush (v := 60) C dL_texts_444 (by decide) ?_
  refine jw_icmp_gt C 468 dL_texts_446 (by decide) (fun c => absurd c (by decide)) (fun _ => ?_)
  refine jw_aload_n C dL_texts_449 rfl 1 rfl ?_
  refine jw_ldc2 (v := 55) C (List.mem_of_getElem? (i := 33) rfl) dL_texts_450 ?_
  refine jx_put C XT hF trivial tx_O11 tx_E12 gL_texts_X5_put (Nat.le_of_ble_eq_true rfl) (Nat.le_of_ble_eq_true rfl) ⟨Nat.le_of_ble_eq_true rfl, Nat.le_of_ble_eq_true rfl⟩ (Nat.le_of_ble_eq_true rfl) dL_texts_453 (fun μ hF _ => ?_)
  refine jw_iload_n C dL_texts_456 rfl 0 rfl ?_
  refine jw_icmp_eq C 462 dL_texts_457 (by decide) (fun _ => ?_) (fun c => absurd (by decide) c)
  refine jw_iinc (lw := [(1, .int _), (0, .ref _)]) (q := 0) (v := 9) C dL_texts_462 rfl (by decide) hN_1 rfl ?_
  refine jw_goto (tgt := 443) C dL_texts_465 (by decide) ?_
  refine jw_iload_n C dL_texts_443 rfl 0 rfl ?_
  refine jw_bipush (v := 60) C dL_texts_444 (by decide) ?_
  refine jw_icmp_gt C 468 dL_texts_446 (by decide) (fun c => absurd c (by decide)) (fun _ => ?_)
  refine jw_aload_n C dL_texts_449 rfl 1 rfl ?_
  refine jw_ldc2 (v := 55) C (List.mem_of_getElem? (i := 33) rfl) dL_texts_450 ?_
  refine jx_put C XT hF trivial tx_O12 tx_E13 gL_texts_X5_put (Nat.le_of_ble_eq_true rfl) (Nat.le_of_ble_eq_true rfl) ⟨Nat.le_of_ble_eq_true rfl, Nat.le_of_ble_eq_true rfl⟩ (Nat.le_of_ble_eq_true rfl) dL_texts_453 (fun μ hF _ => ?_)
  refine jw_iload_n C dL_texts_456 rfl 0 rfl ?_
  refine jw_icmp_eq C 462 dL_texts_457 (by decide) (fun _ => ?_) (fun c => absurd (by decide) c)
  refine jw_iinc (lw := [(1, .int _), (0, .ref _)]) (q := 0) (v := 10) C dL_texts_462 rfl (by decide) hN_1 rfl ?_
  refine jw_goto (tgt := 443) C dL_texts_465 (by decide) ?_
  refine jw_iload_n C dL_texts_443 rfl 0 rfl ?_
  refine jw_bipush (v := 60) C dL_texts_444 (by decide) ?_
  refine jw_icmp_gt C 468 dL_texts_446 (by decide) (fun c => absurd c (by decide)) (fun _ => ?_)
  refine jw_aload_n C dL_texts_449 rfl 1 rfl ?_
  refine jw_ldc2 (v := 55) C (List.mem_of_getElem? (i := 33) rfl) dL_texts_450 ?_
  refine jx_put C XT hF trivial tx_O13 tx_E14 gL_texts_X5_put (Nat.le_of_ble_eq_true rfl) (Nat.le_of_ble_eq_true rfl) ⟨Nat.le_of_ble_eq_true rfl, Nat.le_of_ble_eq_true rfl⟩ (Nat.le_of_ble_eq_true rfl) dL_texts_453 (fun μ hF _ => ?_)
  refine jw_iload_n C dL_texts_456 rfl 0 rfl ?_
  refine jw_icmp_eq C 462 dL_texts_457 (by decide) (fun _ => ?_) (fun c => absurd (by decide) c)
  exact tx_S10 hN G C hF
set_option maxRecDepth 100000 in
set_option maxHeartbeats 4000000 in
theorem tx_S8 {K : KT} {l : Launch} {ad : Nat → Nat} (hN : kN K = 2) (G : CtxF K l cL_texts RL wsL_texts rmL_texts EX5 (some .boolean) (fun v => v = some (.int (1 : Int32))) 2464 108472) (C : Ctx K l cL_texts RL wsL_texts rmL_texts shX ad) {μ : Mem} (hF : RepF μ tx_F8) : JW K (2464, 108472) shX ad μ 462 [(1, .int (4 : Int32)), (0, .ref (ad 0))] [] := by
  have hN_1 : 1 < kN K := by rw [hN]; decide
  refine jw_iinc (lw := [(1, .int _), (0, .ref _)]) (q := 0) (v := 5) C dL_texts_462 rfl (by decide) hN_1 rfl ?_
  refine jw_goto (tgt := 443) C dL_texts_465 (by decide) ?_
  refine jw_iload_n C dL_texts_443 rfl 0 rfl ?_
  refine jw_bipush (v := 60) C dL_texts_444 (by decide) ?_
  refine jw_icmp_gt C 468 dL_texts_446 (by decide) (fun c => absurd c (by decide)) (fun _ => ?_)
  refine jw_aload_n C dL_texts_449 rfl 1 rfl ?_
  refine jw_ldc2 (v := 55) C (List.mem_of_getElem? (i := 33) rfl) dL_texts_450 ?_
  refine jx_put C XT hF trivial tx_O8 tx_E9 gL_texts_X5_put (Nat.le_of_ble_eq_true rfl) (Nat.le_of_ble_eq_true rfl) ⟨Nat.le_of_ble_eq_true rfl, Nat.le_of_ble_eq_true rfl⟩ (Nat.le_of_ble_eq_true rfl) dL_texts_453 (fun μ hF _ => ?_)
  refine jw_iload_n C dL_texts_456 rfl 0 rfl ?_
  refine jw_icmp_eq C 462 dL_texts_457 (by decide) (fun _ => ?_) (fun c => absurd (by decide) c)
  refine jw_iinc (lw := [(1, .int _), (0, .ref _)]) (q := 0) (v := 6) C dL_texts_462 rfl (by decide) hN_1 rfl ?_
  refine jw_goto (tgt := 443) C dL_texts_465 (by decide) ?_
  refine jw_iload_n C dL_texts_443 rfl 0 rfl ?_
  refine jw_bipush (v := 60) C dL_texts_444 (by decide) ?_
  refine jw_icmp_gt C 468 dL_texts_446 (by decide) (fun c => absurd c (by decide)) (fun _ => ?_)
  refine jw_aload_n C dL_texts_449 rfl 1 rfl ?_
  refine jw_ldc2 (v := 55) C (List.mem_of_getElem? (i := 33) rfl) dL_texts_450 ?_
  refine jx_put C XT hF trivial tx_O9 tx_E10 gL_texts_X5_put (Nat.le_of_ble_eq_true rfl) (Nat.le_of_ble_eq_true rfl) ⟨Nat.le_of_ble_eq_true rfl, Nat.le_of_ble_eq_true rfl⟩ (Nat.le_of_ble_eq_true rfl) dL_texts_453 (fun μ hF _ => ?_)
  refine jw_iload_n C dL_texts_456 rfl 0 rfl ?_
  refine jw_icmp_eq C 462 dL_texts_457 (by decide) (fun _ => ?_) (fun c => absurd (by decide) c)
  refine jw_iinc (lw := [(1, .int _), (0, .ref _)]) (q := 0) (v := 7) C dL_texts_462 rfl (by decide) hN_1 rfl ?_
  refine jw_goto (tgt := 443) C dL_texts_465 (by decide) ?_
  refine jw_iload_n C dL_texts_443 rfl 0 rfl ?_
  refine jw_bipush (v := 60) C dL_texts_444 (by decide) ?_
  refine jw_icmp_gt C 468 dL_texts_446 (by decide) (fun c => absurd c (by decide)) (fun _ => ?_)
  refine jw_aload_n C dL_texts_449 rfl 1 rfl ?_
  refine jw_ldc2 (v := 55) C (List.mem_of_getElem? (i := 33) rfl) dL_texts_450 ?_
  refine jx_put C XT hF trivial tx_O10 tx_E11 gL_texts_X5_put (Nat.le_of_ble_eq_true rfl) (Nat.le_of_ble_eq_true rfl) ⟨Nat.le_of_ble_eq_true rfl, Nat.le_of_ble_eq_true rfl⟩ (Nat.le_of_ble_eq_true rfl) dL_texts_453 (fun μ hF _ => ?_)
  refine jw_iload_n C dL_texts_456 rfl 0 rfl ?_
  refine jw_icmp_eq C 462 dL_texts_457 (by decide) (fun _ => ?_) (fun c => absurd (by decide) c)
  exact tx_S9 hN G C hF
set_option maxRecDepth 100000 in
set_option maxHeartbeats 4000000 in
theorem tx_S7 {K : KT} {l : Launch} {ad : Nat → Nat} (hN : kN K = 2) (G : CtxF K l cL_texts RL wsL_texts rmL_texts EX5 (some .boolean) (fun v => v = some (.int (1 : Int32))) 2464 108472) (C : Ctx K l cL_texts RL wsL_texts rmL_texts shX ad) {μ : Mem} (hF : RepF μ tx_F5) : JW K (2464, 108472) shX ad μ 462 [(1, .int (1 : Int32)), (0, .ref (ad 0))] [] := by
  have hN_1 : 1 < kN K := by rw [hN]; decide
  refine jw_iinc (lw := [(1, .int _), (0, .ref _)]) (q := 0) (v := 2) C dL_texts_462 rfl (by decide) hN_1 rfl ?_
  refine jw_goto (tgt := 443) C dL_texts_465 (by decide) ?_
  refine jw_iload_n C dL_texts_443 rfl 0 rfl ?_
  refine jw_bipush (v := 60) C dL_texts_444 (by decide) ?_
  refine jw_icmp_gt C 468 dL_texts_446 (by decide) (fun c => absurd c (by decide)) (fun _ => ?_)
  refine jw_aload_n C dL_texts_449 rfl 1 rfl ?_
  refine jw_ldc2 (v := 55) C (List.mem_of_getElem? (i := 33) rfl) dL_texts_450 ?_
  refine jx_put C XT hF trivial tx_O5 tx_E6 gL_texts_X5_put (Nat.le_of_ble_eq_true rfl) (Nat.le_of_ble_eq_true rfl) ⟨Nat.le_of_ble_eq_true rfl, Nat.le_of_ble_eq_true rfl⟩ (Nat.le_of_ble_eq_true rfl) dL_texts_453 (fun μ hF _ => ?_)
  refine jw_iload_n C dL_texts_456 rfl 0 rfl ?_
  refine jw_icmp_eq C 462 dL_texts_457 (by decide) (fun _ => ?_) (fun c => absurd (by decide) c)
  refine jw_iinc (lw := [(1, .int _), (0, .ref _)]) (q := 0) (v := 3) C dL_texts_462 rfl (by decide) hN_1 rfl ?_
  refine jw_goto (tgt := 443) C dL_texts_465 (by decide) ?_
  refine jw_iload_n C dL_texts_443 rfl 0 rfl ?_
  refine jw_bipush (v := 60) C dL_texts_444 (by decide) ?_
  refine jw_icmp_gt C 468 dL_texts_446 (by decide) (fun c => absurd c (by decide)) (fun _ => ?_)
  refine jw_aload_n C dL_texts_449 rfl 1 rfl ?_
  refine jw_ldc2 (v := 55) C (List.mem_of_getElem? (i := 33) rfl) dL_texts_450 ?_
  refine jx_put C XT hF trivial tx_O6 tx_E7 gL_texts_X5_put (Nat.le_of_ble_eq_true rfl) (Nat.le_of_ble_eq_true rfl) ⟨Nat.le_of_ble_eq_true rfl, Nat.le_of_ble_eq_true rfl⟩ (Nat.le_of_ble_eq_true rfl) dL_texts_453 (fun μ hF _ => ?_)
  refine jw_iload_n C dL_texts_456 rfl 0 rfl ?_
  refine jw_icmp_eq C 462 dL_texts_457 (by decide) (fun _ => ?_) (fun c => absurd (by decide) c)
  refine jw_iinc (lw := [(1, .int _), (0, .ref _)]) (q := 0) (v := 4) C dL_texts_462 rfl (by decide) hN_1 rfl ?_
  refine jw_goto (tgt := 443) C dL_texts_465 (by decide) ?_
  refine jw_iload_n C dL_texts_443 rfl 0 rfl ?_
  refine jw_bipush (v := 60) C dL_texts_444 (by decide) ?_
  refine jw_icmp_gt C 468 dL_texts_446 (by decide) (fun c => absurd c (by decide)) (fun _ => ?_)
  refine jw_aload_n C dL_texts_449 rfl 1 rfl ?_
  refine jw_ldc2 (v := 55) C (List.mem_of_getElem? (i := 33) rfl) dL_texts_450 ?_
  refine jx_put C XT hF trivial tx_O7 tx_E8 gL_texts_X5_put (Nat.le_of_ble_eq_true rfl) (Nat.le_of_ble_eq_true rfl) ⟨Nat.le_of_ble_eq_true rfl, Nat.le_of_ble_eq_true rfl⟩ (Nat.le_of_ble_eq_true rfl) dL_texts_453 (fun μ hF _ => ?_)
  refine jw_iload_n C dL_texts_456 rfl 0 rfl ?_
  refine jw_icmp_eq C 462 dL_texts_457 (by decide) (fun _ => ?_) (fun c => absurd (by decide) c)
  exact tx_S8 hN G C hF
set_option maxRecDepth 100000 in
set_option maxHeartbeats 4000000 in
theorem tx_S6 {K : KT} {l : Launch} {ad : Nat → Nat} (hN : kN K = 2) (G : CtxF K l cL_texts RL wsL_texts rmL_texts EX5 (some .boolean) (fun v => v = some (.int (1 : Int32))) 2464 108472) (C : Ctx K l cL_texts RL wsL_texts rmL_texts shX ad) {μ : Mem} (hF : RepF μ tx_F4) : JW K (2464, 108472) shX ad μ 406 [(0, .ref (ad 0))] [] := by
  have hN_1 : 1 < kN K := by rw [hN]; decide
  refine jw_aload_n C dL_texts_406 rfl 0 rfl ?_
  refine jw_iconst (v := 0) C dL_texts_407 (by decide) ?_
  refine jw_iconst (v := 1) C dL_texts_408 (by decide) ?_
  refine jw_iconst (v := 2) C dL_texts_409 (by decide) ?_
  refine jx_stone C XT hF trivial tx_O4 tx_v5 gL_texts_X5_stone (Nat.le_of_ble_eq_true rfl) (Nat.le_of_ble_eq_true rfl) ⟨Nat.le_of_ble_eq_true rfl, Nat.le_of_ble_eq_true rfl⟩ (Nat.le_of_ble_eq_true rfl) dL_texts_410 (fun μ hF _ => ?_)
  refine jw_bipush (v := 26) C dL_texts_413 (by decide) ?_
  refine jw_icmp_ne C 439 dL_texts_415 (by decide) (fun c => absurd (by decide) c) (fun _ => ?_)
  refine jw_aload_n C dL_texts_418 rfl 0 rfl ?_
  refine jw_iconst (v := 5) C dL_texts_419 (by decide) ?_
  refine jw_iconst (v := 1) C dL_texts_420 (by decide) ?_
  refine jx_key C XT hF trivial tx_O4 tx_v6 gL_texts_X5_ofKey (Nat.le_of_ble_eq_true rfl) (Nat.le_of_ble_eq_true rfl) ⟨Nat.le_of_ble_eq_true rfl, Nat.le_of_ble_eq_true rfl⟩ (Nat.le_of_ble_eq_true rfl) dL_texts_421 (fun μ hF _ => ?_)
  refine jw_bipush (v := 121) C dL_texts_424 (by decide) ?_
  refine jw_icmp_ne C 439 dL_texts_426 (by decide) (fun c => absurd (by decide) c) (fun _ => ?_)
  refine jw_aload_n C dL_texts_429 rfl 0 rfl ?_
  refine jw_bipush (v := 7) C dL_texts_430 (by decide) ?_
  refine jx_count C XT hF trivial tx_O4 tx_v7 gL_texts_X5_count (Nat.le_of_ble_eq_true rfl) (Nat.le_of_ble_eq_true rfl) ⟨Nat.le_of_ble_eq_true rfl, Nat.le_of_ble_eq_true rfl⟩ (Nat.le_of_ble_eq_true rfl) dL_texts_432 (fun μ hF _ => ?_)
  refine jw_iconst (v := 1) C dL_texts_435 (by decide) ?_
  refine jw_icmp_eq C 441 dL_texts_436 (by decide) (fun _ => ?_) (fun c => absurd (by decide) c)
  refine jw_iconst (v := 1) C dL_texts_441 (by decide) ?_
  refine jw_istore_n (lw := [(1, .int _), (0, .ref _)]) C dL_texts_442 rfl hN_1 rfl ?_
  refine jw_iload_n C dL_texts_443 rfl 0 rfl ?_
  refine jw_bipush (v := 60) C dL_texts_444 (by decide) ?_
  refine jw_icmp_gt C 468 dL_texts_446 (by decide) (fun c => absurd c (by decide)) (fun _ => ?_)
  refine jw_aload_n C dL_texts_449 rfl 1 rfl ?_
  refine jw_ldc2 (v := 55) C (List.mem_of_getElem? (i := 33) rfl) dL_texts_450 ?_
  refine jx_put C XT hF trivial tx_O4 tx_E5 gL_texts_X5_put (Nat.le_of_ble_eq_true rfl) (Nat.le_of_ble_eq_true rfl) ⟨Nat.le_of_ble_eq_true rfl, Nat.le_of_ble_eq_true rfl⟩ (Nat.le_of_ble_eq_true rfl) dL_texts_453 (fun μ hF _ => ?_)
  refine jw_iload_n C dL_texts_456 rfl 0 rfl ?_
  refine jw_icmp_eq C 462 dL_texts_457 (by decide) (fun _ => ?_) (fun c => absurd (by decide) c)
  exact tx_S7 hN G C hF
set_option maxRecDepth 100000 in
set_option maxHeartbeats 4000000 in
theorem tx_S5 {K : KT} {l : Launch} {ad : Nat → Nat} (hN : kN K = 2) (G : CtxF K l cL_texts RL wsL_texts rmL_texts EX5 (some .boolean) (fun v => v = some (.int (1 : Int32))) 2464 108472) (C : Ctx K l cL_texts RL wsL_texts rmL_texts shX ad) {μ : Mem} (hF : RepF μ tx_F3) : JW K (2464, 108472) shX ad μ 348 [(0, .ref (ad 0))] [] := by
  refine jw_aload_n C dL_texts_348 rfl 0 rfl ?_
  refine jx_fault C XT hF trivial tx_O3 tx_v0 gL_texts_X5_fault (Nat.le_of_ble_eq_true rfl) (Nat.le_of_ble_eq_true rfl) ⟨Nat.le_of_ble_eq_true rfl, Nat.le_of_ble_eq_true rfl⟩ (Nat.le_of_ble_eq_true rfl) dL_texts_349 (fun μ hF _ => ?_)
  refine jw_bipush (v := (-6)) C dL_texts_352 (by decide) ?_
  refine jw_icmp_ne C 439 dL_texts_354 (by decide) (fun c => absurd (by decide) c) (fun _ => ?_)
  refine jw_aload_n C dL_texts_357 rfl 0 rfl ?_
  refine jx_carry C XT hF trivial tx_O3 tx_E4 gL_texts_X5_carryOut (Nat.le_of_ble_eq_true rfl) (Nat.le_of_ble_eq_true rfl) ⟨Nat.le_of_ble_eq_true rfl, Nat.le_of_ble_eq_true rfl⟩ (Nat.le_of_ble_eq_true rfl) dL_texts_358 (fun μ hF _ => ?_)
  have hF := tx_R4 hF
  refine jw_iconst (v := 3) C dL_texts_361 (by decide) ?_
  refine jw_icmp_ne C 439 dL_texts_362 (by decide) (fun c => absurd (by decide) c) (fun _ => ?_)
  refine jw_aload_n C dL_texts_365 rfl 0 rfl ?_
  refine jw_iconst (v := 0) C dL_texts_366 (by decide) ?_
  refine jx_count C XT hF trivial tx_O4 tx_v1 gL_texts_X5_count (Nat.le_of_ble_eq_true rfl) (Nat.le_of_ble_eq_true rfl) ⟨Nat.le_of_ble_eq_true rfl, Nat.le_of_ble_eq_true rfl⟩ (Nat.le_of_ble_eq_true rfl) dL_texts_367 (fun μ hF _ => ?_)
  refine jw_iconst (v := 2) C dL_texts_370 (by decide) ?_
  refine jw_icmp_ne C 439 dL_texts_371 (by decide) (fun c => absurd (by decide) c) (fun _ => ?_)
  refine jw_aload_n C dL_texts_374 rfl 0 rfl ?_
  refine jw_iconst (v := 1) C dL_texts_375 (by decide) ?_
  refine jx_count C XT hF trivial tx_O4 tx_v2 gL_texts_X5_count (Nat.le_of_ble_eq_true rfl) (Nat.le_of_ble_eq_true rfl) ⟨Nat.le_of_ble_eq_true rfl, Nat.le_of_ble_eq_true rfl⟩ (Nat.le_of_ble_eq_true rfl) dL_texts_376 (fun μ hF _ => ?_)
  refine jw_iconst (v := 3) C dL_texts_379 (by decide) ?_
  refine jw_icmp_ne C 439 dL_texts_380 (by decide) (fun c => absurd (by decide) c) (fun _ => ?_)
  refine jw_aload_n C dL_texts_383 rfl 0 rfl ?_
  refine jw_iconst (v := 0) C dL_texts_384 (by decide) ?_
  refine jw_iconst (v := 0) C dL_texts_385 (by decide) ?_
  refine jw_iconst (v := 3) C dL_texts_386 (by decide) ?_
  refine jx_stone C XT hF trivial tx_O4 tx_v3 gL_texts_X5_stone (Nat.le_of_ble_eq_true rfl) (Nat.le_of_ble_eq_true rfl) ⟨Nat.le_of_ble_eq_true rfl, Nat.le_of_ble_eq_true rfl⟩ (Nat.le_of_ble_eq_true rfl) dL_texts_387 (fun μ hF _ => ?_)
  refine jw_bipush (v := 120) C dL_texts_390 (by decide) ?_
  refine jw_icmp_ne C 439 dL_texts_392 (by decide) (fun c => absurd (by decide) c) (fun _ => ?_)
  refine jw_aload_n C dL_texts_395 rfl 0 rfl ?_
  refine jw_iconst (v := 0) C dL_texts_396 (by decide) ?_
  refine jw_iconst (v := 1) C dL_texts_397 (by decide) ?_
  refine jw_iconst (v := 0) C dL_texts_398 (by decide) ?_
  refine jx_stone C XT hF trivial tx_O4 tx_v4 gL_texts_X5_stone (Nat.le_of_ble_eq_true rfl) (Nat.le_of_ble_eq_true rfl) ⟨Nat.le_of_ble_eq_true rfl, Nat.le_of_ble_eq_true rfl⟩ (Nat.le_of_ble_eq_true rfl) dL_texts_399 (fun μ hF _ => ?_)
  refine jw_iconst (v := 1) C dL_texts_402 (by decide) ?_
  refine jw_icmp_ne C 439 dL_texts_403 (by decide) (fun c => absurd (by decide) c) (fun _ => ?_)
  exact tx_S6 hN G C hF
set_option maxRecDepth 100000 in
set_option maxHeartbeats 4000000 in
theorem tx_S4 {K : KT} {l : Launch} (hN : kN K = 2) (G : CtxF K l cL_texts RL wsL_texts rmL_texts EX5 (some .boolean) (fun v => v = some (.int (1 : Int32))) 2464 108472) (C : Ctx K l cL_texts RL wsL_texts rmL_texts [] (fun _ => 0)) : JW K (2112, 92976) [] (fun _ => 0) μ0 270 [] [] := by
  have hN_0 : 0 < kN K := by rw [hN]; decide
  refine jw_ldc2 (v := 13629) C (List.mem_of_getElem? (i := 24) rfl) dL_texts_270 ?_
  refine jw_lconst C dL_texts_273 (v := 0) rfl ?_
  refine jw_callF (As := [.long 13629, .long 0]) (rest := []) C exC (exW G.2.2.2.2.1) (cf24 l) miL_faultOf gL_texts_L_faultOf rfl rfl ⟨Nat.le_of_ble_eq_true rfl, Nat.le_of_ble_eq_true rfl⟩ rfl rfl (by decide) dL_texts_274 ⟨Nat.le_of_ble_eq_true rfl, Nat.le_of_ble_eq_true rfl⟩ (fun v hv => ?_)
  subst hv
  refine jw_iconst (v := 2) C dL_texts_277 (by decide) ?_
  refine jw_icmp_ne C 302 dL_texts_278 (by decide) (fun c => absurd (by decide) c) (fun _ => ?_)
  refine jw_ldc2 (v := 13611) C (List.mem_of_getElem? (i := 25) rfl) dL_texts_281 ?_
  refine jw_lconst C dL_texts_284 (v := 0) rfl ?_
  refine jw_callF (As := [.long 13611, .long 0]) (rest := []) C exC (exW G.2.2.2.2.1) (cf25 l) miL_faultOf gL_texts_L_faultOf rfl rfl ⟨Nat.le_of_ble_eq_true rfl, Nat.le_of_ble_eq_true rfl⟩ rfl rfl (by decide) dL_texts_285 ⟨Nat.le_of_ble_eq_true rfl, Nat.le_of_ble_eq_true rfl⟩ (fun v hv => ?_)
  subst hv
  refine jw_iconst (v := 2) C dL_texts_288 (by decide) ?_
  refine jw_icmp_ne C 302 dL_texts_289 (by decide) (fun c => absurd (by decide) c) (fun _ => ?_)
  refine jw_ldc2 (v := 758328113) C (List.mem_of_getElem? (i := 26) rfl) dL_texts_292 ?_
  refine jw_lconst C dL_texts_295 (v := 0) rfl ?_
  refine jw_callF (As := [.long 758328113, .long 0]) (rest := []) C exC (exW G.2.2.2.2.1) (cf26 l) miL_faultOf gL_texts_L_faultOf rfl rfl ⟨Nat.le_of_ble_eq_true rfl, Nat.le_of_ble_eq_true rfl⟩ rfl rfl (by decide) dL_texts_296 ⟨Nat.le_of_ble_eq_true rfl, Nat.le_of_ble_eq_true rfl⟩ (fun v hv => ?_)
  subst hv
  refine jw_if_eq C 304 dL_texts_299 (by decide) (fun _ => ?_) (fun c => absurd (by decide) c)
  refine jw_mkX (rest := []) C G.2.2.2.2.1 (List.mem_of_getElem? (i := 27) rfl) (List.mem_of_getElem? (i := 28) rfl) (List.mem_of_getElem? (i := 29) rfl) iwL_texts gL_texts_X5_init (List.mem_of_getElem? (i := 39) rfl) (List.mem_of_getElem? (i := 40) rfl) (Nat.le_of_ble_eq_true rfl) (Nat.le_of_ble_eq_true rfl) (Nat.le_of_ble_eq_true rfl) (Nat.le_of_ble_eq_true rfl) (by decide) dL_texts_304 rfl dL_texts_307 rfl dL_texts_308 (fun ad μ C hF _ => ?_)
  refine jw_astore_n (lw := [(0, .ref _)]) C dL_texts_311 rfl hN_0 rfl ?_
  refine jw_aload_n C dL_texts_312 rfl 0 rfl ?_
  refine jw_ldc2 (v := 3836276540626908459) C (List.mem_of_getElem? (i := 30) rfl) dL_texts_313 ?_
  refine jx_put C XT hF trivial F00_ok tx_E1 gL_texts_X5_put (Nat.le_of_ble_eq_true rfl) (Nat.le_of_ble_eq_true rfl) ⟨Nat.le_of_ble_eq_true rfl, Nat.le_of_ble_eq_true rfl⟩ (Nat.le_of_ble_eq_true rfl) dL_texts_316 (fun μ hF _ => ?_)
  refine jw_bipush (v := 8) C dL_texts_319 (by decide) ?_
  refine jw_icmp_ne C 439 dL_texts_321 (by decide) (fun c => absurd (by decide) c) (fun _ => ?_)
  refine jw_aload_n C dL_texts_324 rfl 0 rfl ?_
  refine jw_ldc2 (v := 3616455578881242667) C (List.mem_of_getElem? (i := 31) rfl) dL_texts_325 ?_
  refine jx_put C XT hF trivial tx_O1 tx_E2 gL_texts_X5_put (Nat.le_of_ble_eq_true rfl) (Nat.le_of_ble_eq_true rfl) ⟨Nat.le_of_ble_eq_true rfl, Nat.le_of_ble_eq_true rfl⟩ (Nat.le_of_ble_eq_true rfl) dL_texts_328 (fun μ hF _ => ?_)
  refine jw_bipush (v := 16) C dL_texts_331 (by decide) ?_
  refine jw_icmp_ne C 439 dL_texts_333 (by decide) (fun c => absurd (by decide) c) (fun _ => ?_)
  refine jw_aload_n C dL_texts_336 rfl 0 rfl ?_
  refine jw_ldc2 (v := 49) C (List.mem_of_getElem? (i := 32) rfl) dL_texts_337 ?_
  refine jx_put C XT hF trivial tx_O2 tx_E3 gL_texts_X5_put (Nat.le_of_ble_eq_true rfl) (Nat.le_of_ble_eq_true rfl) ⟨Nat.le_of_ble_eq_true rfl, Nat.le_of_ble_eq_true rfl⟩ (Nat.le_of_ble_eq_true rfl) dL_texts_340 (fun μ hF _ => ?_)
  refine jw_bipush (v := 17) C dL_texts_343 (by decide) ?_
  refine jw_icmp_ne C 439 dL_texts_345 (by decide) (fun c => absurd (by decide) c) (fun _ => ?_)
  exact tx_S5 hN G C hF
set_option maxRecDepth 100000 in
set_option maxHeartbeats 4000000 in
theorem tx_S3 {K : KT} {l : Launch} (hN : kN K = 2) (G : CtxF K l cL_texts RL wsL_texts rmL_texts EX5 (some .boolean) (fun v => v = some (.int (1 : Int32))) 2464 108472) (C : Ctx K l cL_texts RL wsL_texts rmL_texts [] (fun _ => 0)) : JW K (1584, 69732) [] (fun _ => 0) μ0 203 [] [] := by
  refine jw_ldc2 (v := 58468232276785) C (List.mem_of_getElem? (i := 18) rfl) dL_texts_203 ?_
  refine jw_lconst C dL_texts_206 (v := 0) rfl ?_
  refine jw_callF (As := [.long 58468232276785, .long 0]) (rest := []) C exC (exW G.2.2.2.2.1) (cf18 l) miL_faultOf gL_texts_L_faultOf rfl rfl ⟨Nat.le_of_ble_eq_true rfl, Nat.le_of_ble_eq_true rfl⟩ rfl rfl (by decide) dL_texts_207 ⟨Nat.le_of_ble_eq_true rfl, Nat.le_of_ble_eq_true rfl⟩ (fun v hv => ?_)
  subst hv
  refine jw_iconst (v := 3) C dL_texts_210 (by decide) ?_
  refine jw_icmp_ne C 302 dL_texts_211 (by decide) (fun c => absurd (by decide) c) (fun _ => ?_)
  refine jw_ldc2 (v := 892023160) C (List.mem_of_getElem? (i := 19) rfl) dL_texts_214 ?_
  refine jw_lconst C dL_texts_217 (v := 0) rfl ?_
  refine jw_callF (As := [.long 892023160, .long 0]) (rest := []) C exC (exW G.2.2.2.2.1) (cf19 l) miL_faultOf gL_texts_L_faultOf rfl rfl ⟨Nat.le_of_ble_eq_true rfl, Nat.le_of_ble_eq_true rfl⟩ rfl rfl (by decide) dL_texts_218 ⟨Nat.le_of_ble_eq_true rfl, Nat.le_of_ble_eq_true rfl⟩ (fun v hv => ?_)
  subst hv
  refine jw_iconst (v := 3) C dL_texts_221 (by decide) ?_
  refine jw_icmp_ne C 302 dL_texts_222 (by decide) (fun c => absurd (by decide) c) (fun _ => ?_)
  refine jw_ldc2 (v := 228391861553) C (List.mem_of_getElem? (i := 20) rfl) dL_texts_225 ?_
  refine jw_lconst C dL_texts_228 (v := 0) rfl ?_
  refine jw_callF (As := [.long 228391861553, .long 0]) (rest := []) C exC (exW G.2.2.2.2.1) (cf20 l) miL_faultOf gL_texts_L_faultOf rfl rfl ⟨Nat.le_of_ble_eq_true rfl, Nat.le_of_ble_eq_true rfl⟩ rfl rfl (by decide) dL_texts_229 ⟨Nat.le_of_ble_eq_true rfl, Nat.le_of_ble_eq_true rfl⟩ (fun v hv => ?_)
  subst hv
  refine jw_iconst (v := 3) C dL_texts_232 (by decide) ?_
  refine jw_icmp_ne C 302 dL_texts_233 (by decide) (fun c => absurd (by decide) c) (fun _ => ?_)
  refine jw_ldc2 (v := 3161392) C (List.mem_of_getElem? (i := 21) rfl) dL_texts_236 ?_
  refine jw_lconst C dL_texts_239 (v := 0) rfl ?_
  refine jw_callF (As := [.long 3161392, .long 0]) (rest := []) C exC (exW G.2.2.2.2.1) (cf21 l) miL_faultOf gL_texts_L_faultOf rfl rfl ⟨Nat.le_of_ble_eq_true rfl, Nat.le_of_ble_eq_true rfl⟩ rfl rfl (by decide) dL_texts_240 ⟨Nat.le_of_ble_eq_true rfl, Nat.le_of_ble_eq_true rfl⟩ (fun v hv => ?_)
  subst hv
  refine jw_bipush (v := (-6)) C dL_texts_243 (by decide) ?_
  refine jw_icmp_ne C 302 dL_texts_245 (by decide) (fun c => absurd (by decide) c) (fun _ => ?_)
  refine jw_ldc2 (v := 14985455421847611) C (List.mem_of_getElem? (i := 22) rfl) dL_texts_248 ?_
  refine jw_lconst C dL_texts_251 (v := 0) rfl ?_
  refine jw_callF (As := [.long 14985455421847611, .long 0]) (rest := []) C exC (exW G.2.2.2.2.1) (cf22 l) miL_faultOf gL_texts_L_faultOf rfl rfl ⟨Nat.le_of_ble_eq_true rfl, Nat.le_of_ble_eq_true rfl⟩ rfl rfl (by decide) dL_texts_252 ⟨Nat.le_of_ble_eq_true rfl, Nat.le_of_ble_eq_true rfl⟩ (fun v hv => ?_)
  subst hv
  refine jw_bipush (v := 7) C dL_texts_255 (by decide) ?_
  refine jw_icmp_ne C 302 dL_texts_257 (by decide) (fun c => absurd (by decide) c) (fun _ => ?_)
  refine jw_ldc2 (v := 120) C (List.mem_of_getElem? (i := 23) rfl) dL_texts_260 ?_
  refine jw_lconst C dL_texts_263 (v := 0) rfl ?_
  refine jw_callF (As := [.long 120, .long 0]) (rest := []) C exC (exW G.2.2.2.2.1) (cf23 l) miL_faultOf gL_texts_L_faultOf rfl rfl ⟨Nat.le_of_ble_eq_true rfl, Nat.le_of_ble_eq_true rfl⟩ rfl rfl (by decide) dL_texts_264 ⟨Nat.le_of_ble_eq_true rfl, Nat.le_of_ble_eq_true rfl⟩ (fun v hv => ?_)
  subst hv
  refine jw_if_ne C 302 dL_texts_267 (by decide) (fun c => absurd (by decide) c) (fun _ => ?_)
  exact tx_S4 hN G C
set_option maxRecDepth 100000 in
set_option maxHeartbeats 4000000 in
theorem tx_S2 {K : KT} {l : Launch} (hN : kN K = 2) (G : CtxF K l cL_texts RL wsL_texts rmL_texts EX5 (some .boolean) (fun v => v = some (.int (1 : Int32))) 2464 108472) (C : Ctx K l cL_texts RL wsL_texts rmL_texts [] (fun _ => 0)) : JW K (1056, 46488) [] (fun _ => 0) μ0 134 [] [] := by
  refine jw_ldc2 (v := 3290744) C (List.mem_of_getElem? (i := 12) rfl) dL_texts_134 ?_
  refine jw_lconst C dL_texts_137 (v := 0) rfl ?_
  refine jw_callF (As := [.long 3290744, .long 0]) (rest := []) C exC (exW G.2.2.2.2.1) (cf12 l) miL_faultOf gL_texts_L_faultOf rfl rfl ⟨Nat.le_of_ble_eq_true rfl, Nat.le_of_ble_eq_true rfl⟩ rfl rfl (by decide) dL_texts_138 ⟨Nat.le_of_ble_eq_true rfl, Nat.le_of_ble_eq_true rfl⟩ (fun v hv => ?_)
  subst hv
  refine jw_bipush (v := (-6)) C dL_texts_141 (by decide) ?_
  refine jw_icmp_ne C 201 dL_texts_143 (by decide) (fun c => absurd (by decide) c) (fun _ => ?_)
  refine jw_ldc2 (v := 13689) C (List.mem_of_getElem? (i := 13) rfl) dL_texts_146 ?_
  refine jw_lconst C dL_texts_149 (v := 0) rfl ?_
  refine jw_callF (As := [.long 13689, .long 0]) (rest := []) C exC (exW G.2.2.2.2.1) (cf13 l) miL_faultOf gL_texts_L_faultOf rfl rfl ⟨Nat.le_of_ble_eq_true rfl, Nat.le_of_ble_eq_true rfl⟩ rfl rfl (by decide) dL_texts_150 ⟨Nat.le_of_ble_eq_true rfl, Nat.le_of_ble_eq_true rfl⟩ (fun v hv => ?_)
  subst hv
  refine jw_iconst (v := 1) C dL_texts_153 (by decide) ?_
  refine jw_icmp_ne C 201 dL_texts_154 (by decide) (fun c => absurd (by decide) c) (fun _ => ?_)
  refine jw_ldc2 (v := 893202747) C (List.mem_of_getElem? (i := 14) rfl) dL_texts_157 ?_
  refine jw_lconst C dL_texts_160 (v := 0) rfl ?_
  refine jw_callF (As := [.long 893202747, .long 0]) (rest := []) C exC (exW G.2.2.2.2.1) (cf14 l) miL_faultOf gL_texts_L_faultOf rfl rfl ⟨Nat.le_of_ble_eq_true rfl, Nat.le_of_ble_eq_true rfl⟩ rfl rfl (by decide) dL_texts_161 ⟨Nat.le_of_ble_eq_true rfl, Nat.le_of_ble_eq_true rfl⟩ (fun v hv => ?_)
  subst hv
  refine jw_iconst (v := 4) C dL_texts_164 (by decide) ?_
  refine jw_icmp_ne C 201 dL_texts_165 (by decide) (fun c => absurd (by decide) c) (fun _ => ?_)
  refine jw_ldc2 (v := 228659903291) C (List.mem_of_getElem? (i := 15) rfl) dL_texts_168 ?_
  refine jw_lconst C dL_texts_171 (v := 0) rfl ?_
  refine jw_callF (As := [.long 228659903291, .long 0]) (rest := []) C exC (exW G.2.2.2.2.1) (cf15 l) miL_faultOf gL_texts_L_faultOf rfl rfl ⟨Nat.le_of_ble_eq_true rfl, Nat.le_of_ble_eq_true rfl⟩ rfl rfl (by decide) dL_texts_172 ⟨Nat.le_of_ble_eq_true rfl, Nat.le_of_ble_eq_true rfl⟩ (fun v hv => ?_)
  subst hv
  refine jw_iconst (v := 4) C dL_texts_175 (by decide) ?_
  refine jw_icmp_ne C 201 dL_texts_176 (by decide) (fun c => absurd (by decide) c) (fun _ => ?_)
  refine jw_ldc2 (v := 13613) C (List.mem_of_getElem? (i := 16) rfl) dL_texts_179 ?_
  refine jw_lconst C dL_texts_182 (v := 0) rfl ?_
  refine jw_callF (As := [.long 13613, .long 0]) (rest := []) C exC (exW G.2.2.2.2.1) (cf16 l) miL_faultOf gL_texts_L_faultOf rfl rfl ⟨Nat.le_of_ble_eq_true rfl, Nat.le_of_ble_eq_true rfl⟩ rfl rfl (by decide) dL_texts_183 ⟨Nat.le_of_ble_eq_true rfl, Nat.le_of_ble_eq_true rfl⟩ (fun v hv => ?_)
  subst hv
  refine jw_iconst (v := 2) C dL_texts_186 (by decide) ?_
  refine jw_icmp_ne C 201 dL_texts_187 (by decide) (fun c => absurd (by decide) c) (fun _ => ?_)
  refine jw_ldc2 (v := 3504177) C (List.mem_of_getElem? (i := 17) rfl) dL_texts_190 ?_
  refine jw_lconst C dL_texts_193 (v := 0) rfl ?_
  refine jw_callF (As := [.long 3504177, .long 0]) (rest := []) C exC (exW G.2.2.2.2.1) (cf17 l) miL_faultOf gL_texts_L_faultOf rfl rfl ⟨Nat.le_of_ble_eq_true rfl, Nat.le_of_ble_eq_true rfl⟩ rfl rfl (by decide) dL_texts_194 ⟨Nat.le_of_ble_eq_true rfl, Nat.le_of_ble_eq_true rfl⟩ (fun v hv => ?_)
  subst hv
  refine jw_iconst (v := 2) C dL_texts_197 (by decide) ?_
  refine jw_icmp_eq C 203 dL_texts_198 (by decide) (fun _ => ?_) (fun c => absurd (by decide) c)
  exact tx_S3 hN G C
set_option maxRecDepth 100000 in
set_option maxHeartbeats 4000000 in
theorem tx_S1 {K : KT} {l : Launch} (hN : kN K = 2) (G : CtxF K l cL_texts RL wsL_texts rmL_texts EX5 (some .boolean) (fun v => v = some (.int (1 : Int32))) 2464 108472) (C : Ctx K l cL_texts RL wsL_texts rmL_texts [] (fun _ => 0)) : JW K (528, 23244) [] (fun _ => 0) μ0 65 [] [] := by
  refine jw_ldc2 (v := 228391594801) C (List.mem_of_getElem? (i := 6) rfl) dL_texts_65 ?_
  refine jw_lconst C dL_texts_68 (v := 0) rfl ?_
  refine jw_callF (As := [.long 228391594801, .long 0]) (rest := []) C exC (exW G.2.2.2.2.1) (cf6 l) miL_faultOf gL_texts_L_faultOf rfl rfl ⟨Nat.le_of_ble_eq_true rfl, Nat.le_of_ble_eq_true rfl⟩ rfl rfl (by decide) dL_texts_69 ⟨Nat.le_of_ble_eq_true rfl, Nat.le_of_ble_eq_true rfl⟩ (fun v hv => ?_)
  subst hv
  refine jw_iconst (v := 3) C dL_texts_72 (by decide) ?_
  refine jw_icmp_ne C 132 dL_texts_73 (by decide) (fun c => absurd (by decide) c) (fun _ => ?_)
  refine jw_ldc2 (v := 3484979) C (List.mem_of_getElem? (i := 7) rfl) dL_texts_76 ?_
  refine jw_lconst C dL_texts_79 (v := 0) rfl ?_
  refine jw_callF (As := [.long 3484979, .long 0]) (rest := []) C exC (exW G.2.2.2.2.1) (cf7 l) miL_faultOf gL_texts_L_faultOf rfl rfl ⟨Nat.le_of_ble_eq_true rfl, Nat.le_of_ble_eq_true rfl⟩ rfl rfl (by decide) dL_texts_80 ⟨Nat.le_of_ble_eq_true rfl, Nat.le_of_ble_eq_true rfl⟩ (fun v hv => ?_)
  subst hv
  refine jw_iconst (v := 3) C dL_texts_83 (by decide) ?_
  refine jw_icmp_ne C 132 dL_texts_84 (by decide) (fun c => absurd (by decide) c) (fun _ => ?_)
  refine jw_ldc2 (v := 54091576322865) C (List.mem_of_getElem? (i := 8) rfl) dL_texts_87 ?_
  refine jw_lconst C dL_texts_90 (v := 0) rfl ?_
  refine jw_callF (As := [.long 54091576322865, .long 0]) (rest := []) C exC (exW G.2.2.2.2.1) (cf8 l) miL_faultOf gL_texts_L_faultOf rfl rfl ⟨Nat.le_of_ble_eq_true rfl, Nat.le_of_ble_eq_true rfl⟩ rfl rfl (by decide) dL_texts_91 ⟨Nat.le_of_ble_eq_true rfl, Nat.le_of_ble_eq_true rfl⟩ (fun v hv => ?_)
  subst hv
  refine jw_iconst (v := 4) C dL_texts_94 (by decide) ?_
  refine jw_icmp_ne C 132 dL_texts_95 (by decide) (fun c => absurd (by decide) c) (fun _ => ?_)
  refine jw_ldc2 (v := 825371953) C (List.mem_of_getElem? (i := 9) rfl) dL_texts_98 ?_
  refine jw_lconst C dL_texts_101 (v := 0) rfl ?_
  refine jw_callF (As := [.long 825371953, .long 0]) (rest := []) C exC (exW G.2.2.2.2.1) (cf9 l) miL_faultOf gL_texts_L_faultOf rfl rfl ⟨Nat.le_of_ble_eq_true rfl, Nat.le_of_ble_eq_true rfl⟩ rfl rfl (by decide) dL_texts_102 ⟨Nat.le_of_ble_eq_true rfl, Nat.le_of_ble_eq_true rfl⟩ (fun v hv => ?_)
  subst hv
  refine jw_iconst (v := 4) C dL_texts_105 (by decide) ?_
  refine jw_icmp_ne C 132 dL_texts_106 (by decide) (fun c => absurd (by decide) c) (fun _ => ?_)
  refine jw_ldc2 (v := 13847443538979633) C (List.mem_of_getElem? (i := 10) rfl) dL_texts_109 ?_
  refine jw_lconst C dL_texts_112 (v := 0) rfl ?_
  refine jw_callF (As := [.long 13847443538979633, .long 0]) (rest := []) C exC (exW G.2.2.2.2.1) (cf10 l) miL_faultOf gL_texts_L_faultOf rfl rfl ⟨Nat.le_of_ble_eq_true rfl, Nat.le_of_ble_eq_true rfl⟩ rfl rfl (by decide) dL_texts_113 ⟨Nat.le_of_ble_eq_true rfl, Nat.le_of_ble_eq_true rfl⟩ (fun v hv => ?_)
  subst hv
  refine jw_iconst (v := 5) C dL_texts_116 (by decide) ?_
  refine jw_icmp_ne C 132 dL_texts_117 (by decide) (fun c => absurd (by decide) c) (fun _ => ?_)
  refine jw_ldc2 (v := 13847443539110705) C (List.mem_of_getElem? (i := 11) rfl) dL_texts_120 ?_
  refine jw_lconst C dL_texts_123 (v := 0) rfl ?_
  refine jw_callF (As := [.long 13847443539110705, .long 0]) (rest := []) C exC (exW G.2.2.2.2.1) (cf11 l) miL_faultOf gL_texts_L_faultOf rfl rfl ⟨Nat.le_of_ble_eq_true rfl, Nat.le_of_ble_eq_true rfl⟩ rfl rfl (by decide) dL_texts_124 ⟨Nat.le_of_ble_eq_true rfl, Nat.le_of_ble_eq_true rfl⟩ (fun v hv => ?_)
  subst hv
  refine jw_bipush (v := (-6)) C dL_texts_127 (by decide) ?_
  refine jw_icmp_eq C 134 dL_texts_129 (by decide) (fun _ => ?_) (fun c => absurd (by decide) c)
  exact tx_S2 hN G C
set_option maxRecDepth 100000 in
set_option maxHeartbeats 4000000 in
theorem tx_S0 {K : KT} {l : Launch} (hN : kN K = 2) (G : CtxF K l cL_texts RL wsL_texts rmL_texts EX5 (some .boolean) (fun v => v = some (.int (1 : Int32))) 2464 108472) (C : Ctx K l cL_texts RL wsL_texts rmL_texts [] (fun _ => 0)) : JW K (0, 0) [] (fun _ => 0) μ0 0 [] [] := by
  refine jw_lconst C dL_texts_0 (v := 0) rfl ?_
  refine jw_lconst C dL_texts_1 (v := 0) rfl ?_
  refine jw_callF (As := [.long 0, .long 0]) (rest := []) C exC (exW G.2.2.2.2.1) (cf0 l) miL_faultOf gL_texts_L_faultOf rfl rfl ⟨Nat.le_of_ble_eq_true rfl, Nat.le_of_ble_eq_true rfl⟩ rfl rfl (by decide) dL_texts_2 ⟨Nat.le_of_ble_eq_true rfl, Nat.le_of_ble_eq_true rfl⟩ (fun v hv => ?_)
  subst hv
  refine jw_if_ne C 63 dL_texts_5 (by decide) (fun c => absurd (by decide) c) (fun _ => ?_)
  refine jw_ldc2 (v := 53) C (List.mem_of_getElem? (i := 1) rfl) dL_texts_8 ?_
  refine jw_lconst C dL_texts_11 (v := 0) rfl ?_
  refine jw_callF (As := [.long 53, .long 0]) (rest := []) C exC (exW G.2.2.2.2.1) (cf1 l) miL_faultOf gL_texts_L_faultOf rfl rfl ⟨Nat.le_of_ble_eq_true rfl, Nat.le_of_ble_eq_true rfl⟩ rfl rfl (by decide) dL_texts_12 ⟨Nat.le_of_ble_eq_true rfl, Nat.le_of_ble_eq_true rfl⟩ (fun v hv => ?_)
  subst hv
  refine jw_iconst (v := 1) C dL_texts_15 (by decide) ?_
  refine jw_icmp_ne C 63 dL_texts_16 (by decide) (fun c => absurd (by decide) c) (fun _ => ?_)
  refine jw_ldc2 (v := 842480945) C (List.mem_of_getElem? (i := 2) rfl) dL_texts_19 ?_
  refine jw_lconst C dL_texts_22 (v := 0) rfl ?_
  refine jw_callF (As := [.long 842480945, .long 0]) (rest := []) C exC (exW G.2.2.2.2.1) (cf2 l) miL_faultOf gL_texts_L_faultOf rfl rfl ⟨Nat.le_of_ble_eq_true rfl, Nat.le_of_ble_eq_true rfl⟩ rfl rfl (by decide) dL_texts_23 ⟨Nat.le_of_ble_eq_true rfl, Nat.le_of_ble_eq_true rfl⟩ (fun v hv => ?_)
  subst hv
  refine jw_iconst (v := 1) C dL_texts_26 (by decide) ?_
  refine jw_icmp_ne C 63 dL_texts_27 (by decide) (fun c => absurd (by decide) c) (fun _ => ?_)
  refine jw_ldc2 (v := 808795441) C (List.mem_of_getElem? (i := 3) rfl) dL_texts_30 ?_
  refine jw_lconst C dL_texts_33 (v := 0) rfl ?_
  refine jw_callF (As := [.long 808795441, .long 0]) (rest := []) C exC (exW G.2.2.2.2.1) (cf3 l) miL_faultOf gL_texts_L_faultOf rfl rfl ⟨Nat.le_of_ble_eq_true rfl, Nat.le_of_ble_eq_true rfl⟩ rfl rfl (by decide) dL_texts_34 ⟨Nat.le_of_ble_eq_true rfl, Nat.le_of_ble_eq_true rfl⟩ (fun v hv => ?_)
  subst hv
  refine jw_iconst (v := 1) C dL_texts_37 (by decide) ?_
  refine jw_icmp_ne C 63 dL_texts_38 (by decide) (fun c => absurd (by decide) c) (fun _ => ?_)
  refine jw_ldc2 (v := 58536934518832) C (List.mem_of_getElem? (i := 4) rfl) dL_texts_41 ?_
  refine jw_lconst C dL_texts_44 (v := 0) rfl ?_
  refine jw_callF (As := [.long 58536934518832, .long 0]) (rest := []) C exC (exW G.2.2.2.2.1) (cf4 l) miL_faultOf gL_texts_L_faultOf rfl rfl ⟨Nat.le_of_ble_eq_true rfl, Nat.le_of_ble_eq_true rfl⟩ rfl rfl (by decide) dL_texts_45 ⟨Nat.le_of_ble_eq_true rfl, Nat.le_of_ble_eq_true rfl⟩ (fun v hv => ?_)
  subst hv
  refine jw_iconst (v := 5) C dL_texts_48 (by decide) ?_
  refine jw_icmp_ne C 63 dL_texts_49 (by decide) (fun c => absurd (by decide) c) (fun _ => ?_)
  refine jw_ldc2 (v := 893202481) C (List.mem_of_getElem? (i := 5) rfl) dL_texts_52 ?_
  refine jw_lconst C dL_texts_55 (v := 0) rfl ?_
  refine jw_callF (As := [.long 893202481, .long 0]) (rest := []) C exC (exW G.2.2.2.2.1) (cf5 l) miL_faultOf gL_texts_L_faultOf rfl rfl ⟨Nat.le_of_ble_eq_true rfl, Nat.le_of_ble_eq_true rfl⟩ rfl rfl (by decide) dL_texts_56 ⟨Nat.le_of_ble_eq_true rfl, Nat.le_of_ble_eq_true rfl⟩ (fun v hv => ?_)
  subst hv
  refine jw_iconst (v := 3) C dL_texts_59 (by decide) ?_
  refine jw_icmp_eq C 65 dL_texts_60 (by decide) (fun _ => ?_) (fun c => absurd (by decide) c)
  exact tx_S1 hN G C
theorem cn_texts (l : Launch) : ConF l yL_texts wsL_texts rmL_texts EX5 [] (fun v => v = some (.int (1 : Int32))) 2464 108472 := ConF.mk (cc := cL_texts) (maxL := 2) (ret := (some .boolean)) (own := RL) (by decide) rfl rfl (Nat.le_of_ble_eq_true rfl) (fun K hN G => tx_S0 hN G G.1)
