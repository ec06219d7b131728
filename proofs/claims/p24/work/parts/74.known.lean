/-! known -/
set_option maxRecDepth 100000 in
set_option maxHeartbeats 4000000 in
theorem kn_S12 {K : KT} {l : Launch} {ad : Nat → Nat} (hN : kN K = 1) (G : CtxF K l cL_known RL wsL_known rmL_known EX5 (some .boolean) (fun v => v = some (.int (1 : Int32))) 88 3874) (C : Ctx K l cL_known RL wsL_known rmL_known shX ad) {μ : Mem} (hF : RepF μ kn_F12) : JW K (88, 3874) shX ad μ 693 [(0, .ref (ad 0))] [] := by
  refine jw_aload_n C dL_known_693 rfl 0 rfl ?_
  refine jx_refused C XT hF trivial kn_O12 gL_known_L_refused (Nat.le_of_ble_eq_true rfl) (Nat.le_of_ble_eq_true rfl) ⟨Nat.le_of_ble_eq_true rfl, Nat.le_of_ble_eq_true rfl⟩ (Nat.le_of_ble_eq_true rfl) dL_known_694 (fun μ hF _ => ?_)
  refine jw_if_eq C 751 dL_known_697 (by decide) (fun c => absurd c (by decide)) (fun _ => ?_)
  refine jw_aload_n C dL_known_700 rfl 0 rfl ?_
  refine jw_bipush (v := 7) C dL_known_701 (by decide) ?_
  refine jx_count C XT hF trivial kn_O12 kn_v50 gL_known_X5_count (Nat.le_of_ble_eq_true rfl) (Nat.le_of_ble_eq_true rfl) ⟨Nat.le_of_ble_eq_true rfl, Nat.le_of_ble_eq_true rfl⟩ (Nat.le_of_ble_eq_true rfl) dL_known_703 (fun μ hF _ => ?_)
  refine jw_bipush (v := 6) C dL_known_706 (by decide) ?_
  refine jw_icmp_ne C 751 dL_known_708 (by decide) (fun c => absurd (by decide) c) (fun _ => ?_)
  refine jw_aload_n C dL_known_711 rfl 0 rfl ?_
  refine jx_undo C XT hF trivial kn_O12 kn_E13 gL_known_X5_undo (Nat.le_of_ble_eq_true rfl) (Nat.le_of_ble_eq_true rfl) ⟨Nat.le_of_ble_eq_true rfl, Nat.le_of_ble_eq_true rfl⟩ (Nat.le_of_ble_eq_true rfl) dL_known_712 (fun μ hF _ => ?_)
  refine jw_iconst (v := 5) C dL_known_715 (by decide) ?_
  refine jw_icmp_ne C 751 dL_known_716 (by decide) (fun c => absurd (by decide) c) (fun _ => ?_)
  refine jw_aload_n C dL_known_719 rfl 0 rfl ?_
  refine jw_iconst (v := 0) C dL_known_720 (by decide) ?_
  refine jx_count C XT hF trivial kn_O13 kn_v51 gL_known_X5_count (Nat.le_of_ble_eq_true rfl) (Nat.le_of_ble_eq_true rfl) ⟨Nat.le_of_ble_eq_true rfl, Nat.le_of_ble_eq_true rfl⟩ (Nat.le_of_ble_eq_true rfl) dL_known_721 (fun μ hF _ => ?_)
  refine jw_bipush (v := 8) C dL_known_724 (by decide) ?_
  refine jw_icmp_ne C 751 dL_known_726 (by decide) (fun c => absurd (by decide) c) (fun _ => ?_)
  refine jw_aload_n C dL_known_729 rfl 0 rfl ?_
  refine jx_undo C XT hF trivial kn_O13 kn_E14 gL_known_X5_undo (Nat.le_of_ble_eq_true rfl) (Nat.le_of_ble_eq_true rfl) ⟨Nat.le_of_ble_eq_true rfl, Nat.le_of_ble_eq_true rfl⟩ (Nat.le_of_ble_eq_true rfl) dL_known_730 (fun μ hF _ => ?_)
  refine jw_iconst (v := 4) C dL_known_733 (by decide) ?_
  refine jw_icmp_ne C 751 dL_known_734 (by decide) (fun c => absurd (by decide) c) (fun _ => ?_)
  refine jw_aload_n C dL_known_737 rfl 0 rfl ?_
  refine jw_iconst (v := 1) C dL_known_738 (by decide) ?_
  refine jw_iconst (v := 0) C dL_known_739 (by decide) ?_
  refine jx_node C XT hF trivial kn_O14 kn_v52 gL_known_X5_ofNode (Nat.le_of_ble_eq_true rfl) (Nat.le_of_ble_eq_true rfl) ⟨Nat.le_of_ble_eq_true rfl, Nat.le_of_ble_eq_true rfl⟩ (Nat.le_of_ble_eq_true rfl) dL_known_740 (fun μ hF _ => ?_)
  refine jw_iconst (v := 4) C dL_known_743 (by decide) ?_
  refine jw_icmp_ne C 751 dL_known_744 (by decide) (fun c => absurd (by decide) c) (fun _ => ?_)
  refine jw_iconst (v := 1) C dL_known_747 (by decide) ?_
  refine jw_goto (tgt := 752) C dL_known_748 (by decide) ?_
  exact jw_fret G rfl rfl (Nat.le_of_ble_eq_true rfl) (Nat.le_of_ble_eq_true rfl) dL_known_752
set_option maxRecDepth 100000 in
set_option maxHeartbeats 4000000 in
theorem kn_S11 {K : KT} {l : Launch} {ad : Nat → Nat} (hN : kN K = 1) (G : CtxF K l cL_known RL wsL_known rmL_known EX5 (some .boolean) (fun v => v = some (.int (1 : Int32))) 88 3874) (C : Ctx K l cL_known RL wsL_known rmL_known shX ad) {μ : Mem} (hF : RepF μ kn_F12) : JW K (88, 3874) shX ad μ 630 [(0, .ref (ad 0))] [] := by
  refine jw_aload_n C dL_known_630 rfl 0 rfl ?_
  refine jw_iconst (v := 3) C dL_known_631 (by decide) ?_
  refine jx_count C XT hF trivial kn_O12 kn_v45 gL_known_X5_count (Nat.le_of_ble_eq_true rfl) (Nat.le_of_ble_eq_true rfl) ⟨Nat.le_of_ble_eq_true rfl, Nat.le_of_ble_eq_true rfl⟩ (Nat.le_of_ble_eq_true rfl) dL_known_632 (fun μ hF _ => ?_)
  refine jw_iconst (v := 5) C dL_known_635 (by decide) ?_
  refine jw_icmp_ne C 691 dL_known_636 (by decide) (fun c => absurd (by decide) c) (fun _ => ?_)
  refine jw_aload_n C dL_known_639 rfl 0 rfl ?_
  refine jw_iconst (v := 5) C dL_known_640 (by decide) ?_
  refine jw_iconst (v := 0) C dL_known_641 (by decide) ?_
  refine jx_key C XT hF trivial kn_O12 kn_v46 gL_known_X5_ofKey (Nat.le_of_ble_eq_true rfl) (Nat.le_of_ble_eq_true rfl) ⟨Nat.le_of_ble_eq_true rfl, Nat.le_of_ble_eq_true rfl⟩ (Nat.le_of_ble_eq_true rfl) dL_known_642 (fun μ hF _ => ?_)
  refine jw_bipush (v := 9) C dL_known_645 (by decide) ?_
  refine jw_icmp_ne C 691 dL_known_647 (by decide) (fun c => absurd (by decide) c) (fun _ => ?_)
  refine jw_aload_n C dL_known_650 rfl 0 rfl ?_
  refine jw_iconst (v := 5) C dL_known_651 (by decide) ?_
  refine jw_iconst (v := 3) C dL_known_652 (by decide) ?_
  refine jx_key C XT hF trivial kn_O12 kn_v47 gL_known_X5_ofKey (Nat.le_of_ble_eq_true rfl) (Nat.le_of_ble_eq_true rfl) ⟨Nat.le_of_ble_eq_true rfl, Nat.le_of_ble_eq_true rfl⟩ (Nat.le_of_ble_eq_true rfl) dL_known_653 (fun μ hF _ => ?_)
  refine jw_bipush (v := (-6)) C dL_known_656 (by decide) ?_
  refine jw_icmp_ne C 691 dL_known_658 (by decide) (fun c => absurd (by decide) c) (fun _ => ?_)
  refine jw_aload_n C dL_known_661 rfl 0 rfl ?_
  refine jw_iconst (v := 4) C dL_known_662 (by decide) ?_
  refine jw_iconst (v := 0) C dL_known_663 (by decide) ?_
  refine jx_key C XT hF trivial kn_O12 kn_v48 gL_known_X5_ofKey (Nat.le_of_ble_eq_true rfl) (Nat.le_of_ble_eq_true rfl) ⟨Nat.le_of_ble_eq_true rfl, Nat.le_of_ble_eq_true rfl⟩ (Nat.le_of_ble_eq_true rfl) dL_known_664 (fun μ hF _ => ?_)
  refine jw_bipush (v := (-6)) C dL_known_667 (by decide) ?_
  refine jw_icmp_ne C 691 dL_known_669 (by decide) (fun c => absurd (by decide) c) (fun _ => ?_)
  refine jw_aload_n C dL_known_672 rfl 0 rfl ?_
  refine jx_toE C XT hF trivial kn_O12 kn_v49 gL_known_X5_toEmptyAll (Nat.le_of_ble_eq_true rfl) (Nat.le_of_ble_eq_true rfl) ⟨Nat.le_of_ble_eq_true rfl, Nat.le_of_ble_eq_true rfl⟩ (Nat.le_of_ble_eq_true rfl) dL_known_673 (fun μ hF _ => ?_)
  refine jw_bipush (v := 36) C dL_known_676 (by decide) ?_
  refine jw_icmp_ne C 691 dL_known_678 (by decide) (fun c => absurd (by decide) c) (fun _ => ?_)
  refine jw_aload_n C dL_known_681 rfl 0 rfl ?_
  refine jw_iconst (v := 2) C dL_known_682 (by decide) ?_
  refine jx_count C XT hF trivial kn_O12 kn_v44 gL_known_X5_count (Nat.le_of_ble_eq_true rfl) (Nat.le_of_ble_eq_true rfl) ⟨Nat.le_of_ble_eq_true rfl, Nat.le_of_ble_eq_true rfl⟩ (Nat.le_of_ble_eq_true rfl) dL_known_683 (fun μ hF _ => ?_)
  refine jw_bipush (v := 15) C dL_known_686 (by decide) ?_
  refine jw_icmp_eq C 693 dL_known_688 (by decide) (fun _ => ?_) (fun c => absurd (by decide) c)
  exact kn_S12 hN G C hF
set_option maxRecDepth 100000 in
set_option maxHeartbeats 4000000 in
theorem kn_S10 {K : KT} {l : Launch} {ad : Nat → Nat} (hN : kN K = 1) (G : CtxF K l cL_known RL wsL_known rmL_known EX5 (some .boolean) (fun v => v = some (.int (1 : Int32))) 88 3874) (C : Ctx K l cL_known RL wsL_known rmL_known shX ad) {μ : Mem} (hF : RepF μ kn_F11) : JW K (88, 3874) shX ad μ 572 [(0, .ref (ad 0))] [] := by
  refine jw_aload_n C dL_known_572 rfl 0 rfl ?_
  refine jw_iconst (v := 2) C dL_known_573 (by decide) ?_
  refine jx_count C XT hF trivial kn_O11 kn_v40 gL_known_X5_count (Nat.le_of_ble_eq_true rfl) (Nat.le_of_ble_eq_true rfl) ⟨Nat.le_of_ble_eq_true rfl, Nat.le_of_ble_eq_true rfl⟩ (Nat.le_of_ble_eq_true rfl) dL_known_574 (fun μ hF _ => ?_)
  refine jw_bipush (v := 10) C dL_known_577 (by decide) ?_
  refine jw_icmp_ne C 691 dL_known_579 (by decide) (fun c => absurd (by decide) c) (fun _ => ?_)
  refine jw_aload_n C dL_known_582 rfl 0 rfl ?_
  refine jw_iconst (v := 5) C dL_known_583 (by decide) ?_
  refine jw_iconst (v := 0) C dL_known_584 (by decide) ?_
  refine jx_node C XT hF trivial kn_O11 kn_v41 gL_known_X5_ofNode (Nat.le_of_ble_eq_true rfl) (Nat.le_of_ble_eq_true rfl) ⟨Nat.le_of_ble_eq_true rfl, Nat.le_of_ble_eq_true rfl⟩ (Nat.le_of_ble_eq_true rfl) dL_known_585 (fun μ hF _ => ?_)
  refine jw_iconst (v := 3) C dL_known_588 (by decide) ?_
  refine jw_icmp_ne C 691 dL_known_589 (by decide) (fun c => absurd (by decide) c) (fun _ => ?_)
  refine jw_aload_n C dL_known_592 rfl 0 rfl ?_
  refine jw_iconst (v := 5) C dL_known_593 (by decide) ?_
  refine jx_heavy C XT hF trivial kn_O11 kn_v42 gL_known_X5_heaviest (Nat.le_of_ble_eq_true rfl) (Nat.le_of_ble_eq_true rfl) ⟨Nat.le_of_ble_eq_true rfl, Nat.le_of_ble_eq_true rfl⟩ (Nat.le_of_ble_eq_true rfl) dL_known_594 (fun μ hF _ => ?_)
  refine jw_iconst (v := 5) C dL_known_597 (by decide) ?_
  refine jw_icmp_ne C 691 dL_known_598 (by decide) (fun c => absurd (by decide) c) (fun _ => ?_)
  refine jw_aload_n C dL_known_601 rfl 0 rfl ?_
  refine jw_iconst (v := 1) C dL_known_602 (by decide) ?_
  refine jx_heavy C XT hF trivial kn_O11 kn_v43 gL_known_X5_heaviest (Nat.le_of_ble_eq_true rfl) (Nat.le_of_ble_eq_true rfl) ⟨Nat.le_of_ble_eq_true rfl, Nat.le_of_ble_eq_true rfl⟩ (Nat.le_of_ble_eq_true rfl) dL_known_603 (fun μ hF _ => ?_)
  refine jw_bipush (v := (-6)) C dL_known_606 (by decide) ?_
  refine jw_icmp_ne C 691 dL_known_608 (by decide) (fun c => absurd (by decide) c) (fun _ => ?_)
  refine jw_aload_n C dL_known_611 rfl 0 rfl ?_
  refine jw_iconst (v := 5) C dL_known_612 (by decide) ?_
  refine jx_empty C XT hF trivial kn_O11 kn_E12 gL_known_X5_empty (Nat.le_of_ble_eq_true rfl) (Nat.le_of_ble_eq_true rfl) ⟨Nat.le_of_ble_eq_true rfl, Nat.le_of_ble_eq_true rfl⟩ (Nat.le_of_ble_eq_true rfl) dL_known_613 (fun μ hF _ => ?_)
  have hF := kn_R12 hF
  refine jw_iconst (v := 5) C dL_known_616 (by decide) ?_
  refine jw_icmp_ne C 691 dL_known_617 (by decide) (fun c => absurd (by decide) c) (fun _ => ?_)
  refine jw_aload_n C dL_known_620 rfl 0 rfl ?_
  refine jw_iconst (v := 2) C dL_known_621 (by decide) ?_
  refine jx_count C XT hF trivial kn_O12 kn_v44 gL_known_X5_count (Nat.le_of_ble_eq_true rfl) (Nat.le_of_ble_eq_true rfl) ⟨Nat.le_of_ble_eq_true rfl, Nat.le_of_ble_eq_true rfl⟩ (Nat.le_of_ble_eq_true rfl) dL_known_622 (fun μ hF _ => ?_)
  refine jw_bipush (v := 15) C dL_known_625 (by decide) ?_
  refine jw_icmp_ne C 691 dL_known_627 (by decide) (fun c => absurd (by decide) c) (fun _ => ?_)
  exact kn_S11 hN G C hF
set_option maxRecDepth 100000 in
set_option maxHeartbeats 4000000 in
theorem kn_S9 {K : KT} {l : Launch} {ad : Nat → Nat} (hN : kN K = 1) (G : CtxF K l cL_known RL wsL_known rmL_known EX5 (some .boolean) (fun v => v = some (.int (1 : Int32))) 88 3874) (C : Ctx K l cL_known RL wsL_known rmL_known shX ad) {μ : Mem} (hF : RepF μ kn_F10) : JW K (88, 3874) shX ad μ 518 [(0, .ref (ad 0))] [] := by
  refine jw_aload_n C dL_known_518 rfl 0 rfl ?_
  refine jw_iconst (v := 0) C dL_known_519 (by decide) ?_
  refine jw_bipush (v := 26) C dL_known_520 (by decide) ?_
  refine jx_sum C XT hF trivial kn_O10 kn_v36 gL_known_X5_sum (Nat.le_of_ble_eq_true rfl) (Nat.le_of_ble_eq_true rfl) ⟨Nat.le_of_ble_eq_true rfl, Nat.le_of_ble_eq_true rfl⟩ (Nat.le_of_ble_eq_true rfl) dL_known_522 (fun μ hF _ => ?_)
  refine jw_bipush (v := 13) C dL_known_525 (by decide) ?_
  refine jw_icmp_ne C 539 dL_known_527 (by decide) (fun c => absurd (by decide) c) (fun _ => ?_)
  refine jw_aload_n C dL_known_530 rfl 0 rfl ?_
  refine jw_iconst (v := 5) C dL_known_531 (by decide) ?_
  refine jx_count C XT hF trivial kn_O10 kn_v37 gL_known_X5_count (Nat.le_of_ble_eq_true rfl) (Nat.le_of_ble_eq_true rfl) ⟨Nat.le_of_ble_eq_true rfl, Nat.le_of_ble_eq_true rfl⟩ (Nat.le_of_ble_eq_true rfl) dL_known_532 (fun μ hF _ => ?_)
  refine jw_iconst (v := 3) C dL_known_535 (by decide) ?_
  refine jw_icmp_eq C 541 dL_known_536 (by decide) (fun _ => ?_) (fun c => absurd (by decide) c)
  refine jw_aload_n C dL_known_541 rfl 0 rfl ?_
  refine jw_iconst (v := 1) C dL_known_542 (by decide) ?_
  refine jx_empty C XT hF trivial kn_O10 kn_E11 gL_known_X5_empty (Nat.le_of_ble_eq_true rfl) (Nat.le_of_ble_eq_true rfl) ⟨Nat.le_of_ble_eq_true rfl, Nat.le_of_ble_eq_true rfl⟩ (Nat.le_of_ble_eq_true rfl) dL_known_543 (fun μ hF _ => ?_)
  have hF := kn_R11 hF
  refine jw_bipush (v := 8) C dL_known_546 (by decide) ?_
  refine jw_icmp_ne C 691 dL_known_548 (by decide) (fun c => absurd (by decide) c) (fun _ => ?_)
  refine jw_aload_n C dL_known_551 rfl 0 rfl ?_
  refine jw_iconst (v := 1) C dL_known_552 (by decide) ?_
  refine jw_iconst (v := 3) C dL_known_553 (by decide) ?_
  refine jx_node C XT hF trivial kn_O11 kn_v38 gL_known_X5_ofNode (Nat.le_of_ble_eq_true rfl) (Nat.le_of_ble_eq_true rfl) ⟨Nat.le_of_ble_eq_true rfl, Nat.le_of_ble_eq_true rfl⟩ (Nat.le_of_ble_eq_true rfl) dL_known_554 (fun μ hF _ => ?_)
  refine jw_iconst (v := 3) C dL_known_557 (by decide) ?_
  refine jw_icmp_ne C 691 dL_known_558 (by decide) (fun c => absurd (by decide) c) (fun _ => ?_)
  refine jw_aload_n C dL_known_561 rfl 0 rfl ?_
  refine jw_iconst (v := 1) C dL_known_562 (by decide) ?_
  refine jw_iconst (v := 4) C dL_known_563 (by decide) ?_
  refine jx_node C XT hF trivial kn_O11 kn_v39 gL_known_X5_ofNode (Nat.le_of_ble_eq_true rfl) (Nat.le_of_ble_eq_true rfl) ⟨Nat.le_of_ble_eq_true rfl, Nat.le_of_ble_eq_true rfl⟩ (Nat.le_of_ble_eq_true rfl) dL_known_564 (fun μ hF _ => ?_)
  refine jw_bipush (v := 6) C dL_known_567 (by decide) ?_
  refine jw_icmp_ne C 691 dL_known_569 (by decide) (fun c => absurd (by decide) c) (fun _ => ?_)
  exact kn_S10 hN G C hF
set_option maxRecDepth 100000 in
set_option maxHeartbeats 4000000 in
theorem kn_S8 {K : KT} {l : Launch} {ad : Nat → Nat} (hN : kN K = 1) (G : CtxF K l cL_known RL wsL_known rmL_known EX5 (some .boolean) (fun v => v = some (.int (1 : Int32))) 88 3874) (C : Ctx K l cL_known RL wsL_known rmL_known shX ad) {μ : Mem} (hF : RepF μ kn_F10) : JW K (88, 3874) shX ad μ 461 [(0, .ref (ad 0))] [] := by
  refine jw_aload_n C dL_known_461 rfl 0 rfl ?_
  refine jw_iconst (v := 0) C dL_known_462 (by decide) ?_
  refine jx_heavy C XT hF trivial kn_O10 kn_v30 gL_known_X5_heaviest (Nat.le_of_ble_eq_true rfl) (Nat.le_of_ble_eq_true rfl) ⟨Nat.le_of_ble_eq_true rfl, Nat.le_of_ble_eq_true rfl⟩ (Nat.le_of_ble_eq_true rfl) dL_known_463 (fun μ hF _ => ?_)
  refine jw_iconst (v := 3) C dL_known_466 (by decide) ?_
  refine jw_icmp_ne C 539 dL_known_467 (by decide) (fun c => absurd (by decide) c) (fun _ => ?_)
  refine jw_aload_n C dL_known_470 rfl 0 rfl ?_
  refine jw_iconst (v := 1) C dL_known_471 (by decide) ?_
  refine jx_heavy C XT hF trivial kn_O10 kn_v31 gL_known_X5_heaviest (Nat.le_of_ble_eq_true rfl) (Nat.le_of_ble_eq_true rfl) ⟨Nat.le_of_ble_eq_true rfl, Nat.le_of_ble_eq_true rfl⟩ (Nat.le_of_ble_eq_true rfl) dL_known_472 (fun μ hF _ => ?_)
  refine jw_iconst (v := 5) C dL_known_475 (by decide) ?_
  refine jw_icmp_ne C 539 dL_known_476 (by decide) (fun c => absurd (by decide) c) (fun _ => ?_)
  refine jw_aload_n C dL_known_479 rfl 0 rfl ?_
  refine jw_iconst (v := 5) C dL_known_480 (by decide) ?_
  refine jx_would C XT hF trivial kn_O10 kn_v32 gL_known_X5_wouldSink (Nat.le_of_ble_eq_true rfl) (Nat.le_of_ble_eq_true rfl) ⟨Nat.le_of_ble_eq_true rfl, Nat.le_of_ble_eq_true rfl⟩ (Nat.le_of_ble_eq_true rfl) dL_known_481 (fun μ hF _ => ?_)
  refine jw_if_ne C 539 dL_known_484 (by decide) (fun c => absurd (by decide) c) (fun _ => ?_)
  refine jw_aload_n C dL_known_487 rfl 0 rfl ?_
  refine jw_iconst (v := 5) C dL_known_488 (by decide) ?_
  refine jw_iconst (v := 2) C dL_known_489 (by decide) ?_
  refine jx_key C XT hF trivial kn_O10 kn_v33 gL_known_X5_ofKey (Nat.le_of_ble_eq_true rfl) (Nat.le_of_ble_eq_true rfl) ⟨Nat.le_of_ble_eq_true rfl, Nat.le_of_ble_eq_true rfl⟩ (Nat.le_of_ble_eq_true rfl) dL_known_490 (fun μ hF _ => ?_)
  refine jw_iconst (v := 3) C dL_known_493 (by decide) ?_
  refine jw_icmp_ne C 539 dL_known_494 (by decide) (fun c => absurd (by decide) c) (fun _ => ?_)
  refine jw_aload_n C dL_known_497 rfl 0 rfl ?_
  refine jw_iconst (v := 5) C dL_known_498 (by decide) ?_
  refine jw_iconst (v := 3) C dL_known_499 (by decide) ?_
  refine jx_key C XT hF trivial kn_O10 kn_v34 gL_known_X5_ofKey (Nat.le_of_ble_eq_true rfl) (Nat.le_of_ble_eq_true rfl) ⟨Nat.le_of_ble_eq_true rfl, Nat.le_of_ble_eq_true rfl⟩ (Nat.le_of_ble_eq_true rfl) dL_known_500 (fun μ hF _ => ?_)
  refine jw_iconst (v := 1) C dL_known_503 (by decide) ?_
  refine jw_icmp_ne C 539 dL_known_504 (by decide) (fun c => absurd (by decide) c) (fun _ => ?_)
  refine jw_aload_n C dL_known_507 rfl 0 rfl ?_
  refine jw_iconst (v := 5) C dL_known_508 (by decide) ?_
  refine jw_iconst (v := 1) C dL_known_509 (by decide) ?_
  refine jx_key C XT hF trivial kn_O10 kn_v35 gL_known_X5_ofKey (Nat.le_of_ble_eq_true rfl) (Nat.le_of_ble_eq_true rfl) ⟨Nat.le_of_ble_eq_true rfl, Nat.le_of_ble_eq_true rfl⟩ (Nat.le_of_ble_eq_true rfl) dL_known_510 (fun μ hF _ => ?_)
  refine jw_bipush (v := 9) C dL_known_513 (by decide) ?_
  refine jw_icmp_ne C 539 dL_known_515 (by decide) (fun c => absurd (by decide) c) (fun _ => ?_)
  exact kn_S9 hN G C hF
set_option maxRecDepth 100000 in
set_option maxHeartbeats 4000000 in
theorem kn_S7 {K : KT} {l : Launch} {ad : Nat → Nat} (hN : kN K = 1) (G : CtxF K l cL_known RL wsL_known rmL_known EX5 (some .boolean) (fun v => v = some (.int (1 : Int32))) 88 3874) (C : Ctx K l cL_known RL wsL_known rmL_known shX ad) {μ : Mem} (hF : RepF μ kn_F10) : JW K (88, 3874) shX ad μ 408 [(0, .ref (ad 0))] [] := by
  refine jw_aload_n C dL_known_408 rfl 0 rfl ?_
  refine jw_iconst (v := 1) C dL_known_409 (by decide) ?_
  refine jw_iconst (v := 1) C dL_known_410 (by decide) ?_
  refine jw_iconst (v := 2) C dL_known_411 (by decide) ?_
  refine jx_stone C XT hF trivial kn_O10 kn_v25 gL_known_X5_stone (Nat.le_of_ble_eq_true rfl) (Nat.le_of_ble_eq_true rfl) ⟨Nat.le_of_ble_eq_true rfl, Nat.le_of_ble_eq_true rfl⟩ (Nat.le_of_ble_eq_true rfl) dL_known_412 (fun μ hF _ => ?_)
  refine jw_bipush (v := 8) C dL_known_415 (by decide) ?_
  refine jw_icmp_ne C 539 dL_known_417 (by decide) (fun c => absurd (by decide) c) (fun _ => ?_)
  refine jw_aload_n C dL_known_420 rfl 0 rfl ?_
  refine jw_iconst (v := 1) C dL_known_421 (by decide) ?_
  refine jw_iconst (v := 2) C dL_known_422 (by decide) ?_
  refine jw_iconst (v := 3) C dL_known_423 (by decide) ?_
  refine jx_stone C XT hF trivial kn_O10 kn_v26 gL_known_X5_stone (Nat.le_of_ble_eq_true rfl) (Nat.le_of_ble_eq_true rfl) ⟨Nat.le_of_ble_eq_true rfl, Nat.le_of_ble_eq_true rfl⟩ (Nat.le_of_ble_eq_true rfl) dL_known_424 (fun μ hF _ => ?_)
  refine jw_bipush (v := 9) C dL_known_427 (by decide) ?_
  refine jw_icmp_ne C 539 dL_known_429 (by decide) (fun c => absurd (by decide) c) (fun _ => ?_)
  refine jw_aload_n C dL_known_432 rfl 0 rfl ?_
  refine jw_iconst (v := 2) C dL_known_433 (by decide) ?_
  refine jx_count C XT hF trivial kn_O10 kn_v27 gL_known_X5_count (Nat.le_of_ble_eq_true rfl) (Nat.le_of_ble_eq_true rfl) ⟨Nat.le_of_ble_eq_true rfl, Nat.le_of_ble_eq_true rfl⟩ (Nat.le_of_ble_eq_true rfl) dL_known_434 (fun μ hF _ => ?_)
  refine jw_iconst (v := 4) C dL_known_437 (by decide) ?_
  refine jw_icmp_ne C 539 dL_known_438 (by decide) (fun c => absurd (by decide) c) (fun _ => ?_)
  refine jw_aload_n C dL_known_441 rfl 0 rfl ?_
  refine jw_iconst (v := 0) C dL_known_442 (by decide) ?_
  refine jw_iconst (v := 3) C dL_known_443 (by decide) ?_
  refine jx_node C XT hF trivial kn_O10 kn_v28 gL_known_X5_ofNode (Nat.le_of_ble_eq_true rfl) (Nat.le_of_ble_eq_true rfl) ⟨Nat.le_of_ble_eq_true rfl, Nat.le_of_ble_eq_true rfl⟩ (Nat.le_of_ble_eq_true rfl) dL_known_444 (fun μ hF _ => ?_)
  refine jw_iconst (v := 1) C dL_known_447 (by decide) ?_
  refine jw_icmp_ne C 539 dL_known_448 (by decide) (fun c => absurd (by decide) c) (fun _ => ?_)
  refine jw_aload_n C dL_known_451 rfl 0 rfl ?_
  refine jw_iconst (v := 0) C dL_known_452 (by decide) ?_
  refine jw_iconst (v := 4) C dL_known_453 (by decide) ?_
  refine jx_node C XT hF trivial kn_O10 kn_v29 gL_known_X5_ofNode (Nat.le_of_ble_eq_true rfl) (Nat.le_of_ble_eq_true rfl) ⟨Nat.le_of_ble_eq_true rfl, Nat.le_of_ble_eq_true rfl⟩ (Nat.le_of_ble_eq_true rfl) dL_known_454 (fun μ hF _ => ?_)
  refine jw_iconst (v := 4) C dL_known_457 (by decide) ?_
  refine jw_icmp_ne C 539 dL_known_458 (by decide) (fun c => absurd (by decide) c) (fun _ => ?_)
  exact kn_S8 hN G C hF
set_option maxRecDepth 100000 in
set_option maxHeartbeats 4000000 in
theorem kn_S6 {K : KT} {l : Launch} {ad : Nat → Nat} (hN : kN K = 1) (G : CtxF K l cL_known RL wsL_known rmL_known EX5 (some .boolean) (fun v => v = some (.int (1 : Int32))) 88 3874) (C : Ctx K l cL_known RL wsL_known rmL_known shX ad) {μ : Mem} (hF : RepF μ kn_F10) : JW K (88, 3874) shX ad μ 353 [(0, .ref (ad 0))] [] := by
  refine jw_aload_n C dL_known_353 rfl 0 rfl ?_
  refine jw_iconst (v := 0) C dL_known_354 (by decide) ?_
  refine jw_iconst (v := 0) C dL_known_355 (by decide) ?_
  refine jx_node C XT hF trivial kn_O10 kn_v20 gL_known_X5_ofNode (Nat.le_of_ble_eq_true rfl) (Nat.le_of_ble_eq_true rfl) ⟨Nat.le_of_ble_eq_true rfl, Nat.le_of_ble_eq_true rfl⟩ (Nat.le_of_ble_eq_true rfl) dL_known_356 (fun μ hF _ => ?_)
  refine jw_iconst (v := 2) C dL_known_359 (by decide) ?_
  refine jw_icmp_ne C 539 dL_known_360 (by decide) (fun c => absurd (by decide) c) (fun _ => ?_)
  refine jw_aload_n C dL_known_363 rfl 0 rfl ?_
  refine jw_iconst (v := 0) C dL_known_364 (by decide) ?_
  refine jw_iconst (v := 0) C dL_known_365 (by decide) ?_
  refine jw_iconst (v := 1) C dL_known_366 (by decide) ?_
  refine jx_stone C XT hF trivial kn_O10 kn_v21 gL_known_X5_stone (Nat.le_of_ble_eq_true rfl) (Nat.le_of_ble_eq_true rfl) ⟨Nat.le_of_ble_eq_true rfl, Nat.le_of_ble_eq_true rfl⟩ (Nat.le_of_ble_eq_true rfl) dL_known_367 (fun μ hF _ => ?_)
  refine jw_bipush (v := 9) C dL_known_370 (by decide) ?_
  refine jw_icmp_ne C 539 dL_known_372 (by decide) (fun c => absurd (by decide) c) (fun _ => ?_)
  refine jw_aload_n C dL_known_375 rfl 0 rfl ?_
  refine jw_iconst (v := 0) C dL_known_376 (by decide) ?_
  refine jw_iconst (v := 0) C dL_known_377 (by decide) ?_
  refine jw_iconst (v := 2) C dL_known_378 (by decide) ?_
  refine jx_stone C XT hF trivial kn_O10 kn_v22 gL_known_X5_stone (Nat.le_of_ble_eq_true rfl) (Nat.le_of_ble_eq_true rfl) ⟨Nat.le_of_ble_eq_true rfl, Nat.le_of_ble_eq_true rfl⟩ (Nat.le_of_ble_eq_true rfl) dL_known_379 (fun μ hF _ => ?_)
  refine jw_bipush (v := 26) C dL_known_382 (by decide) ?_
  refine jw_icmp_ne C 539 dL_known_384 (by decide) (fun c => absurd (by decide) c) (fun _ => ?_)
  refine jw_aload_n C dL_known_387 rfl 0 rfl ?_
  refine jw_iconst (v := 1) C dL_known_388 (by decide) ?_
  refine jw_iconst (v := 0) C dL_known_389 (by decide) ?_
  refine jx_node C XT hF trivial kn_O10 kn_v23 gL_known_X5_ofNode (Nat.le_of_ble_eq_true rfl) (Nat.le_of_ble_eq_true rfl) ⟨Nat.le_of_ble_eq_true rfl, Nat.le_of_ble_eq_true rfl⟩ (Nat.le_of_ble_eq_true rfl) dL_known_390 (fun μ hF _ => ?_)
  refine jw_iconst (v := 4) C dL_known_393 (by decide) ?_
  refine jw_icmp_ne C 539 dL_known_394 (by decide) (fun c => absurd (by decide) c) (fun _ => ?_)
  refine jw_aload_n C dL_known_397 rfl 0 rfl ?_
  refine jw_iconst (v := 1) C dL_known_398 (by decide) ?_
  refine jw_iconst (v := 0) C dL_known_399 (by decide) ?_
  refine jw_iconst (v := 0) C dL_known_400 (by decide) ?_
  refine jx_stone C XT hF trivial kn_O10 kn_v24 gL_known_X5_stone (Nat.le_of_ble_eq_true rfl) (Nat.le_of_ble_eq_true rfl) ⟨Nat.le_of_ble_eq_true rfl, Nat.le_of_ble_eq_true rfl⟩ (Nat.le_of_ble_eq_true rfl) dL_known_401 (fun μ hF _ => ?_)
  refine jw_iconst (v := 2) C dL_known_404 (by decide) ?_
  refine jw_icmp_ne C 539 dL_known_405 (by decide) (fun c => absurd (by decide) c) (fun _ => ?_)
  exact kn_S7 hN G C hF
set_option maxRecDepth 100000 in
set_option maxHeartbeats 4000000 in
theorem kn_S5 {K : KT} {l : Launch} {ad : Nat → Nat} (hN : kN K = 1) (G : CtxF K l cL_known RL wsL_known rmL_known EX5 (some .boolean) (fun v => v = some (.int (1 : Int32))) 88 3874) (C : Ctx K l cL_known RL wsL_known rmL_known shX ad) {μ : Mem} (hF : RepF μ kn_F8) : JW K (88, 3874) shX ad μ 294 [(0, .ref (ad 0))] [] := by
  refine jw_aload_n C dL_known_294 rfl 0 rfl ?_
  refine jw_iconst (v := 0) C dL_known_295 (by decide) ?_
  refine jw_bipush (v := 6) C dL_known_296 (by decide) ?_
  refine jw_bipush (v := 6) C dL_known_298 (by decide) ?_
  refine jw_iconst (v := 1) C dL_known_300 (by decide) ?_
  refine jx_send C XT hF trivial kn_O8 kn_E9 gL_known_X5_send (Nat.le_of_ble_eq_true rfl) (Nat.le_of_ble_eq_true rfl) ⟨Nat.le_of_ble_eq_true rfl, Nat.le_of_ble_eq_true rfl⟩ (Nat.le_of_ble_eq_true rfl) dL_known_301 (fun μ hF _ => ?_)
  have hF := kn_R9 hF
  refine jw_iconst (v := 4) C dL_known_304 (by decide) ?_
  refine jw_icmp_ne C 336 dL_known_305 (by decide) (fun c => absurd (by decide) c) (fun _ => ?_)
  refine jw_aload_n C dL_known_308 rfl 0 rfl ?_
  refine jw_iconst (v := 0) C dL_known_309 (by decide) ?_
  refine jw_iconst (v := 5) C dL_known_310 (by decide) ?_
  refine jx_node C XT hF trivial kn_O9 kn_v17 gL_known_X5_ofNode (Nat.le_of_ble_eq_true rfl) (Nat.le_of_ble_eq_true rfl) ⟨Nat.le_of_ble_eq_true rfl, Nat.le_of_ble_eq_true rfl⟩ (Nat.le_of_ble_eq_true rfl) dL_known_311 (fun μ hF _ => ?_)
  refine jw_iconst (v := 3) C dL_known_314 (by decide) ?_
  refine jw_icmp_ne C 336 dL_known_315 (by decide) (fun c => absurd (by decide) c) (fun _ => ?_)
  refine jw_aload_n C dL_known_318 rfl 0 rfl ?_
  refine jw_iconst (v := 2) C dL_known_319 (by decide) ?_
  refine jx_count C XT hF trivial kn_O9 kn_v18 gL_known_X5_count (Nat.le_of_ble_eq_true rfl) (Nat.le_of_ble_eq_true rfl) ⟨Nat.le_of_ble_eq_true rfl, Nat.le_of_ble_eq_true rfl⟩ (Nat.le_of_ble_eq_true rfl) dL_known_320 (fun μ hF _ => ?_)
  refine jw_if_ne C 336 dL_known_323 (by decide) (fun c => absurd (by decide) c) (fun _ => ?_)
  refine jw_aload_n C dL_known_326 rfl 0 rfl ?_
  refine jw_bipush (v := 20) C dL_known_327 (by decide) ?_
  refine jx_would C XT hF trivial kn_O9 kn_v19 gL_known_X5_wouldSink (Nat.le_of_ble_eq_true rfl) (Nat.le_of_ble_eq_true rfl) ⟨Nat.le_of_ble_eq_true rfl, Nat.le_of_ble_eq_true rfl⟩ (Nat.le_of_ble_eq_true rfl) dL_known_329 (fun μ hF _ => ?_)
  refine jw_iconst (v := 4) C dL_known_332 (by decide) ?_
  refine jw_icmp_eq C 338 dL_known_333 (by decide) (fun _ => ?_) (fun c => absurd (by decide) c)
  refine jw_aload_n C dL_known_338 rfl 0 rfl ?_
  refine jw_iconst (v := 0) C dL_known_339 (by decide) ?_
  refine jw_bipush (v := 20) C dL_known_340 (by decide) ?_
  refine jw_bipush (v := 20) C dL_known_342 (by decide) ?_
  refine jw_iconst (v := 3) C dL_known_344 (by decide) ?_
  refine jx_send C XT hF trivial kn_O9 kn_E10 gL_known_X5_send (Nat.le_of_ble_eq_true rfl) (Nat.le_of_ble_eq_true rfl) ⟨Nat.le_of_ble_eq_true rfl, Nat.le_of_ble_eq_true rfl⟩ (Nat.le_of_ble_eq_true rfl) dL_known_345 (fun μ hF _ => ?_)
  have hF := kn_R10 hF
  refine jw_bipush (v := 6) C dL_known_348 (by decide) ?_
  refine jw_icmp_ne C 539 dL_known_350 (by decide) (fun c => absurd (by decide) c) (fun _ => ?_)
  exact kn_S6 hN G C hF
set_option maxRecDepth 100000 in
set_option maxHeartbeats 4000000 in
theorem kn_S4 {K : KT} {l : Launch} {ad : Nat → Nat} (hN : kN K = 1) (G : CtxF K l cL_known RL wsL_known rmL_known EX5 (some .boolean) (fun v => v = some (.int (1 : Int32))) 88 3874) (C : Ctx K l cL_known RL wsL_known rmL_known shX ad) {μ : Mem} (hF : RepF μ kn_F5) : JW K (88, 3874) shX ad μ 236 [(0, .ref (ad 0))] [] := by
  refine jw_aload_n C dL_known_236 rfl 0 rfl ?_
  refine jw_iconst (v := 1) C dL_known_237 (by decide) ?_
  refine jw_iconst (v := 5) C dL_known_238 (by decide) ?_
  refine jw_iconst (v := 5) C dL_known_239 (by decide) ?_
  refine jw_bipush (v := 7) C dL_known_240 (by decide) ?_
  refine jx_send C XT hF trivial kn_O5 kn_E6 gL_known_X5_send (Nat.le_of_ble_eq_true rfl) (Nat.le_of_ble_eq_true rfl) ⟨Nat.le_of_ble_eq_true rfl, Nat.le_of_ble_eq_true rfl⟩ (Nat.le_of_ble_eq_true rfl) dL_known_242 (fun μ hF _ => ?_)
  have hF := kn_R6 hF
  refine jw_iconst (v := 1) C dL_known_245 (by decide) ?_
  refine jw_icmp_ne C 336 dL_known_246 (by decide) (fun c => absurd (by decide) c) (fun _ => ?_)
  refine jw_aload_n C dL_known_249 rfl 0 rfl ?_
  refine jw_iconst (v := 0) C dL_known_250 (by decide) ?_
  refine jw_iconst (v := 5) C dL_known_251 (by decide) ?_
  refine jx_node C XT hF trivial kn_O6 kn_v15 gL_known_X5_ofNode (Nat.le_of_ble_eq_true rfl) (Nat.le_of_ble_eq_true rfl) ⟨Nat.le_of_ble_eq_true rfl, Nat.le_of_ble_eq_true rfl⟩ (Nat.le_of_ble_eq_true rfl) dL_known_252 (fun μ hF _ => ?_)
  refine jw_iconst (v := 3) C dL_known_255 (by decide) ?_
  refine jw_icmp_ne C 336 dL_known_256 (by decide) (fun c => absurd (by decide) c) (fun _ => ?_)
  refine jw_aload_n C dL_known_259 rfl 0 rfl ?_
  refine jw_iconst (v := 1) C dL_known_260 (by decide) ?_
  refine jx_count C XT hF trivial kn_O6 kn_v16 gL_known_X5_count (Nat.le_of_ble_eq_true rfl) (Nat.le_of_ble_eq_true rfl) ⟨Nat.le_of_ble_eq_true rfl, Nat.le_of_ble_eq_true rfl⟩ (Nat.le_of_ble_eq_true rfl) dL_known_261 (fun μ hF _ => ?_)
  refine jw_iconst (v := 4) C dL_known_264 (by decide) ?_
  refine jw_icmp_ne C 336 dL_known_265 (by decide) (fun c => absurd (by decide) c) (fun _ => ?_)
  refine jw_aload_n C dL_known_268 rfl 0 rfl ?_
  refine jw_iconst (v := 1) C dL_known_269 (by decide) ?_
  refine jw_iconst (v := 0) C dL_known_270 (by decide) ?_
  refine jw_bipush (v := 26) C dL_known_271 (by decide) ?_
  refine jw_iconst (v := 1) C dL_known_273 (by decide) ?_
  refine jx_send C XT hF trivial kn_O6 kn_E7 gL_known_X5_send (Nat.le_of_ble_eq_true rfl) (Nat.le_of_ble_eq_true rfl) ⟨Nat.le_of_ble_eq_true rfl, Nat.le_of_ble_eq_true rfl⟩ (Nat.le_of_ble_eq_true rfl) dL_known_274 (fun μ hF _ => ?_)
  have hF := kn_R7 hF
  refine jw_iconst (v := 2) C dL_known_277 (by decide) ?_
  refine jw_icmp_ne C 336 dL_known_278 (by decide) (fun c => absurd (by decide) c) (fun _ => ?_)
  refine jw_aload_n C dL_known_281 rfl 0 rfl ?_
  refine jw_iconst (v := 0) C dL_known_282 (by decide) ?_
  refine jw_iconst (v := 5) C dL_known_283 (by decide) ?_
  refine jw_iconst (v := 5) C dL_known_284 (by decide) ?_
  refine jw_bipush (v := 9) C dL_known_285 (by decide) ?_
  refine jx_send C XT hF trivial kn_O7 kn_E8 gL_known_X5_send (Nat.le_of_ble_eq_true rfl) (Nat.le_of_ble_eq_true rfl) ⟨Nat.le_of_ble_eq_true rfl, Nat.le_of_ble_eq_true rfl⟩ (Nat.le_of_ble_eq_true rfl) dL_known_287 (fun μ hF _ => ?_)
  have hF := kn_R8 hF
  refine jw_iconst (v := 3) C dL_known_290 (by decide) ?_
  refine jw_icmp_ne C 336 dL_known_291 (by decide) (fun c => absurd (by decide) c) (fun _ => ?_)
  exact kn_S5 hN G C hF
set_option maxRecDepth 100000 in
set_option maxHeartbeats 4000000 in
theorem kn_S3 {K : KT} {l : Launch} {ad : Nat → Nat} (hN : kN K = 1) (G : CtxF K l cL_known RL wsL_known rmL_known EX5 (some .boolean) (fun v => v = some (.int (1 : Int32))) 88 3874) (C : Ctx K l cL_known RL wsL_known rmL_known shX ad) {μ : Mem} (hF : RepF μ kn_F3) : JW K (88, 3874) shX ad μ 178 [(0, .ref (ad 0))] [] := by
  refine jw_aload_n C dL_known_178 rfl 0 rfl ?_
  refine jw_bipush (v := 6) C dL_known_179 (by decide) ?_
  refine jw_iconst (v := 3) C dL_known_181 (by decide) ?_
  refine jx_key C XT hF trivial kn_O3 kn_v12 gL_known_X5_ofKey (Nat.le_of_ble_eq_true rfl) (Nat.le_of_ble_eq_true rfl) ⟨Nat.le_of_ble_eq_true rfl, Nat.le_of_ble_eq_true rfl⟩ (Nat.le_of_ble_eq_true rfl) dL_known_182 (fun μ hF _ => ?_)
  refine jw_bipush (v := (-6)) C dL_known_185 (by decide) ?_
  refine jw_icmp_ne C 200 dL_known_187 (by decide) (fun c => absurd (by decide) c) (fun _ => ?_)
  refine jw_aload_n C dL_known_190 rfl 0 rfl ?_
  refine jw_iconst (v := 5) C dL_known_191 (by decide) ?_
  refine jx_read C XT hF trivial kn_O3 kn_E4 gL_known_X5_read (Nat.le_of_ble_eq_true rfl) (Nat.le_of_ble_eq_true rfl) ⟨Nat.le_of_ble_eq_true rfl, Nat.le_of_ble_eq_true rfl⟩ (Nat.le_of_ble_eq_true rfl) dL_known_192 (fun μ hF _ => ?_)
  have hF := kn_R4 hF
  refine jw_bipush (v := 20) C dL_known_195 (by decide) ?_
  refine jw_icmp_eq C 202 dL_known_197 (by decide) (fun _ => ?_) (fun c => absurd (by decide) c)
  refine jw_aload_n C dL_known_202 rfl 0 rfl ?_
  refine jw_iconst (v := 2) C dL_known_203 (by decide) ?_
  refine jw_iconst (v := 5) C dL_known_204 (by decide) ?_
  refine jw_iconst (v := 5) C dL_known_205 (by decide) ?_
  refine jw_iconst (v := 0) C dL_known_206 (by decide) ?_
  refine jx_send C XT hF trivial kn_O4 kn_E5 gL_known_X5_send (Nat.le_of_ble_eq_true rfl) (Nat.le_of_ble_eq_true rfl) ⟨Nat.le_of_ble_eq_true rfl, Nat.le_of_ble_eq_true rfl⟩ (Nat.le_of_ble_eq_true rfl) dL_known_207 (fun μ hF _ => ?_)
  have hF := kn_R5 hF
  refine jw_iconst (v := 1) C dL_known_210 (by decide) ?_
  refine jw_icmp_ne C 336 dL_known_211 (by decide) (fun c => absurd (by decide) c) (fun _ => ?_)
  refine jw_aload_n C dL_known_214 rfl 0 rfl ?_
  refine jw_iconst (v := 0) C dL_known_215 (by decide) ?_
  refine jw_iconst (v := 0) C dL_known_216 (by decide) ?_
  refine jw_iconst (v := 0) C dL_known_217 (by decide) ?_
  refine jx_stone C XT hF trivial kn_O5 kn_v13 gL_known_X5_stone (Nat.le_of_ble_eq_true rfl) (Nat.le_of_ble_eq_true rfl) ⟨Nat.le_of_ble_eq_true rfl, Nat.le_of_ble_eq_true rfl⟩ (Nat.le_of_ble_eq_true rfl) dL_known_218 (fun μ hF _ => ?_)
  refine jw_iconst (v := 2) C dL_known_221 (by decide) ?_
  refine jw_icmp_ne C 336 dL_known_222 (by decide) (fun c => absurd (by decide) c) (fun _ => ?_)
  refine jw_aload_n C dL_known_225 rfl 0 rfl ?_
  refine jw_iconst (v := 5) C dL_known_226 (by decide) ?_
  refine jw_iconst (v := 1) C dL_known_227 (by decide) ?_
  refine jx_key C XT hF trivial kn_O5 kn_v14 gL_known_X5_ofKey (Nat.le_of_ble_eq_true rfl) (Nat.le_of_ble_eq_true rfl) ⟨Nat.le_of_ble_eq_true rfl, Nat.le_of_ble_eq_true rfl⟩ (Nat.le_of_ble_eq_true rfl) dL_known_228 (fun μ hF _ => ?_)
  refine jw_bipush (v := (-6)) C dL_known_231 (by decide) ?_
  refine jw_icmp_ne C 336 dL_known_233 (by decide) (fun c => absurd (by decide) c) (fun _ => ?_)
  exact kn_S4 hN G C hF
set_option maxRecDepth 100000 in
set_option maxHeartbeats 4000000 in
theorem kn_S2 {K : KT} {l : Launch} {ad : Nat → Nat} (hN : kN K = 1) (G : CtxF K l cL_known RL wsL_known rmL_known EX5 (some .boolean) (fun v => v = some (.int (1 : Int32))) 88 3874) (C : Ctx K l cL_known RL wsL_known rmL_known shX ad) {μ : Mem} (hF : RepF μ kn_F3) : JW K (88, 3874) shX ad μ 127 [(0, .ref (ad 0))] [] := by
  refine jw_aload_n C dL_known_127 rfl 0 rfl ?_
  refine jw_iconst (v := 0) C dL_known_128 (by decide) ?_
  refine jw_iconst (v := 5) C dL_known_129 (by decide) ?_
  refine jx_node C XT hF trivial kn_O3 kn_v7 gL_known_X5_ofNode (Nat.le_of_ble_eq_true rfl) (Nat.le_of_ble_eq_true rfl) ⟨Nat.le_of_ble_eq_true rfl, Nat.le_of_ble_eq_true rfl⟩ (Nat.le_of_ble_eq_true rfl) dL_known_130 (fun μ hF _ => ?_)
  refine jw_iconst (v := 1) C dL_known_133 (by decide) ?_
  refine jw_icmp_ne C 200 dL_known_134 (by decide) (fun c => absurd (by decide) c) (fun _ => ?_)
  refine jw_aload_n C dL_known_137 rfl 0 rfl ?_
  refine jw_iconst (v := 5) C dL_known_138 (by decide) ?_
  refine jw_iconst (v := 0) C dL_known_139 (by decide) ?_
  refine jx_key C XT hF trivial kn_O3 kn_v8 gL_known_X5_ofKey (Nat.le_of_ble_eq_true rfl) (Nat.le_of_ble_eq_true rfl) ⟨Nat.le_of_ble_eq_true rfl, Nat.le_of_ble_eq_true rfl⟩ (Nat.le_of_ble_eq_true rfl) dL_known_140 (fun μ hF _ => ?_)
  refine jw_bipush (v := (-6)) C dL_known_143 (by decide) ?_
  refine jw_icmp_ne C 200 dL_known_145 (by decide) (fun c => absurd (by decide) c) (fun _ => ?_)
  refine jw_aload_n C dL_known_148 rfl 0 rfl ?_
  refine jw_iconst (v := 5) C dL_known_149 (by decide) ?_
  refine jw_iconst (v := 1) C dL_known_150 (by decide) ?_
  refine jx_key C XT hF trivial kn_O3 kn_v9 gL_known_X5_ofKey (Nat.le_of_ble_eq_true rfl) (Nat.le_of_ble_eq_true rfl) ⟨Nat.le_of_ble_eq_true rfl, Nat.le_of_ble_eq_true rfl⟩ (Nat.le_of_ble_eq_true rfl) dL_known_151 (fun μ hF _ => ?_)
  refine jw_bipush (v := 20) C dL_known_154 (by decide) ?_
  refine jw_icmp_ne C 200 dL_known_156 (by decide) (fun c => absurd (by decide) c) (fun _ => ?_)
  refine jw_aload_n C dL_known_159 rfl 0 rfl ?_
  refine jw_iconst (v := 5) C dL_known_160 (by decide) ?_
  refine jw_iconst (v := 2) C dL_known_161 (by decide) ?_
  refine jx_key C XT hF trivial kn_O3 kn_v10 gL_known_X5_ofKey (Nat.le_of_ble_eq_true rfl) (Nat.le_of_ble_eq_true rfl) ⟨Nat.le_of_ble_eq_true rfl, Nat.le_of_ble_eq_true rfl⟩ (Nat.le_of_ble_eq_true rfl) dL_known_162 (fun μ hF _ => ?_)
  refine jw_iconst (v := 1) C dL_known_165 (by decide) ?_
  refine jw_icmp_ne C 200 dL_known_166 (by decide) (fun c => absurd (by decide) c) (fun _ => ?_)
  refine jw_aload_n C dL_known_169 rfl 0 rfl ?_
  refine jw_iconst (v := 5) C dL_known_170 (by decide) ?_
  refine jw_iconst (v := 3) C dL_known_171 (by decide) ?_
  refine jx_key C XT hF trivial kn_O3 kn_v11 gL_known_X5_ofKey (Nat.le_of_ble_eq_true rfl) (Nat.le_of_ble_eq_true rfl) ⟨Nat.le_of_ble_eq_true rfl, Nat.le_of_ble_eq_true rfl⟩ (Nat.le_of_ble_eq_true rfl) dL_known_172 (fun μ hF _ => ?_)
  refine jw_if_ne C 200 dL_known_175 (by decide) (fun c => absurd (by decide) c) (fun _ => ?_)
  exact kn_S3 hN G C hF
set_option maxRecDepth 100000 in
set_option maxHeartbeats 4000000 in
theorem kn_S1 {K : KT} {l : Launch} {ad : Nat → Nat} (hN : kN K = 1) (G : CtxF K l cL_known RL wsL_known rmL_known EX5 (some .boolean) (fun v => v = some (.int (1 : Int32))) 88 3874) (C : Ctx K l cL_known RL wsL_known rmL_known shX ad) {μ : Mem} (hF : RepF μ kn_F1) : JW K (88, 3874) shX ad μ 66 [(0, .ref (ad 0))] [] := by
  refine jw_aload_n C dL_known_66 rfl 0 rfl ?_
  refine jw_iconst (v := 0) C dL_known_67 (by decide) ?_
  refine jx_restore C XT hF trivial kn_O1 kn_z4 gL_known_X5_restore (Nat.le_of_ble_eq_true rfl) (Nat.le_of_ble_eq_true rfl) ⟨Nat.le_of_ble_eq_true rfl, Nat.le_of_ble_eq_true rfl⟩ (Nat.le_of_ble_eq_true rfl) dL_known_68 (fun μ hF _ => ?_)
  refine jw_bipush (v := (-5)) C dL_known_71 (by decide) ?_
  refine jw_icmp_eq C 78 dL_known_73 (by decide) (fun _ => ?_) (fun c => absurd (by decide) c)
  refine jw_aload_n C dL_known_78 rfl 0 rfl ?_
  refine jw_iconst (v := 0) C dL_known_79 (by decide) ?_
  refine jw_iconst (v := 5) C dL_known_80 (by decide) ?_
  refine jw_iconst (v := 5) C dL_known_81 (by decide) ?_
  refine jw_bipush (v := 100) C dL_known_82 (by decide) ?_
  refine jx_send C XT hF trivial kn_O1 kn_E2 gL_known_X5_send (Nat.le_of_ble_eq_true rfl) (Nat.le_of_ble_eq_true rfl) ⟨Nat.le_of_ble_eq_true rfl, Nat.le_of_ble_eq_true rfl⟩ (Nat.le_of_ble_eq_true rfl) dL_known_84 (fun μ hF _ => ?_)
  have hF := kn_R2 hF
  refine jw_iconst (v := 1) C dL_known_87 (by decide) ?_
  refine jw_icmp_ne C 200 dL_known_88 (by decide) (fun c => absurd (by decide) c) (fun _ => ?_)
  refine jw_aload_n C dL_known_91 rfl 0 rfl ?_
  refine jw_iconst (v := 1) C dL_known_92 (by decide) ?_
  refine jw_iconst (v := 5) C dL_known_93 (by decide) ?_
  refine jw_iconst (v := 5) C dL_known_94 (by decide) ?_
  refine jw_sipush (v := 920) C dL_known_95 (by decide) ?_
  refine jx_send C XT hF trivial kn_O2 kn_E3 gL_known_X5_send (Nat.le_of_ble_eq_true rfl) (Nat.le_of_ble_eq_true rfl) ⟨Nat.le_of_ble_eq_true rfl, Nat.le_of_ble_eq_true rfl⟩ (Nat.le_of_ble_eq_true rfl) dL_known_98 (fun μ hF _ => ?_)
  have hF := kn_R3 hF
  refine jw_iconst (v := 1) C dL_known_101 (by decide) ?_
  refine jw_icmp_ne C 200 dL_known_102 (by decide) (fun c => absurd (by decide) c) (fun _ => ?_)
  refine jw_aload_n C dL_known_105 rfl 0 rfl ?_
  refine jw_iconst (v := 0) C dL_known_106 (by decide) ?_
  refine jw_iconst (v := 0) C dL_known_107 (by decide) ?_
  refine jw_iconst (v := 0) C dL_known_108 (by decide) ?_
  refine jx_stone C XT hF trivial kn_O3 kn_v5 gL_known_X5_stone (Nat.le_of_ble_eq_true rfl) (Nat.le_of_ble_eq_true rfl) ⟨Nat.le_of_ble_eq_true rfl, Nat.le_of_ble_eq_true rfl⟩ (Nat.le_of_ble_eq_true rfl) dL_known_109 (fun μ hF _ => ?_)
  refine jw_if_ne C 200 dL_known_112 (by decide) (fun c => absurd (by decide) c) (fun _ => ?_)
  refine jw_aload_n C dL_known_115 rfl 0 rfl ?_
  refine jw_iconst (v := 0) C dL_known_116 (by decide) ?_
  refine jw_iconst (v := 0) C dL_known_117 (by decide) ?_
  refine jw_iconst (v := 3) C dL_known_118 (by decide) ?_
  refine jx_stone C XT hF trivial kn_O3 kn_v6 gL_known_X5_stone (Nat.le_of_ble_eq_true rfl) (Nat.le_of_ble_eq_true rfl) ⟨Nat.le_of_ble_eq_true rfl, Nat.le_of_ble_eq_true rfl⟩ (Nat.le_of_ble_eq_true rfl) dL_known_119 (fun μ hF _ => ?_)
  refine jw_bipush (v := 20) C dL_known_122 (by decide) ?_
  refine jw_icmp_ne C 200 dL_known_124 (by decide) (fun c => absurd (by decide) c) (fun _ => ?_)
  exact kn_S2 hN G C hF
set_option maxRecDepth 100000 in
set_option maxHeartbeats 4000000 in
theorem kn_S0 {K : KT} {l : Launch} (hN : kN K = 1) (G : CtxF K l cL_known RL wsL_known rmL_known EX5 (some .boolean) (fun v => v = some (.int (1 : Int32))) 88 3874) (C : Ctx K l cL_known RL wsL_known rmL_known [] (fun _ => 0)) : JW K (0, 0) [] (fun _ => 0) μ0 0 [] [] := by
  have hN_0 : 0 < kN K := by rw [hN]; decide
  refine jw_mkX (rest := []) C G.2.2.2.2.1 (List.mem_of_getElem? (i := 1) rfl) (List.mem_of_getElem? (i := 2) rfl) (List.mem_of_getElem? (i := 3) rfl) iwL_known gL_known_X5_init (List.mem_of_getElem? (i := 4) rfl) (List.mem_of_getElem? (i := 5) rfl) (Nat.le_of_ble_eq_true rfl) (Nat.le_of_ble_eq_true rfl) (Nat.le_of_ble_eq_true rfl) (Nat.le_of_ble_eq_true rfl) (by decide) dL_known_0 rfl dL_known_3 rfl dL_known_4 (fun ad μ C hF _ => ?_)
  refine jw_astore_n (lw := [(0, .ref _)]) C dL_known_7 rfl hN_0 rfl ?_
  refine jw_aload_n C dL_known_8 rfl 0 rfl ?_
  refine jx_refused C XT hF trivial F00_ok gL_known_L_refused (Nat.le_of_ble_eq_true rfl) (Nat.le_of_ble_eq_true rfl) ⟨Nat.le_of_ble_eq_true rfl, Nat.le_of_ble_eq_true rfl⟩ (Nat.le_of_ble_eq_true rfl) dL_known_9 (fun μ hF _ => ?_)
  refine jw_if_eq C 76 dL_known_12 (by decide) (fun c => absurd c (by decide)) (fun _ => ?_)
  refine jw_aload_n C dL_known_15 rfl 0 rfl ?_
  refine jw_iconst (v := 0) C dL_known_16 (by decide) ?_
  refine jx_heavy C XT hF trivial F00_ok kn_v0 gL_known_X5_heaviest (Nat.le_of_ble_eq_true rfl) (Nat.le_of_ble_eq_true rfl) ⟨Nat.le_of_ble_eq_true rfl, Nat.le_of_ble_eq_true rfl⟩ (Nat.le_of_ble_eq_true rfl) dL_known_17 (fun μ hF _ => ?_)
  refine jw_bipush (v := (-6)) C dL_known_20 (by decide) ?_
  refine jw_icmp_ne C 76 dL_known_22 (by decide) (fun c => absurd (by decide) c) (fun _ => ?_)
  refine jw_aload_n C dL_known_25 rfl 0 rfl ?_
  refine jw_iconst (v := 5) C dL_known_26 (by decide) ?_
  refine jw_iconst (v := 0) C dL_known_27 (by decide) ?_
  refine jx_key C XT hF trivial F00_ok kn_v1 gL_known_X5_ofKey (Nat.le_of_ble_eq_true rfl) (Nat.le_of_ble_eq_true rfl) ⟨Nat.le_of_ble_eq_true rfl, Nat.le_of_ble_eq_true rfl⟩ (Nat.le_of_ble_eq_true rfl) dL_known_28 (fun μ hF _ => ?_)
  refine jw_bipush (v := (-6)) C dL_known_31 (by decide) ?_
  refine jw_icmp_ne C 76 dL_known_33 (by decide) (fun c => absurd (by decide) c) (fun _ => ?_)
  refine jw_aload_n C dL_known_36 rfl 0 rfl ?_
  refine jw_iconst (v := 5) C dL_known_37 (by decide) ?_
  refine jx_read C XT hF trivial F00_ok kn_E1 gL_known_X5_read (Nat.le_of_ble_eq_true rfl) (Nat.le_of_ble_eq_true rfl) ⟨Nat.le_of_ble_eq_true rfl, Nat.le_of_ble_eq_true rfl⟩ (Nat.le_of_ble_eq_true rfl) dL_known_38 (fun μ hF _ => ?_)
  have hF := kn_R1 hF
  refine jw_bipush (v := (-6)) C dL_known_41 (by decide) ?_
  refine jw_icmp_ne C 76 dL_known_43 (by decide) (fun c => absurd (by decide) c) (fun _ => ?_)
  refine jw_aload_n C dL_known_46 rfl 0 rfl ?_
  refine jw_iconst (v := 4) C dL_known_47 (by decide) ?_
  refine jx_count C XT hF trivial kn_O1 kn_v2 gL_known_X5_count (Nat.le_of_ble_eq_true rfl) (Nat.le_of_ble_eq_true rfl) ⟨Nat.le_of_ble_eq_true rfl, Nat.le_of_ble_eq_true rfl⟩ (Nat.le_of_ble_eq_true rfl) dL_known_48 (fun μ hF _ => ?_)
  refine jw_iconst (v := 3) C dL_known_51 (by decide) ?_
  refine jw_icmp_ne C 76 dL_known_52 (by decide) (fun c => absurd (by decide) c) (fun _ => ?_)
  refine jw_aload_n C dL_known_55 rfl 0 rfl ?_
  refine jw_iconst (v := 0) C dL_known_56 (by decide) ?_
  refine jw_bipush (v := 26) C dL_known_57 (by decide) ?_
  refine jx_same C XT hF trivial kn_O1 kn_v3 gL_known_X5_same (Nat.le_of_ble_eq_true rfl) (Nat.le_of_ble_eq_true rfl) ⟨Nat.le_of_ble_eq_true rfl, Nat.le_of_ble_eq_true rfl⟩ (Nat.le_of_ble_eq_true rfl) dL_known_59 (fun μ hF _ => ?_)
  refine jw_iconst (v := 1) C dL_known_62 (by decide) ?_
  refine jw_icmp_ne C 76 dL_known_63 (by decide) (fun c => absurd (by decide) c) (fun _ => ?_)
  exact kn_S1 hN G C hF
theorem cn_known (l : Launch) : ConF l yL_known wsL_known rmL_known EX5 [] (fun v => v = some (.int (1 : Int32))) 88 3874 := ConF.mk (cc := cL_known) (maxL := 1) (ret := (some .boolean)) (own := RL) (by decide) rfl rfl (Nat.le_of_ble_eq_true rfl) (fun K hN G => kn_S0 hN G G.1)
