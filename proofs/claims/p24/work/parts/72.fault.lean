/-! the law's methods that stand on fixed runs, by program -/
theorem exC : ∀ (a : Array Value) (U : State) (g : JFrame) (mk : MethodId), EX5 U → EX5 (U.calling g mk a) := fun a U g mk q => ⟨va_AO.moved (u := U) (U := U.calling g mk a) (Vm.Alike.refl U.vm) q.1, va_Nw.same rfl rfl q.2⟩
theorem exW {K : KT} (hE : EX5 (kS K)) : ∀ (H : Heap) (locs : List Loc), va_S (kA K) (kS K).heap H locs → ∀ U : State, U.heap = H → (kS K).WarmedH U.vm → EX5 U := fun _ _ _ _ _ hW => ⟨va_AO.moved hW.alike hE.1, va_Nw.warmM hW hE.2⟩
abbrev rmL_faultOf : Room := { frames := 40, cells := 88, slots := 3874, locals := 2000 }
abbrev rmL_texts : Room := { frames := 60, cells := 2464, slots := 108472, locals := 4000 }
abbrev rmL_known : Room := { frames := 60, cells := 88, slots := 3874, locals := 4000 }
abbrev rmL_pieces : Room := { frames := 60, cells := 88, slots := 3874, locals := 4000 }
theorem iwL_faultOf : ∀ w ∈ u_ws RX5 TX5 6, w ∈ wsL_faultOf := by decide +kernel
theorem miL_faultOf : MI yL_faultOf wsL_faultOf cL_faultOf 7 (some .int) 2 := ⟨⟨_, rfl⟩, by decide, by decide, by decide +kernel⟩
theorem iwL_texts : ∀ w ∈ u_ws RX5 TX5 6, w ∈ wsL_texts := by decide +kernel
theorem miL_texts : MI yL_texts wsL_texts cL_texts 2 (some .boolean) 0 := ⟨⟨_, rfl⟩, by decide, by decide, by decide +kernel⟩
theorem iwL_known : ∀ w ∈ u_ws RX5 TX5 6, w ∈ wsL_known := by decide +kernel
theorem miL_known : MI yL_known wsL_known cL_known 1 (some .boolean) 0 := ⟨⟨_, rfl⟩, by decide, by decide, by decide +kernel⟩
theorem iwL_pieces : ∀ w ∈ u_ws RX5 TX5 6, w ∈ wsL_pieces := by decide +kernel
theorem miL_pieces : MI yL_pieces wsL_pieces cL_pieces 1 (some .boolean) 0 := ⟨⟨_, rfl⟩, by decide, by decide, by decide +kernel⟩
set_option maxRecDepth 100000 in
set_option maxHeartbeats 4000000 in
theorem cf0_S0 {K : KT} {l : Launch} (hN : kN K = 7) (G : CtxF K l cL_faultOf RL wsL_faultOf rmL_faultOf EX5 (some .int) (fun v => v = some (.int (0 : Int32))) 88 3874) (C : Ctx K l cL_faultOf RL wsL_faultOf rmL_faultOf [] (fun _ => 0)) : JW K (0, 0) [] (fun _ => 0) μ0 0 [(0, .long (0 : Int64)), (2, .long (0 : Int64))] [] := by
  have hN_4 : 4 < kN K := by rw [hN]; decide
  have hN_5 : 5 < kN K := by rw [hN]; decide
  have hN_6 : 6 < kN K := by rw [hN]; decide
  refine jw_mkX (rest := []) C G.2.2.2.2.1 (List.mem_of_getElem? (i := 1) rfl) (List.mem_of_getElem? (i := 2) rfl) (List.mem_of_getElem? (i := 3) rfl) iwL_faultOf gL_faultOf_X5_init (List.mem_of_getElem? (i := 4) rfl) (List.mem_of_getElem? (i := 5) rfl) (Nat.le_of_ble_eq_true rfl) (Nat.le_of_ble_eq_true rfl) (Nat.le_of_ble_eq_true rfl) (Nat.le_of_ble_eq_true rfl) (by decide) dL_faultOf_0 rfl dL_faultOf_3 rfl dL_faultOf_4 (fun ad μ C hF _ => ?_)
  refine jw_astore (lw := [(4, .ref _), (0, .long _), (2, .long _)]) C dL_faultOf_7 hN_4 rfl ?_
  refine jw_lload_n C dL_faultOf_9 rfl 1 rfl ?_
  refine jw_lconst C dL_faultOf_10 (v := 0) rfl ?_
  refine jw_lcmp C dL_faultOf_11 ?_
  refine jw_if_eq C 24 dL_faultOf_12 (by decide) (fun _ => ?_) (fun c => absurd (by decide +kernel) c)
  refine jw_lload_n C dL_faultOf_24 rfl 2 rfl ?_
  refine jw_lconst C dL_faultOf_25 (v := 0) rfl ?_
  refine jw_lcmp C dL_faultOf_26 ?_
  refine jw_if_eq C 42 dL_faultOf_27 (by decide) (fun _ => ?_) (fun c => absurd (by decide +kernel) c)
  refine jw_aload C dL_faultOf_42 0 rfl ?_
  refine jx_fault C XT hF trivial F00_ok fa0_v0 gL_faultOf_X5_fault (Nat.le_of_ble_eq_true rfl) (Nat.le_of_ble_eq_true rfl) ⟨Nat.le_of_ble_eq_true rfl, Nat.le_of_ble_eq_true rfl⟩ (Nat.le_of_ble_eq_true rfl) dL_faultOf_44 (fun μ hF _ => ?_)
  refine jw_istore (lw := [(5, .int _), (4, .ref _), (0, .long _), (2, .long _)]) C dL_faultOf_47 hN_5 rfl ?_
  refine jw_aload C dL_faultOf_49 1 rfl ?_
  refine jw_bipush (v := 6) C dL_faultOf_51 (by decide) ?_
  refine jx_count C XT hF trivial F00_ok fa0_v1 gL_faultOf_X5_count (Nat.le_of_ble_eq_true rfl) (Nat.le_of_ble_eq_true rfl) ⟨Nat.le_of_ble_eq_true rfl, Nat.le_of_ble_eq_true rfl⟩ (Nat.le_of_ble_eq_true rfl) dL_faultOf_53 (fun μ hF _ => ?_)
  refine jw_istore (lw := [(6, .int _), (5, .int _), (4, .ref _), (0, .long _), (2, .long _)]) C dL_faultOf_56 hN_6 rfl ?_
  refine jw_iload C dL_faultOf_58 1 rfl ?_
  refine jw_bipush (v := (-6)) C dL_faultOf_60 (by decide) ?_
  refine jw_icmp_eq C 105 dL_faultOf_62 (by decide) (fun c => absurd c (by decide)) (fun _ => ?_)
  refine jw_aload C dL_faultOf_65 2 rfl ?_
  refine jx_carry C XT hF trivial F00_ok fa0_z2 gL_faultOf_X5_carryOut (Nat.le_of_ble_eq_true rfl) (Nat.le_of_ble_eq_true rfl) ⟨Nat.le_of_ble_eq_true rfl, Nat.le_of_ble_eq_true rfl⟩ (Nat.le_of_ble_eq_true rfl) dL_faultOf_67 (fun μ hF _ => ?_)
  refine jw_bipush (v := (-3)) C dL_faultOf_70 (by decide) ?_
  refine jw_icmp_ne C 102 dL_faultOf_72 (by decide) (fun c => absurd (by decide) c) (fun _ => ?_)
  refine jw_aload C dL_faultOf_75 2 rfl ?_
  refine jw_bipush (v := 6) C dL_faultOf_77 (by decide) ?_
  refine jx_count C XT hF trivial F00_ok fa0_v1 gL_faultOf_X5_count (Nat.le_of_ble_eq_true rfl) (Nat.le_of_ble_eq_true rfl) ⟨Nat.le_of_ble_eq_true rfl, Nat.le_of_ble_eq_true rfl⟩ (Nat.le_of_ble_eq_true rfl) dL_faultOf_79 (fun μ hF _ => ?_)
  refine jw_iload C dL_faultOf_82 0 rfl ?_
  refine jw_icmp_ne C 102 dL_faultOf_84 (by decide) (fun c => absurd (by decide) c) (fun _ => ?_)
  refine jw_aload C dL_faultOf_87 2 rfl ?_
  refine jw_bipush (v := 7) C dL_faultOf_89 (by decide) ?_
  refine jx_count C XT hF trivial F00_ok fa0_v3 gL_faultOf_X5_count (Nat.le_of_ble_eq_true rfl) (Nat.le_of_ble_eq_true rfl) ⟨Nat.le_of_ble_eq_true rfl, Nat.le_of_ble_eq_true rfl⟩ (Nat.le_of_ble_eq_true rfl) dL_faultOf_91 (fun μ hF _ => ?_)
  refine jw_if_ne C 102 dL_faultOf_94 (by decide) (fun c => absurd (by decide) c) (fun _ => ?_)
  refine jw_iload C dL_faultOf_97 1 rfl ?_
  refine jw_goto (tgt := 104) C dL_faultOf_99 (by decide) ?_
  exact jw_fret G rfl rfl (Nat.le_of_ble_eq_true rfl) (Nat.le_of_ble_eq_true rfl) dL_faultOf_104
theorem cf0 (l : Launch) : ConF l yL_faultOf wsL_faultOf rmL_faultOf EX5 [.long 0, .long 0] (fun v => v = some (.int (0 : Int32))) 88 3874 := ConF.mk (cc := cL_faultOf) (maxL := 7) (ret := (some .int)) (own := RL) (by decide) rfl rfl (Nat.le_of_ble_eq_true rfl) (fun K hN G => cf0_S0 hN G G.1)
set_option maxRecDepth 100000 in
set_option maxHeartbeats 4000000 in
theorem cf1_S0 {K : KT} {l : Launch} (hN : kN K = 7) (G : CtxF K l cL_faultOf RL wsL_faultOf rmL_faultOf EX5 (some .int) (fun v => v = some (.int (1 : Int32))) 88 3874) (C : Ctx K l cL_faultOf RL wsL_faultOf rmL_faultOf [] (fun _ => 0)) : JW K (0, 0) [] (fun _ => 0) μ0 0 [(0, .long (53 : Int64)), (2, .long (0 : Int64))] [] := by
  have hN_4 : 4 < kN K := by rw [hN]; decide
  have hN_5 : 5 < kN K := by rw [hN]; decide
  have hN_6 : 6 < kN K := by rw [hN]; decide
  refine jw_mkX (rest := []) C G.2.2.2.2.1 (List.mem_of_getElem? (i := 1) rfl) (List.mem_of_getElem? (i := 2) rfl) (List.mem_of_getElem? (i := 3) rfl) iwL_faultOf gL_faultOf_X5_init (List.mem_of_getElem? (i := 4) rfl) (List.mem_of_getElem? (i := 5) rfl) (Nat.le_of_ble_eq_true rfl) (Nat.le_of_ble_eq_true rfl) (Nat.le_of_ble_eq_true rfl) (Nat.le_of_ble_eq_true rfl) (by decide) dL_faultOf_0 rfl dL_faultOf_3 rfl dL_faultOf_4 (fun ad μ C hF _ => ?_)
  refine jw_astore (lw := [(4, .ref _), (0, .long _), (2, .long _)]) C dL_faultOf_7 hN_4 rfl ?_
  refine jw_lload_n C dL_faultOf_9 rfl 1 rfl ?_
  refine jw_lconst C dL_faultOf_10 (v := 0) rfl ?_
  refine jw_lcmp C dL_faultOf_11 ?_
  refine jw_if_eq C 24 dL_faultOf_12 (by decide) (fun c => absurd c (by decide +kernel)) (fun _ => ?_)
  refine jw_aload C dL_faultOf_15 0 rfl ?_
  refine jw_lload_n C dL_faultOf_17 rfl 1 rfl ?_
  refine jx_put C XT hF trivial F00_ok fa1_E1 gL_faultOf_X5_put (Nat.le_of_ble_eq_true rfl) (Nat.le_of_ble_eq_true rfl) ⟨Nat.le_of_ble_eq_true rfl, Nat.le_of_ble_eq_true rfl⟩ (Nat.le_of_ble_eq_true rfl) dL_faultOf_18 (fun μ hF _ => ?_)
  refine jw_if_lt C 39 dL_faultOf_21 (by decide) (fun c => absurd c (by decide)) (fun _ => ?_)
  refine jw_lload_n C dL_faultOf_24 rfl 2 rfl ?_
  refine jw_lconst C dL_faultOf_25 (v := 0) rfl ?_
  refine jw_lcmp C dL_faultOf_26 ?_
  refine jw_if_eq C 42 dL_faultOf_27 (by decide) (fun _ => ?_) (fun c => absurd (by decide +kernel) c)
  refine jw_aload C dL_faultOf_42 0 rfl ?_
  refine jx_fault C XT hF trivial fa1_O1 fa1_v0 gL_faultOf_X5_fault (Nat.le_of_ble_eq_true rfl) (Nat.le_of_ble_eq_true rfl) ⟨Nat.le_of_ble_eq_true rfl, Nat.le_of_ble_eq_true rfl⟩ (Nat.le_of_ble_eq_true rfl) dL_faultOf_44 (fun μ hF _ => ?_)
  refine jw_istore (lw := [(5, .int _), (4, .ref _), (0, .long _), (2, .long _)]) C dL_faultOf_47 hN_5 rfl ?_
  refine jw_aload C dL_faultOf_49 1 rfl ?_
  refine jw_bipush (v := 6) C dL_faultOf_51 (by decide) ?_
  refine jx_count C XT hF trivial fa1_O1 fa1_v1 gL_faultOf_X5_count (Nat.le_of_ble_eq_true rfl) (Nat.le_of_ble_eq_true rfl) ⟨Nat.le_of_ble_eq_true rfl, Nat.le_of_ble_eq_true rfl⟩ (Nat.le_of_ble_eq_true rfl) dL_faultOf_53 (fun μ hF _ => ?_)
  refine jw_istore (lw := [(6, .int _), (5, .int _), (4, .ref _), (0, .long _), (2, .long _)]) C dL_faultOf_56 hN_6 rfl ?_
  refine jw_iload C dL_faultOf_58 1 rfl ?_
  refine jw_bipush (v := (-6)) C dL_faultOf_60 (by decide) ?_
  refine jw_icmp_eq C 105 dL_faultOf_62 (by decide) (fun c => absurd c (by decide)) (fun _ => ?_)
  refine jw_aload C dL_faultOf_65 2 rfl ?_
  refine jx_carry C XT hF trivial fa1_O1 fa1_z2 gL_faultOf_X5_carryOut (Nat.le_of_ble_eq_true rfl) (Nat.le_of_ble_eq_true rfl) ⟨Nat.le_of_ble_eq_true rfl, Nat.le_of_ble_eq_true rfl⟩ (Nat.le_of_ble_eq_true rfl) dL_faultOf_67 (fun μ hF _ => ?_)
  refine jw_bipush (v := (-3)) C dL_faultOf_70 (by decide) ?_
  refine jw_icmp_ne C 102 dL_faultOf_72 (by decide) (fun c => absurd (by decide) c) (fun _ => ?_)
  refine jw_aload C dL_faultOf_75 2 rfl ?_
  refine jw_bipush (v := 6) C dL_faultOf_77 (by decide) ?_
  refine jx_count C XT hF trivial fa1_O1 fa1_v1 gL_faultOf_X5_count (Nat.le_of_ble_eq_true rfl) (Nat.le_of_ble_eq_true rfl) ⟨Nat.le_of_ble_eq_true rfl, Nat.le_of_ble_eq_true rfl⟩ (Nat.le_of_ble_eq_true rfl) dL_faultOf_79 (fun μ hF _ => ?_)
  refine jw_iload C dL_faultOf_82 0 rfl ?_
  refine jw_icmp_ne C 102 dL_faultOf_84 (by decide) (fun c => absurd (by decide) c) (fun _ => ?_)
  refine jw_aload C dL_faultOf_87 2 rfl ?_
  refine jw_bipush (v := 7) C dL_faultOf_89 (by decide) ?_
  refine jx_count C XT hF trivial fa1_O1 fa1_v3 gL_faultOf_X5_count (Nat.le_of_ble_eq_true rfl) (Nat.le_of_ble_eq_true rfl) ⟨Nat.le_of_ble_eq_true rfl, Nat.le_of_ble_eq_true rfl⟩ (Nat.le_of_ble_eq_true rfl) dL_faultOf_91 (fun μ hF _ => ?_)
  refine jw_if_ne C 102 dL_faultOf_94 (by decide) (fun c => absurd (by decide) c) (fun _ => ?_)
  refine jw_iload C dL_faultOf_97 1 rfl ?_
  refine jw_goto (tgt := 104) C dL_faultOf_99 (by decide) ?_
  exact jw_fret G rfl rfl (Nat.le_of_ble_eq_true rfl) (Nat.le_of_ble_eq_true rfl) dL_faultOf_104
theorem cf1 (l : Launch) : ConF l yL_faultOf wsL_faultOf rmL_faultOf EX5 [.long 53, .long 0] (fun v => v = some (.int (1 : Int32))) 88 3874 := ConF.mk (cc := cL_faultOf) (maxL := 7) (ret := (some .int)) (own := RL) (by decide) rfl rfl (Nat.le_of_ble_eq_true rfl) (fun K hN G => cf1_S0 hN G G.1)
set_option maxRecDepth 100000 in
set_option maxHeartbeats 4000000 in
theorem cf2_S0 {K : KT} {l : Launch} (hN : kN K = 7) (G : CtxF K l cL_faultOf RL wsL_faultOf rmL_faultOf EX5 (some .int) (fun v => v = some (.int (1 : Int32))) 88 3874) (C : Ctx K l cL_faultOf RL wsL_faultOf rmL_faultOf [] (fun _ => 0)) : JW K (0, 0) [] (fun _ => 0) μ0 0 [(0, .long (842480945 : Int64)), (2, .long (0 : Int64))] [] := by
  have hN_4 : 4 < kN K := by rw [hN]; decide
  have hN_5 : 5 < kN K := by rw [hN]; decide
  have hN_6 : 6 < kN K := by rw [hN]; decide
  refine jw_mkX (rest := []) C G.2.2.2.2.1 (List.mem_of_getElem? (i := 1) rfl) (List.mem_of_getElem? (i := 2) rfl) (List.mem_of_getElem? (i := 3) rfl) iwL_faultOf gL_faultOf_X5_init (List.mem_of_getElem? (i := 4) rfl) (List.mem_of_getElem? (i := 5) rfl) (Nat.le_of_ble_eq_true rfl) (Nat.le_of_ble_eq_true rfl) (Nat.le_of_ble_eq_true rfl) (Nat.le_of_ble_eq_true rfl) (by decide) dL_faultOf_0 rfl dL_faultOf_3 rfl dL_faultOf_4 (fun ad μ C hF _ => ?_)
  refine jw_astore (lw := [(4, .ref _), (0, .long _), (2, .long _)]) C dL_faultOf_7 hN_4 rfl ?_
  refine jw_lload_n C dL_faultOf_9 rfl 1 rfl ?_
  refine jw_lconst C dL_faultOf_10 (v := 0) rfl ?_
  refine jw_lcmp C dL_faultOf_11 ?_
  refine jw_if_eq C 24 dL_faultOf_12 (by decide) (fun c => absurd c (by decide +kernel)) (fun _ => ?_)
  refine jw_aload C dL_faultOf_15 0 rfl ?_
  refine jw_lload_n C dL_faultOf_17 rfl 1 rfl ?_
  refine jx_put C XT hF trivial F00_ok fa2_E1 gL_faultOf_X5_put (Nat.le_of_ble_eq_true rfl) (Nat.le_of_ble_eq_true rfl) ⟨Nat.le_of_ble_eq_true rfl, Nat.le_of_ble_eq_true rfl⟩ (Nat.le_of_ble_eq_true rfl) dL_faultOf_18 (fun μ hF _ => ?_)
  refine jw_if_lt C 39 dL_faultOf_21 (by decide) (fun c => absurd c (by decide)) (fun _ => ?_)
  refine jw_lload_n C dL_faultOf_24 rfl 2 rfl ?_
  refine jw_lconst C dL_faultOf_25 (v := 0) rfl ?_
  refine jw_lcmp C dL_faultOf_26 ?_
  refine jw_if_eq C 42 dL_faultOf_27 (by decide) (fun _ => ?_) (fun c => absurd (by decide +kernel) c)
  refine jw_aload C dL_faultOf_42 0 rfl ?_
  refine jx_fault C XT hF trivial fa2_O1 fa2_v0 gL_faultOf_X5_fault (Nat.le_of_ble_eq_true rfl) (Nat.le_of_ble_eq_true rfl) ⟨Nat.le_of_ble_eq_true rfl, Nat.le_of_ble_eq_true rfl⟩ (Nat.le_of_ble_eq_true rfl) dL_faultOf_44 (fun μ hF _ => ?_)
  refine jw_istore (lw := [(5, .int _), (4, .ref _), (0, .long _), (2, .long _)]) C dL_faultOf_47 hN_5 rfl ?_
  refine jw_aload C dL_faultOf_49 1 rfl ?_
  refine jw_bipush (v := 6) C dL_faultOf_51 (by decide) ?_
  refine jx_count C XT hF trivial fa2_O1 fa2_v1 gL_faultOf_X5_count (Nat.le_of_ble_eq_true rfl) (Nat.le_of_ble_eq_true rfl) ⟨Nat.le_of_ble_eq_true rfl, Nat.le_of_ble_eq_true rfl⟩ (Nat.le_of_ble_eq_true rfl) dL_faultOf_53 (fun μ hF _ => ?_)
  refine jw_istore (lw := [(6, .int _), (5, .int _), (4, .ref _), (0, .long _), (2, .long _)]) C dL_faultOf_56 hN_6 rfl ?_
  refine jw_iload C dL_faultOf_58 1 rfl ?_
  refine jw_bipush (v := (-6)) C dL_faultOf_60 (by decide) ?_
  refine jw_icmp_eq C 105 dL_faultOf_62 (by decide) (fun c => absurd c (by decide)) (fun _ => ?_)
  refine jw_aload C dL_faultOf_65 2 rfl ?_
  refine jx_carry C XT hF trivial fa2_O1 fa2_z2 gL_faultOf_X5_carryOut (Nat.le_of_ble_eq_true rfl) (Nat.le_of_ble_eq_true rfl) ⟨Nat.le_of_ble_eq_true rfl, Nat.le_of_ble_eq_true rfl⟩ (Nat.le_of_ble_eq_true rfl) dL_faultOf_67 (fun μ hF _ => ?_)
  refine jw_bipush (v := (-3)) C dL_faultOf_70 (by decide) ?_
  refine jw_icmp_ne C 102 dL_faultOf_72 (by decide) (fun c => absurd (by decide) c) (fun _ => ?_)
  refine jw_aload C dL_faultOf_75 2 rfl ?_
  refine jw_bipush (v := 6) C dL_faultOf_77 (by decide) ?_
  refine jx_count C XT hF trivial fa2_O1 fa2_v1 gL_faultOf_X5_count (Nat.le_of_ble_eq_true rfl) (Nat.le_of_ble_eq_true rfl) ⟨Nat.le_of_ble_eq_true rfl, Nat.le_of_ble_eq_true rfl⟩ (Nat.le_of_ble_eq_true rfl) dL_faultOf_79 (fun μ hF _ => ?_)
  refine jw_iload C dL_faultOf_82 0 rfl ?_
  refine jw_icmp_ne C 102 dL_faultOf_84 (by decide) (fun c => absurd (by decide) c) (fun _ => ?_)
  refine jw_aload C dL_faultOf_87 2 rfl ?_
  refine jw_bipush (v := 7) C dL_faultOf_89 (by decide) ?_
  refine jx_count C XT hF trivial fa2_O1 fa2_v3 gL_faultOf_X5_count (Nat.le_of_ble_eq_true rfl) (Nat.le_of_ble_eq_true rfl) ⟨Nat.le_of_ble_eq_true rfl, Nat.le_of_ble_eq_true rfl⟩ (Nat.le_of_ble_eq_true rfl) dL_faultOf_91 (fun μ hF _ => ?_)
  refine jw_if_ne C 102 dL_faultOf_94 (by decide) (fun c => absurd (by decide) c) (fun _ => ?_)
  refine jw_iload C dL_faultOf_97 1 rfl ?_
  refine jw_goto (tgt := 104) C dL_faultOf_99 (by decide) ?_
  exact jw_fret G rfl rfl (Nat.le_of_ble_eq_true rfl) (Nat.le_of_ble_eq_true rfl) dL_faultOf_104
theorem cf2 (l : Launch) : ConF l yL_faultOf wsL_faultOf rmL_faultOf EX5 [.long 842480945, .long 0] (fun v => v = some (.int (1 : Int32))) 88 3874 := ConF.mk (cc := cL_faultOf) (maxL := 7) (ret := (some .int)) (own := RL) (by decide) rfl rfl (Nat.le_of_ble_eq_true rfl) (fun K hN G => cf2_S0 hN G G.1)
set_option maxRecDepth 100000 in
set_option maxHeartbeats 4000000 in
theorem cf3_S0 {K : KT} {l : Launch} (hN : kN K = 7) (G : CtxF K l cL_faultOf RL wsL_faultOf rmL_faultOf EX5 (some .int) (fun v => v = some (.int (1 : Int32))) 88 3874) (C : Ctx K l cL_faultOf RL wsL_faultOf rmL_faultOf [] (fun _ => 0)) : JW K (0, 0) [] (fun _ => 0) μ0 0 [(0, .long (808795441 : Int64)), (2, .long (0 : Int64))] [] := by
  have hN_4 : 4 < kN K := by rw [hN]; decide
  have hN_5 : 5 < kN K := by rw [hN]; decide
  have hN_6 : 6 < kN K := by rw [hN]; decide
  refine jw_mkX (rest := []) C G.2.2.2.2.1 (List.mem_of_getElem? (i := 1) rfl) (List.mem_of_getElem? (i := 2) rfl) (List.mem_of_getElem? (i := 3) rfl) iwL_faultOf gL_faultOf_X5_init (List.mem_of_getElem? (i := 4) rfl) (List.mem_of_getElem? (i := 5) rfl) (Nat.le_of_ble_eq_true rfl) (Nat.le_of_ble_eq_true rfl) (Nat.le_of_ble_eq_true rfl) (Nat.le_of_ble_eq_true rfl) (by decide) dL_faultOf_0 rfl dL_faultOf_3 rfl dL_faultOf_4 (fun ad μ C hF _ => ?_)
  refine jw_astore (lw := [(4, .ref _), (0, .long _), (2, .long _)]) C dL_faultOf_7 hN_4 rfl ?_
  refine jw_lload_n C dL_faultOf_9 rfl 1 rfl ?_
  refine jw_lconst C dL_faultOf_10 (v := 0) rfl ?_
  refine jw_lcmp C dL_faultOf_11 ?_
  refine jw_if_eq C 24 dL_faultOf_12 (by decide) (fun c => absurd c (by decide +kernel)) (fun _ => ?_)
  refine jw_aload C dL_faultOf_15 0 rfl ?_
  refine jw_lload_n C dL_faultOf_17 rfl 1 rfl ?_
  refine jx_put C XT hF trivial F00_ok fa3_E1 gL_faultOf_X5_put (Nat.le_of_ble_eq_true rfl) (Nat.le_of_ble_eq_true rfl) ⟨Nat.le_of_ble_eq_true rfl, Nat.le_of_ble_eq_true rfl⟩ (Nat.le_of_ble_eq_true rfl) dL_faultOf_18 (fun μ hF _ => ?_)
  refine jw_if_lt C 39 dL_faultOf_21 (by decide) (fun c => absurd c (by decide)) (fun _ => ?_)
  refine jw_lload_n C dL_faultOf_24 rfl 2 rfl ?_
  refine jw_lconst C dL_faultOf_25 (v := 0) rfl ?_
  refine jw_lcmp C dL_faultOf_26 ?_
  refine jw_if_eq C 42 dL_faultOf_27 (by decide) (fun _ => ?_) (fun c => absurd (by decide +kernel) c)
  refine jw_aload C dL_faultOf_42 0 rfl ?_
  refine jx_fault C XT hF trivial fa3_O1 fa3_v0 gL_faultOf_X5_fault (Nat.le_of_ble_eq_true rfl) (Nat.le_of_ble_eq_true rfl) ⟨Nat.le_of_ble_eq_true rfl, Nat.le_of_ble_eq_true rfl⟩ (Nat.le_of_ble_eq_true rfl) dL_faultOf_44 (fun μ hF _ => ?_)
  refine jw_istore (lw := [(5, .int _), (4, .ref _), (0, .long _), (2, .long _)]) C dL_faultOf_47 hN_5 rfl ?_
  refine jw_aload C dL_faultOf_49 1 rfl ?_
  refine jw_bipush (v := 6) C dL_faultOf_51 (by decide) ?_
  refine jx_count C XT hF trivial fa3_O1 fa3_v1 gL_faultOf_X5_count (Nat.le_of_ble_eq_true rfl) (Nat.le_of_ble_eq_true rfl) ⟨Nat.le_of_ble_eq_true rfl, Nat.le_of_ble_eq_true rfl⟩ (Nat.le_of_ble_eq_true rfl) dL_faultOf_53 (fun μ hF _ => ?_)
  refine jw_istore (lw := [(6, .int _), (5, .int _), (4, .ref _), (0, .long _), (2, .long _)]) C dL_faultOf_56 hN_6 rfl ?_
  refine jw_iload C dL_faultOf_58 1 rfl ?_
  refine jw_bipush (v := (-6)) C dL_faultOf_60 (by decide) ?_
  refine jw_icmp_eq C 105 dL_faultOf_62 (by decide) (fun c => absurd c (by decide)) (fun _ => ?_)
  refine jw_aload C dL_faultOf_65 2 rfl ?_
  refine jx_carry C XT hF trivial fa3_O1 fa3_z2 gL_faultOf_X5_carryOut (Nat.le_of_ble_eq_true rfl) (Nat.le_of_ble_eq_true rfl) ⟨Nat.le_of_ble_eq_true rfl, Nat.le_of_ble_eq_true rfl⟩ (Nat.le_of_ble_eq_true rfl) dL_faultOf_67 (fun μ hF _ => ?_)
  refine jw_bipush (v := (-3)) C dL_faultOf_70 (by decide) ?_
  refine jw_icmp_ne C 102 dL_faultOf_72 (by decide) (fun c => absurd (by decide) c) (fun _ => ?_)
  refine jw_aload C dL_faultOf_75 2 rfl ?_
  refine jw_bipush (v := 6) C dL_faultOf_77 (by decide) ?_
  refine jx_count C XT hF trivial fa3_O1 fa3_v1 gL_faultOf_X5_count (Nat.le_of_ble_eq_true rfl) (Nat.le_of_ble_eq_true rfl) ⟨Nat.le_of_ble_eq_true rfl, Nat.le_of_ble_eq_true rfl⟩ (Nat.le_of_ble_eq_true rfl) dL_faultOf_79 (fun μ hF _ => ?_)
  refine jw_iload C dL_faultOf_82 0 rfl ?_
  refine jw_icmp_ne C 102 dL_faultOf_84 (by decide) (fun c => absurd (by decide) c) (fun _ => ?_)
  refine jw_aload C dL_faultOf_87 2 rfl ?_
  refine jw_bipush (v := 7) C dL_faultOf_89 (by decide) ?_
  refine jx_count C XT hF trivial fa3_O1 fa3_v3 gL_faultOf_X5_count (Nat.le_of_ble_eq_true rfl) (Nat.le_of_ble_eq_true rfl) ⟨Nat.le_of_ble_eq_true rfl, Nat.le_of_ble_eq_true rfl⟩ (Nat.le_of_ble_eq_true rfl) dL_faultOf_91 (fun μ hF _ => ?_)
  refine jw_if_ne C 102 dL_faultOf_94 (by decide) (fun c => absurd (by decide) c) (fun _ => ?_)
  refine jw_iload C dL_faultOf_97 1 rfl ?_
  refine jw_goto (tgt := 104) C dL_faultOf_99 (by decide) ?_
  exact jw_fret G rfl rfl (Nat.le_of_ble_eq_true rfl) (Nat.le_of_ble_eq_true rfl) dL_faultOf_104
theorem cf3 (l : Launch) : ConF l yL_faultOf wsL_faultOf rmL_faultOf EX5 [.long 808795441, .long 0] (fun v => v = some (.int (1 : Int32))) 88 3874 := ConF.mk (cc := cL_faultOf) (maxL := 7) (ret := (some .int)) (own := RL) (by decide) rfl rfl (Nat.le_of_ble_eq_true rfl) (fun K hN G => cf3_S0 hN G G.1)
set_option maxRecDepth 100000 in
set_option maxHeartbeats 4000000 in
theorem cf4_S0 {K : KT} {l : Launch} (hN : kN K = 7) (G : CtxF K l cL_faultOf RL wsL_faultOf rmL_faultOf EX5 (some .int) (fun v => v = some (.int (5 : Int32))) 88 3874) (C : Ctx K l cL_faultOf RL wsL_faultOf rmL_faultOf [] (fun _ => 0)) : JW K (0, 0) [] (fun _ => 0) μ0 0 [(0, .long (58536934518832 : Int64)), (2, .long (0 : Int64))] [] := by
  have hN_4 : 4 < kN K := by rw [hN]; decide
  have hN_5 : 5 < kN K := by rw [hN]; decide
  have hN_6 : 6 < kN K := by rw [hN]; decide
  refine jw_mkX (rest := []) C G.2.2.2.2.1 (List.mem_of_getElem? (i := 1) rfl) (List.mem_of_getElem? (i := 2) rfl) (List.mem_of_getElem? (i := 3) rfl) iwL_faultOf gL_faultOf_X5_init (List.mem_of_getElem? (i := 4) rfl) (List.mem_of_getElem? (i := 5) rfl) (Nat.le_of_ble_eq_true rfl) (Nat.le_of_ble_eq_true rfl) (Nat.le_of_ble_eq_true rfl) (Nat.le_of_ble_eq_true rfl) (by decide) dL_faultOf_0 rfl dL_faultOf_3 rfl dL_faultOf_4 (fun ad μ C hF _ => ?_)
  refine jw_astore (lw := [(4, .ref _), (0, .long _), (2, .long _)]) C dL_faultOf_7 hN_4 rfl ?_
  refine jw_lload_n C dL_faultOf_9 rfl 1 rfl ?_
  refine jw_lconst C dL_faultOf_10 (v := 0) rfl ?_
  refine jw_lcmp C dL_faultOf_11 ?_
  refine jw_if_eq C 24 dL_faultOf_12 (by decide) (fun c => absurd c (by decide +kernel)) (fun _ => ?_)
  refine jw_aload C dL_faultOf_15 0 rfl ?_
  refine jw_lload_n C dL_faultOf_17 rfl 1 rfl ?_
  refine jx_put C XT hF trivial F00_ok fa4_E1 gL_faultOf_X5_put (Nat.le_of_ble_eq_true rfl) (Nat.le_of_ble_eq_true rfl) ⟨Nat.le_of_ble_eq_true rfl, Nat.le_of_ble_eq_true rfl⟩ (Nat.le_of_ble_eq_true rfl) dL_faultOf_18 (fun μ hF _ => ?_)
  refine jw_if_lt C 39 dL_faultOf_21 (by decide) (fun c => absurd c (by decide)) (fun _ => ?_)
  refine jw_lload_n C dL_faultOf_24 rfl 2 rfl ?_
  refine jw_lconst C dL_faultOf_25 (v := 0) rfl ?_
  refine jw_lcmp C dL_faultOf_26 ?_
  refine jw_if_eq C 42 dL_faultOf_27 (by decide) (fun _ => ?_) (fun c => absurd (by decide +kernel) c)
  refine jw_aload C dL_faultOf_42 0 rfl ?_
  refine jx_fault C XT hF trivial fa4_O1 fa4_v0 gL_faultOf_X5_fault (Nat.le_of_ble_eq_true rfl) (Nat.le_of_ble_eq_true rfl) ⟨Nat.le_of_ble_eq_true rfl, Nat.le_of_ble_eq_true rfl⟩ (Nat.le_of_ble_eq_true rfl) dL_faultOf_44 (fun μ hF _ => ?_)
  refine jw_istore (lw := [(5, .int _), (4, .ref _), (0, .long _), (2, .long _)]) C dL_faultOf_47 hN_5 rfl ?_
  refine jw_aload C dL_faultOf_49 1 rfl ?_
  refine jw_bipush (v := 6) C dL_faultOf_51 (by decide) ?_
  refine jx_count C XT hF trivial fa4_O1 fa4_v1 gL_faultOf_X5_count (Nat.le_of_ble_eq_true rfl) (Nat.le_of_ble_eq_true rfl) ⟨Nat.le_of_ble_eq_true rfl, Nat.le_of_ble_eq_true rfl⟩ (Nat.le_of_ble_eq_true rfl) dL_faultOf_53 (fun μ hF _ => ?_)
  refine jw_istore (lw := [(6, .int _), (5, .int _), (4, .ref _), (0, .long _), (2, .long _)]) C dL_faultOf_56 hN_6 rfl ?_
  refine jw_iload C dL_faultOf_58 1 rfl ?_
  refine jw_bipush (v := (-6)) C dL_faultOf_60 (by decide) ?_
  refine jw_icmp_eq C 105 dL_faultOf_62 (by decide) (fun c => absurd c (by decide)) (fun _ => ?_)
  refine jw_aload C dL_faultOf_65 2 rfl ?_
  refine jx_carry C XT hF trivial fa4_O1 fa4_z2 gL_faultOf_X5_carryOut (Nat.le_of_ble_eq_true rfl) (Nat.le_of_ble_eq_true rfl) ⟨Nat.le_of_ble_eq_true rfl, Nat.le_of_ble_eq_true rfl⟩ (Nat.le_of_ble_eq_true rfl) dL_faultOf_67 (fun μ hF _ => ?_)
  refine jw_bipush (v := (-3)) C dL_faultOf_70 (by decide) ?_
  refine jw_icmp_ne C 102 dL_faultOf_72 (by decide) (fun c => absurd (by decide) c) (fun _ => ?_)
  refine jw_aload C dL_faultOf_75 2 rfl ?_
  refine jw_bipush (v := 6) C dL_faultOf_77 (by decide) ?_
  refine jx_count C XT hF trivial fa4_O1 fa4_v1 gL_faultOf_X5_count (Nat.le_of_ble_eq_true rfl) (Nat.le_of_ble_eq_true rfl) ⟨Nat.le_of_ble_eq_true rfl, Nat.le_of_ble_eq_true rfl⟩ (Nat.le_of_ble_eq_true rfl) dL_faultOf_79 (fun μ hF _ => ?_)
  refine jw_iload C dL_faultOf_82 0 rfl ?_
  refine jw_icmp_ne C 102 dL_faultOf_84 (by decide) (fun c => absurd (by decide) c) (fun _ => ?_)
  refine jw_aload C dL_faultOf_87 2 rfl ?_
  refine jw_bipush (v := 7) C dL_faultOf_89 (by decide) ?_
  refine jx_count C XT hF trivial fa4_O1 fa4_v3 gL_faultOf_X5_count (Nat.le_of_ble_eq_true rfl) (Nat.le_of_ble_eq_true rfl) ⟨Nat.le_of_ble_eq_true rfl, Nat.le_of_ble_eq_true rfl⟩ (Nat.le_of_ble_eq_true rfl) dL_faultOf_91 (fun μ hF _ => ?_)
  refine jw_if_ne C 102 dL_faultOf_94 (by decide) (fun c => absurd (by decide) c) (fun _ => ?_)
  refine jw_iload C dL_faultOf_97 1 rfl ?_
  refine jw_goto (tgt := 104) C dL_faultOf_99 (by decide) ?_
  exact jw_fret G rfl rfl (Nat.le_of_ble_eq_true rfl) (Nat.le_of_ble_eq_true rfl) dL_faultOf_104
theorem cf4 (l : Launch) : ConF l yL_faultOf wsL_faultOf rmL_faultOf EX5 [.long 58536934518832, .long 0] (fun v => v = some (.int (5 : Int32))) 88 3874 := ConF.mk (cc := cL_faultOf) (maxL := 7) (ret := (some .int)) (own := RL) (by decide) rfl rfl (Nat.le_of_ble_eq_true rfl) (fun K hN G => cf4_S0 hN G G.1)
set_option maxRecDepth 100000 in
set_option maxHeartbeats 4000000 in
theorem cf5_S0 {K : KT} {l : Launch} (hN : kN K = 7) (G : CtxF K l cL_faultOf RL wsL_faultOf rmL_faultOf EX5 (some .int) (fun v => v = some (.int (3 : Int32))) 88 3874) (C : Ctx K l cL_faultOf RL wsL_faultOf rmL_faultOf [] (fun _ => 0)) : JW K (0, 0) [] (fun _ => 0) μ0 0 [(0, .long (893202481 : Int64)), (2, .long (0 : Int64))] [] := by
  have hN_4 : 4 < kN K := by rw [hN]; decide
  have hN_5 : 5 < kN K := by rw [hN]; decide
  have hN_6 : 6 < kN K := by rw [hN]; decide
  refine jw_mkX (rest := []) C G.2.2.2.2.1 (List.mem_of_getElem? (i := 1) rfl) (List.mem_of_getElem? (i := 2) rfl) (List.mem_of_getElem? (i := 3) rfl) iwL_faultOf gL_faultOf_X5_init (List.mem_of_getElem? (i := 4) rfl) (List.mem_of_getElem? (i := 5) rfl) (Nat.le_of_ble_eq_true rfl) (Nat.le_of_ble_eq_true rfl) (Nat.le_of_ble_eq_true rfl) (Nat.le_of_ble_eq_true rfl) (by decide) dL_faultOf_0 rfl dL_faultOf_3 rfl dL_faultOf_4 (fun ad μ C hF _ => ?_)
  refine jw_astore (lw := [(4, .ref _), (0, .long _), (2, .long _)]) C dL_faultOf_7 hN_4 rfl ?_
  refine jw_lload_n C dL_faultOf_9 rfl 1 rfl ?_
  refine jw_lconst C dL_faultOf_10 (v := 0) rfl ?_
  refine jw_lcmp C dL_faultOf_11 ?_
  refine jw_if_eq C 24 dL_faultOf_12 (by decide) (fun c => absurd c (by decide +kernel)) (fun _ => ?_)
  refine jw_aload C dL_faultOf_15 0 rfl ?_
  refine jw_lload_n C dL_faultOf_17 rfl 1 rfl ?_
  refine jx_put C XT hF trivial F00_ok fa5_E1 gL_faultOf_X5_put (Nat.le_of_ble_eq_true rfl) (Nat.le_of_ble_eq_true rfl) ⟨Nat.le_of_ble_eq_true rfl, Nat.le_of_ble_eq_true rfl⟩ (Nat.le_of_ble_eq_true rfl) dL_faultOf_18 (fun μ hF _ => ?_)
  refine jw_if_lt C 39 dL_faultOf_21 (by decide) (fun c => absurd c (by decide)) (fun _ => ?_)
  refine jw_lload_n C dL_faultOf_24 rfl 2 rfl ?_
  refine jw_lconst C dL_faultOf_25 (v := 0) rfl ?_
  refine jw_lcmp C dL_faultOf_26 ?_
  refine jw_if_eq C 42 dL_faultOf_27 (by decide) (fun _ => ?_) (fun c => absurd (by decide +kernel) c)
  refine jw_aload C dL_faultOf_42 0 rfl ?_
  refine jx_fault C XT hF trivial fa5_O1 fa5_v0 gL_faultOf_X5_fault (Nat.le_of_ble_eq_true rfl) (Nat.le_of_ble_eq_true rfl) ⟨Nat.le_of_ble_eq_true rfl, Nat.le_of_ble_eq_true rfl⟩ (Nat.le_of_ble_eq_true rfl) dL_faultOf_44 (fun μ hF _ => ?_)
  refine jw_istore (lw := [(5, .int _), (4, .ref _), (0, .long _), (2, .long _)]) C dL_faultOf_47 hN_5 rfl ?_
  refine jw_aload C dL_faultOf_49 1 rfl ?_
  refine jw_bipush (v := 6) C dL_faultOf_51 (by decide) ?_
  refine jx_count C XT hF trivial fa5_O1 fa5_v1 gL_faultOf_X5_count (Nat.le_of_ble_eq_true rfl) (Nat.le_of_ble_eq_true rfl) ⟨Nat.le_of_ble_eq_true rfl, Nat.le_of_ble_eq_true rfl⟩ (Nat.le_of_ble_eq_true rfl) dL_faultOf_53 (fun μ hF _ => ?_)
  refine jw_istore (lw := [(6, .int _), (5, .int _), (4, .ref _), (0, .long _), (2, .long _)]) C dL_faultOf_56 hN_6 rfl ?_
  refine jw_iload C dL_faultOf_58 1 rfl ?_
  refine jw_bipush (v := (-6)) C dL_faultOf_60 (by decide) ?_
  refine jw_icmp_eq C 105 dL_faultOf_62 (by decide) (fun c => absurd c (by decide)) (fun _ => ?_)
  refine jw_aload C dL_faultOf_65 2 rfl ?_
  refine jx_carry C XT hF trivial fa5_O1 fa5_z2 gL_faultOf_X5_carryOut (Nat.le_of_ble_eq_true rfl) (Nat.le_of_ble_eq_true rfl) ⟨Nat.le_of_ble_eq_true rfl, Nat.le_of_ble_eq_true rfl⟩ (Nat.le_of_ble_eq_true rfl) dL_faultOf_67 (fun μ hF _ => ?_)
  refine jw_bipush (v := (-3)) C dL_faultOf_70 (by decide) ?_
  refine jw_icmp_ne C 102 dL_faultOf_72 (by decide) (fun c => absurd (by decide) c) (fun _ => ?_)
  refine jw_aload C dL_faultOf_75 2 rfl ?_
  refine jw_bipush (v := 6) C dL_faultOf_77 (by decide) ?_
  refine jx_count C XT hF trivial fa5_O1 fa5_v1 gL_faultOf_X5_count (Nat.le_of_ble_eq_true rfl) (Nat.le_of_ble_eq_true rfl) ⟨Nat.le_of_ble_eq_true rfl, Nat.le_of_ble_eq_true rfl⟩ (Nat.le_of_ble_eq_true rfl) dL_faultOf_79 (fun μ hF _ => ?_)
  refine jw_iload C dL_faultOf_82 0 rfl ?_
  refine jw_icmp_ne C 102 dL_faultOf_84 (by decide) (fun c => absurd (by decide) c) (fun _ => ?_)
  refine jw_aload C dL_faultOf_87 2 rfl ?_
  refine jw_bipush (v := 7) C dL_faultOf_89 (by decide) ?_
  refine jx_count C XT hF trivial fa5_O1 fa5_v3 gL_faultOf_X5_count (Nat.le_of_ble_eq_true rfl) (Nat.le_of_ble_eq_true rfl) ⟨Nat.le_of_ble_eq_true rfl, Nat.le_of_ble_eq_true rfl⟩ (Nat.le_of_ble_eq_true rfl) dL_faultOf_91 (fun μ hF _ => ?_)
  refine jw_if_ne C 102 dL_faultOf_94 (by decide) (fun c => absurd (by decide) c) (fun _ => ?_)
  refine jw_iload C dL_faultOf_97 1 rfl ?_
  refine jw_goto (tgt := 104) C dL_faultOf_99 (by decide) ?_
  exact jw_fret G rfl rfl (Nat.le_of_ble_eq_true rfl) (Nat.le_of_ble_eq_true rfl) dL_faultOf_104
theorem cf5 (l : Launch) : ConF l yL_faultOf wsL_faultOf rmL_faultOf EX5 [.long 893202481, .long 0] (fun v => v = some (.int (3 : Int32))) 88 3874 := ConF.mk (cc := cL_faultOf) (maxL := 7) (ret := (some .int)) (own := RL) (by decide) rfl rfl (Nat.le_of_ble_eq_true rfl) (fun K hN G => cf5_S0 hN G G.1)
set_option maxRecDepth 100000 in
set_option maxHeartbeats 4000000 in
theorem cf6_S0 {K : KT} {l : Launch} (hN : kN K = 7) (G : CtxF K l cL_faultOf RL wsL_faultOf rmL_faultOf EX5 (some .int) (fun v => v = some (.int (3 : Int32))) 88 3874) (C : Ctx K l cL_faultOf RL wsL_faultOf rmL_faultOf [] (fun _ => 0)) : JW K (0, 0) [] (fun _ => 0) μ0 0 [(0, .long (228391594801 : Int64)), (2, .long (0 : Int64))] [] := by
  have hN_4 : 4 < kN K := by rw [hN]; decide
  have hN_5 : 5 < kN K := by rw [hN]; decide
  have hN_6 : 6 < kN K := by rw [hN]; decide
  refine jw_mkX (rest := []) C G.2.2.2.2.1 (List.mem_of_getElem? (i := 1) rfl) (List.mem_of_getElem? (i := 2) rfl) (List.mem_of_getElem? (i := 3) rfl) iwL_faultOf gL_faultOf_X5_init (List.mem_of_getElem? (i := 4) rfl) (List.mem_of_getElem? (i := 5) rfl) (Nat.le_of_ble_eq_true rfl) (Nat.le_of_ble_eq_true rfl) (Nat.le_of_ble_eq_true rfl) (Nat.le_of_ble_eq_true rfl) (by decide) dL_faultOf_0 rfl dL_faultOf_3 rfl dL_faultOf_4 (fun ad μ C hF _ => ?_)
  refine jw_astore (lw := [(4, .ref _), (0, .long _), (2, .long _)]) C dL_faultOf_7 hN_4 rfl ?_
  refine jw_lload_n C dL_faultOf_9 rfl 1 rfl ?_
  refine jw_lconst C dL_faultOf_10 (v := 0) rfl ?_
  refine jw_lcmp C dL_faultOf_11 ?_
  refine jw_if_eq C 24 dL_faultOf_12 (by decide) (fun c => absurd c (by decide +kernel)) (fun _ => ?_)
  refine jw_aload C dL_faultOf_15 0 rfl ?_
  refine jw_lload_n C dL_faultOf_17 rfl 1 rfl ?_
  refine jx_put C XT hF trivial F00_ok fa6_E1 gL_faultOf_X5_put (Nat.le_of_ble_eq_true rfl) (Nat.le_of_ble_eq_true rfl) ⟨Nat.le_of_ble_eq_true rfl, Nat.le_of_ble_eq_true rfl⟩ (Nat.le_of_ble_eq_true rfl) dL_faultOf_18 (fun μ hF _ => ?_)
  refine jw_if_lt C 39 dL_faultOf_21 (by decide) (fun c => absurd c (by decide)) (fun _ => ?_)
  refine jw_lload_n C dL_faultOf_24 rfl 2 rfl ?_
  refine jw_lconst C dL_faultOf_25 (v := 0) rfl ?_
  refine jw_lcmp C dL_faultOf_26 ?_
  refine jw_if_eq C 42 dL_faultOf_27 (by decide) (fun _ => ?_) (fun c => absurd (by decide +kernel) c)
  refine jw_aload C dL_faultOf_42 0 rfl ?_
  refine jx_fault C XT hF trivial fa6_O1 fa6_v0 gL_faultOf_X5_fault (Nat.le_of_ble_eq_true rfl) (Nat.le_of_ble_eq_true rfl) ⟨Nat.le_of_ble_eq_true rfl, Nat.le_of_ble_eq_true rfl⟩ (Nat.le_of_ble_eq_true rfl) dL_faultOf_44 (fun μ hF _ => ?_)
  refine jw_istore (lw := [(5, .int _), (4, .ref _), (0, .long _), (2, .long _)]) C dL_faultOf_47 hN_5 rfl ?_
  refine jw_aload C dL_faultOf_49 1 rfl ?_
  refine jw_bipush (v := 6) C dL_faultOf_51 (by decide) ?_
  refine jx_count C XT hF trivial fa6_O1 fa6_v1 gL_faultOf_X5_count (Nat.le_of_ble_eq_true rfl) (Nat.le_of_ble_eq_true rfl) ⟨Nat.le_of_ble_eq_true rfl, Nat.le_of_ble_eq_true rfl⟩ (Nat.le_of_ble_eq_true rfl) dL_faultOf_53 (fun μ hF _ => ?_)
  refine jw_istore (lw := [(6, .int _), (5, .int _), (4, .ref _), (0, .long _), (2, .long _)]) C dL_faultOf_56 hN_6 rfl ?_
  refine jw_iload C dL_faultOf_58 1 rfl ?_
  refine jw_bipush (v := (-6)) C dL_faultOf_60 (by decide) ?_
  refine jw_icmp_eq C 105 dL_faultOf_62 (by decide) (fun c => absurd c (by decide)) (fun _ => ?_)
  refine jw_aload C dL_faultOf_65 2 rfl ?_
  refine jx_carry C XT hF trivial fa6_O1 fa6_z2 gL_faultOf_X5_carryOut (Nat.le_of_ble_eq_true rfl) (Nat.le_of_ble_eq_true rfl) ⟨Nat.le_of_ble_eq_true rfl, Nat.le_of_ble_eq_true rfl⟩ (Nat.le_of_ble_eq_true rfl) dL_faultOf_67 (fun μ hF _ => ?_)
  refine jw_bipush (v := (-3)) C dL_faultOf_70 (by decide) ?_
  refine jw_icmp_ne C 102 dL_faultOf_72 (by decide) (fun c => absurd (by decide) c) (fun _ => ?_)
  refine jw_aload C dL_faultOf_75 2 rfl ?_
  refine jw_bipush (v := 6) C dL_faultOf_77 (by decide) ?_
  refine jx_count C XT hF trivial fa6_O1 fa6_v1 gL_faultOf_X5_count (Nat.le_of_ble_eq_true rfl) (Nat.le_of_ble_eq_true rfl) ⟨Nat.le_of_ble_eq_true rfl, Nat.le_of_ble_eq_true rfl⟩ (Nat.le_of_ble_eq_true rfl) dL_faultOf_79 (fun μ hF _ => ?_)
  refine jw_iload C dL_faultOf_82 0 rfl ?_
  refine jw_icmp_ne C 102 dL_faultOf_84 (by decide) (fun c => absurd (by decide) c) (fun _ => ?_)
  refine jw_aload C dL_faultOf_87 2 rfl ?_
  refine jw_bipush (v := 7) C dL_faultOf_89 (by decide) ?_
  refine jx_count C XT hF trivial fa6_O1 fa6_v3 gL_faultOf_X5_count (Nat.le_of_ble_eq_true rfl) (Nat.le_of_ble_eq_true rfl) ⟨Nat.le_of_ble_eq_true rfl, Nat.le_of_ble_eq_true rfl⟩ (Nat.le_of_ble_eq_true rfl) dL_faultOf_91 (fun μ hF _ => ?_)
  refine jw_if_ne C 102 dL_faultOf_94 (by decide) (fun c => absurd (by decide) c) (fun _ => ?_)
  refine jw_iload C dL_faultOf_97 1 rfl ?_
  refine jw_goto (tgt := 104) C dL_faultOf_99 (by decide) ?_
  exact jw_fret G rfl rfl (Nat.le_of_ble_eq_true rfl) (Nat.le_of_ble_eq_true rfl) dL_faultOf_104
theorem cf6 (l : Launch) : ConF l yL_faultOf wsL_faultOf rmL_faultOf EX5 [.long 228391594801, .long 0] (fun v => v = some (.int (3 : Int32))) 88 3874 := ConF.mk (cc := cL_faultOf) (maxL := 7) (ret := (some .int)) (own := RL) (by decide) rfl rfl (Nat.le_of_ble_eq_true rfl) (fun K hN G => cf6_S0 hN G G.1)
set_option maxRecDepth 100000 in
set_option maxHeartbeats 4000000 in
theorem cf7_S0 {K : KT} {l : Launch} (hN : kN K = 7) (G : CtxF K l cL_faultOf RL wsL_faultOf rmL_faultOf EX5 (some .int) (fun v => v = some (.int (3 : Int32))) 88 3874) (C : Ctx K l cL_faultOf RL wsL_faultOf rmL_faultOf [] (fun _ => 0)) : JW K (0, 0) [] (fun _ => 0) μ0 0 [(0, .long (3484979 : Int64)), (2, .long (0 : Int64))] [] := by
  have hN_4 : 4 < kN K := by rw [hN]; decide
  have hN_5 : 5 < kN K := by rw [hN]; decide
  have hN_6 : 6 < kN K := by rw [hN]; decide
  refine jw_mkX (rest := []) C G.2.2.2.2.1 (List.mem_of_getElem? (i := 1) rfl) (List.mem_of_getElem? (i := 2) rfl) (List.mem_of_getElem? (i := 3) rfl) iwL_faultOf gL_faultOf_X5_init (List.mem_of_getElem? (i := 4) rfl) (List.mem_of_getElem? (i := 5) rfl) (Nat.le_of_ble_eq_true rfl) (Nat.le_of_ble_eq_true rfl) (Nat.le_of_ble_eq_true rfl) (Nat.le_of_ble_eq_true rfl) (by decide) dL_faultOf_0 rfl dL_faultOf_3 rfl dL_faultOf_4 (fun ad μ C hF _ => ?_)
  refine jw_astore (lw := [(4, .ref _), (0, .long _), (2, .long _)]) C dL_faultOf_7 hN_4 rfl ?_
  refine jw_lload_n C dL_faultOf_9 rfl 1 rfl ?_
  refine jw_lconst C dL_faultOf_10 (v := 0) rfl ?_
  refine jw_lcmp C dL_faultOf_11 ?_
  refine jw_if_eq C 24 dL_faultOf_12 (by decide) (fun c => absurd c (by decide +kernel)) (fun _ => ?_)
  refine jw_aload C dL_faultOf_15 0 rfl ?_
  refine jw_lload_n C dL_faultOf_17 rfl 1 rfl ?_
  refine jx_put C XT hF trivial F00_ok fa7_E1 gL_faultOf_X5_put (Nat.le_of_ble_eq_true rfl) (Nat.le_of_ble_eq_true rfl) ⟨Nat.le_of_ble_eq_true rfl, Nat.le_of_ble_eq_true rfl⟩ (Nat.le_of_ble_eq_true rfl) dL_faultOf_18 (fun μ hF _ => ?_)
  refine jw_if_lt C 39 dL_faultOf_21 (by decide) (fun c => absurd c (by decide)) (fun _ => ?_)
  refine jw_lload_n C dL_faultOf_24 rfl 2 rfl ?_
  refine jw_lconst C dL_faultOf_25 (v := 0) rfl ?_
  refine jw_lcmp C dL_faultOf_26 ?_
  refine jw_if_eq C 42 dL_faultOf_27 (by decide) (fun _ => ?_) (fun c => absurd (by decide +kernel) c)
  refine jw_aload C dL_faultOf_42 0 rfl ?_
  refine jx_fault C XT hF trivial fa7_O1 fa7_v0 gL_faultOf_X5_fault (Nat.le_of_ble_eq_true rfl) (Nat.le_of_ble_eq_true rfl) ⟨Nat.le_of_ble_eq_true rfl, Nat.le_of_ble_eq_true rfl⟩ (Nat.le_of_ble_eq_true rfl) dL_faultOf_44 (fun μ hF _ => ?_)
  refine jw_istore (lw := [(5, .int _), (4, .ref _), (0, .long _), (2, .long _)]) C dL_faultOf_47 hN_5 rfl ?_
  refine jw_aload C dL_faultOf_49 1 rfl ?_
  refine jw_bipush (v := 6) C dL_faultOf_51 (by decide) ?_
  refine jx_count C XT hF trivial fa7_O1 fa7_v1 gL_faultOf_X5_count (Nat.le_of_ble_eq_true rfl) (Nat.le_of_ble_eq_true rfl) ⟨Nat.le_of_ble_eq_true rfl, Nat.le_of_ble_eq_true rfl⟩ (Nat.le_of_ble_eq_true rfl) dL_faultOf_53 (fun μ hF _ => ?_)
  refine jw_istore (lw := [(6, .int _), (5, .int _), (4, .ref _), (0, .long _), (2, .long _)]) C dL_faultOf_56 hN_6 rfl ?_
  refine jw_iload C dL_faultOf_58 1 rfl ?_
  refine jw_bipush (v := (-6)) C dL_faultOf_60 (by decide) ?_
  refine jw_icmp_eq C 105 dL_faultOf_62 (by decide) (fun c => absurd c (by decide)) (fun _ => ?_)
  refine jw_aload C dL_faultOf_65 2 rfl ?_
  refine jx_carry C XT hF trivial fa7_O1 fa7_z2 gL_faultOf_X5_carryOut (Nat.le_of_ble_eq_true rfl) (Nat.le_of_ble_eq_true rfl) ⟨Nat.le_of_ble_eq_true rfl, Nat.le_of_ble_eq_true rfl⟩ (Nat.le_of_ble_eq_true rfl) dL_faultOf_67 (fun μ hF _ => ?_)
  refine jw_bipush (v := (-3)) C dL_faultOf_70 (by decide) ?_
  refine jw_icmp_ne C 102 dL_faultOf_72 (by decide) (fun c => absurd (by decide) c) (fun _ => ?_)
  refine jw_aload C dL_faultOf_75 2 rfl ?_
  refine jw_bipush (v := 6) C dL_faultOf_77 (by decide) ?_
  refine jx_count C XT hF trivial fa7_O1 fa7_v1 gL_faultOf_X5_count (Nat.le_of_ble_eq_true rfl) (Nat.le_of_ble_eq_true rfl) ⟨Nat.le_of_ble_eq_true rfl, Nat.le_of_ble_eq_true rfl⟩ (Nat.le_of_ble_eq_true rfl) dL_faultOf_79 (fun μ hF _ => ?_)
  refine jw_iload C dL_faultOf_82 0 rfl ?_
  refine jw_icmp_ne C 102 dL_faultOf_84 (by decide) (fun c => absurd (by decide) c) (fun _ => ?_)
  refine jw_aload C dL_faultOf_87 2 rfl ?_
  refine jw_bipush (v := 7) C dL_faultOf_89 (by decide) ?_
  refine jx_count C XT hF trivial fa7_O1 fa7_v3 gL_faultOf_X5_count (Nat.le_of_ble_eq_true rfl) (Nat.le_of_ble_eq_true rfl) ⟨Nat.le_of_ble_eq_true rfl, Nat.le_of_ble_eq_true rfl⟩ (Nat.le_of_ble_eq_true rfl) dL_faultOf_91 (fun μ hF _ => ?_)
  refine jw_if_ne C 102 dL_faultOf_94 (by decide) (fun c => absurd (by decide) c) (fun _ => ?_)
  refine jw_iload C dL_faultOf_97 1 rfl ?_
  refine jw_goto (tgt := 104) C dL_faultOf_99 (by decide) ?_
  exact jw_fret G rfl rfl (Nat.le_of_ble_eq_true rfl) (Nat.le_of_ble_eq_true rfl) dL_faultOf_104
theorem cf7 (l : Launch) : ConF l yL_faultOf wsL_faultOf rmL_faultOf EX5 [.long 3484979, .long 0] (fun v => v = some (.int (3 : Int32))) 88 3874 := ConF.mk (cc := cL_faultOf) (maxL := 7) (ret := (some .int)) (own := RL) (by decide) rfl rfl (Nat.le_of_ble_eq_true rfl) (fun K hN G => cf7_S0 hN G G.1)
set_option maxRecDepth 100000 in
set_option maxHeartbeats 4000000 in
theorem cf8_S0 {K : KT} {l : Launch} (hN : kN K = 7) (G : CtxF K l cL_faultOf RL wsL_faultOf rmL_faultOf EX5 (some .int) (fun v => v = some (.int (4 : Int32))) 88 3874) (C : Ctx K l cL_faultOf RL wsL_faultOf rmL_faultOf [] (fun _ => 0)) : JW K (0, 0) [] (fun _ => 0) μ0 0 [(0, .long (54091576322865 : Int64)), (2, .long (0 : Int64))] [] := by
  have hN_4 : 4 < kN K := by rw [hN]; decide
  have hN_5 : 5 < kN K := by rw [hN]; decide
  have hN_6 : 6 < kN K := by rw [hN]; decide
  refine jw_mkX (rest := []) C G.2.2.2.2.1 (List.mem_of_getElem? (i := 1) rfl) (List.mem_of_getElem? (i := 2) rfl) (List.mem_of_getElem? (i := 3) rfl) iwL_faultOf gL_faultOf_X5_init (List.mem_of_getElem? (i := 4) rfl) (List.mem_of_getElem? (i := 5) rfl) (Nat.le_of_ble_eq_true rfl) (Nat.le_of_ble_eq_true rfl) (Nat.le_of_ble_eq_true rfl) (Nat.le_of_ble_eq_true rfl) (by decide) dL_faultOf_0 rfl dL_faultOf_3 rfl dL_faultOf_4 (fun ad μ C hF _ => ?_)
  refine jw_astore (lw := [(4, .ref _), (0, .long _), (2, .long _)]) C dL_faultOf_7 hN_4 rfl ?_
  refine jw_lload_n C dL_faultOf_9 rfl 1 rfl ?_
  refine jw_lconst C dL_faultOf_10 (v := 0) rfl ?_
  refine jw_lcmp C dL_faultOf_11 ?_
  refine jw_if_eq C 24 dL_faultOf_12 (by decide) (fun c => absurd c (by decide +kernel)) (fun _ => ?_)
  refine jw_aload C dL_faultOf_15 0 rfl ?_
  refine jw_lload_n C dL_faultOf_17 rfl 1 rfl ?_
  refine jx_put C XT hF trivial F00_ok fa8_E1 gL_faultOf_X5_put (Nat.le_of_ble_eq_true rfl) (Nat.le_of_ble_eq_true rfl) ⟨Nat.le_of_ble_eq_true rfl, Nat.le_of_ble_eq_true rfl⟩ (Nat.le_of_ble_eq_true rfl) dL_faultOf_18 (fun μ hF _ => ?_)
  refine jw_if_lt C 39 dL_faultOf_21 (by decide) (fun c => absurd c (by decide)) (fun _ => ?_)
  refine jw_lload_n C dL_faultOf_24 rfl 2 rfl ?_
  refine jw_lconst C dL_faultOf_25 (v := 0) rfl ?_
  refine jw_lcmp C dL_faultOf_26 ?_
  refine jw_if_eq C 42 dL_faultOf_27 (by decide) (fun _ => ?_) (fun c => absurd (by decide +kernel) c)
  refine jw_aload C dL_faultOf_42 0 rfl ?_
  refine jx_fault C XT hF trivial fa8_O1 fa8_v0 gL_faultOf_X5_fault (Nat.le_of_ble_eq_true rfl) (Nat.le_of_ble_eq_true rfl) ⟨Nat.le_of_ble_eq_true rfl, Nat.le_of_ble_eq_true rfl⟩ (Nat.le_of_ble_eq_true rfl) dL_faultOf_44 (fun μ hF _ => ?_)
  refine jw_istore (lw := [(5, .int _), (4, .ref _), (0, .long _), (2, .long _)]) C dL_faultOf_47 hN_5 rfl ?_
  refine jw_aload C dL_faultOf_49 1 rfl ?_
  refine jw_bipush (v := 6) C dL_faultOf_51 (by decide) ?_
  refine jx_count C XT hF trivial fa8_O1 fa8_v1 gL_faultOf_X5_count (Nat.le_of_ble_eq_true rfl) (Nat.le_of_ble_eq_true rfl) ⟨Nat.le_of_ble_eq_true rfl, Nat.le_of_ble_eq_true rfl⟩ (Nat.le_of_ble_eq_true rfl) dL_faultOf_53 (fun μ hF _ => ?_)
  refine jw_istore (lw := [(6, .int _), (5, .int _), (4, .ref _), (0, .long _), (2, .long _)]) C dL_faultOf_56 hN_6 rfl ?_
  refine jw_iload C dL_faultOf_58 1 rfl ?_
  refine jw_bipush (v := (-6)) C dL_faultOf_60 (by decide) ?_
  refine jw_icmp_eq C 105 dL_faultOf_62 (by decide) (fun c => absurd c (by decide)) (fun _ => ?_)
  refine jw_aload C dL_faultOf_65 2 rfl ?_
  refine jx_carry C XT hF trivial fa8_O1 fa8_z2 gL_faultOf_X5_carryOut (Nat.le_of_ble_eq_true rfl) (Nat.le_of_ble_eq_true rfl) ⟨Nat.le_of_ble_eq_true rfl, Nat.le_of_ble_eq_true rfl⟩ (Nat.le_of_ble_eq_true rfl) dL_faultOf_67 (fun μ hF _ => ?_)
  refine jw_bipush (v := (-3)) C dL_faultOf_70 (by decide) ?_
  refine jw_icmp_ne C 102 dL_faultOf_72 (by decide) (fun c => absurd (by decide) c) (fun _ => ?_)
  refine jw_aload C dL_faultOf_75 2 rfl ?_
  refine jw_bipush (v := 6) C dL_faultOf_77 (by decide) ?_
  refine jx_count C XT hF trivial fa8_O1 fa8_v1 gL_faultOf_X5_count (Nat.le_of_ble_eq_true rfl) (Nat.le_of_ble_eq_true rfl) ⟨Nat.le_of_ble_eq_true rfl, Nat.le_of_ble_eq_true rfl⟩ (Nat.le_of_ble_eq_true rfl) dL_faultOf_79 (fun μ hF _ => ?_)
  refine jw_iload C dL_faultOf_82 0 rfl ?_
  refine jw_icmp_ne C 102 dL_faultOf_84 (by decide) (fun c => absurd (by decide) c) (fun _ => ?_)
  refine jw_aload C dL_faultOf_87 2 rfl ?_
  refine jw_bipush (v := 7) C dL_faultOf_89 (by decide) ?_
  refine jx_count C XT hF trivial fa8_O1 fa8_v3 gL_faultOf_X5_count (Nat.le_of_ble_eq_true rfl) (Nat.le_of_ble_eq_true rfl) ⟨Nat.le_of_ble_eq_true rfl, Nat.le_of_ble_eq_true rfl⟩ (Nat.le_of_ble_eq_true rfl) dL_faultOf_91 (fun μ hF _ => ?_)
  refine jw_if_ne C 102 dL_faultOf_94 (by decide) (fun c => absurd (by decide) c) (fun _ => ?_)
  refine jw_iload C dL_faultOf_97 1 rfl ?_
  refine jw_goto (tgt := 104) C dL_faultOf_99 (by decide) ?_
  exact jw_fret G rfl rfl (Nat.le_of_ble_eq_true rfl) (Nat.le_of_ble_eq_true rfl) dL_faultOf_104
theorem cf8 (l : Launch) : ConF l yL_faultOf wsL_faultOf rmL_faultOf EX5 [.long 54091576322865, .long 0] (fun v => v = some (.int (4 : Int32))) 88 3874 := ConF.mk (cc := cL_faultOf) (maxL := 7) (ret := (some .int)) (own := RL) (by decide) rfl rfl (Nat.le_of_ble_eq_true rfl) (fun K hN G => cf8_S0 hN G G.1)
set_option maxRecDepth 100000 in
set_option maxHeartbeats 4000000 in
theorem cf9_S0 {K : KT} {l : Launch} (hN : kN K = 7) (G : CtxF K l cL_faultOf RL wsL_faultOf rmL_faultOf EX5 (some .int) (fun v => v = some (.int (4 : Int32))) 88 3874) (C : Ctx K l cL_faultOf RL wsL_faultOf rmL_faultOf [] (fun _ => 0)) : JW K (0, 0) [] (fun _ => 0) μ0 0 [(0, .long (825371953 : Int64)), (2, .long (0 : Int64))] [] := by
  have hN_4 : 4 < kN K := by rw [hN]; decide
  have hN_5 : 5 < kN K := by rw [hN]; decide
  have hN_6 : 6 < kN K := by rw [hN]; decide
  refine jw_mkX (rest := []) C G.2.2.2.2.1 (List.mem_of_getElem? (i := 1) rfl) (List.mem_of_getElem? (i := 2) rfl) (List.mem_of_getElem? (i := 3) rfl) iwL_faultOf gL_faultOf_X5_init (List.mem_of_getElem? (i := 4) rfl) (List.mem_of_getElem? (i := 5) rfl) (Nat.le_of_ble_eq_true rfl) (Nat.le_of_ble_eq_true rfl) (Nat.le_of_ble_eq_true rfl) (Nat.le_of_ble_eq_true rfl) (by decide) dL_faultOf_0 rfl dL_faultOf_3 rfl dL_faultOf_4 (fun ad μ C hF _ => ?_)
  refine jw_astore (lw := [(4, .ref _), (0, .long _), (2, .long _)]) C dL_faultOf_7 hN_4 rfl ?_
  refine jw_lload_n C dL_faultOf_9 rfl 1 rfl ?_
  refine jw_lconst C dL_faultOf_10 (v := 0) rfl ?_
  refine jw_lcmp C dL_faultOf_11 ?_
  refine jw_if_eq C 24 dL_faultOf_12 (by decide) (fun c => absurd c (by decide +kernel)) (fun _ => ?_)
  refine jw_aload C dL_faultOf_15 0 rfl ?_
  refine jw_lload_n C dL_faultOf_17 rfl 1 rfl ?_
  refine jx_put C XT hF trivial F00_ok fa9_E1 gL_faultOf_X5_put (Nat.le_of_ble_eq_true rfl) (Nat.le_of_ble_eq_true rfl) ⟨Nat.le_of_ble_eq_true rfl, Nat.le_of_ble_eq_true rfl⟩ (Nat.le_of_ble_eq_true rfl) dL_faultOf_18 (fun μ hF _ => ?_)
  refine jw_if_lt C 39 dL_faultOf_21 (by decide) (fun c => absurd c (by decide)) (fun _ => ?_)
  refine jw_lload_n C dL_faultOf_24 rfl 2 rfl ?_
  refine jw_lconst C dL_faultOf_25 (v := 0) rfl ?_
  refine jw_lcmp C dL_faultOf_26 ?_
  refine jw_if_eq C 42 dL_faultOf_27 (by decide) (fun _ => ?_) (fun c => absurd (by decide +kernel) c)
  refine jw_aload C dL_faultOf_42 0 rfl ?_
  refine jx_fault C XT hF trivial fa9_O1 fa9_v0 gL_faultOf_X5_fault (Nat.le_of_ble_eq_true rfl) (Nat.le_of_ble_eq_true rfl) ⟨Nat.le_of_ble_eq_true rfl, Nat.le_of_ble_eq_true rfl⟩ (Nat.le_of_ble_eq_true rfl) dL_faultOf_44 (fun μ hF _ => ?_)
  refine jw_istore (lw := [(5, .int _), (4, .ref _), (0, .long _), (2, .long _)]) C dL_faultOf_47 hN_5 rfl ?_
  refine jw_aload C dL_faultOf_49 1 rfl ?_
  refine jw_bipush (v := 6) C dL_faultOf_51 (by decide) ?_
  refine jx_count C XT hF trivial fa9_O1 fa9_v1 gL_faultOf_X5_count (Nat.le_of_ble_eq_true rfl) (Nat.le_of_ble_eq_true rfl) ⟨Nat.le_of_ble_eq_true rfl, Nat.le_of_ble_eq_true rfl⟩ (Nat.le_of_ble_eq_true rfl) dL_faultOf_53 (fun μ hF _ => ?_)
  refine jw_istore (lw := [(6, .int _), (5, .int _), (4, .ref _), (0, .long _), (2, .long _)]) C dL_faultOf_56 hN_6 rfl ?_
  refine jw_iload C dL_faultOf_58 1 rfl ?_
  refine jw_bipush (v := (-6)) C dL_faultOf_60 (by decide) ?_
  refine jw_icmp_eq C 105 dL_faultOf_62 (by decide) (fun c => absurd c (by decide)) (fun _ => ?_)
  refine jw_aload C dL_faultOf_65 2 rfl ?_
  refine jx_carry C XT hF trivial fa9_O1 fa9_z2 gL_faultOf_X5_carryOut (Nat.le_of_ble_eq_true rfl) (Nat.le_of_ble_eq_true rfl) ⟨Nat.le_of_ble_eq_true rfl, Nat.le_of_ble_eq_true rfl⟩ (Nat.le_of_ble_eq_true rfl) dL_faultOf_67 (fun μ hF _ => ?_)
  refine jw_bipush (v := (-3)) C dL_faultOf_70 (by decide) ?_
  refine jw_icmp_ne C 102 dL_faultOf_72 (by decide) (fun c => absurd (by decide) c) (fun _ => ?_)
  refine jw_aload C dL_faultOf_75 2 rfl ?_
  refine jw_bipush (v := 6) C dL_faultOf_77 (by decide) ?_
  refine jx_count C XT hF trivial fa9_O1 fa9_v1 gL_faultOf_X5_count (Nat.le_of_ble_eq_true rfl) (Nat.le_of_ble_eq_true rfl) ⟨Nat.le_of_ble_eq_true rfl, Nat.le_of_ble_eq_true rfl⟩ (Nat.le_of_ble_eq_true rfl) dL_faultOf_79 (fun μ hF _ => ?_)
  refine jw_iload C dL_faultOf_82 0 rfl ?_
  refine jw_icmp_ne C 102 dL_faultOf_84 (by decide) (fun c => absurd (by decide) c) (fun _ => ?_)
  refine jw_aload C dL_faultOf_87 2 rfl ?_
  refine jw_bipush (v := 7) C dL_faultOf_89 (by decide) ?_
  refine jx_count C XT hF trivial fa9_O1 fa9_v3 gL_faultOf_X5_count (Nat.le_of_ble_eq_true rfl) (Nat.le_of_ble_eq_true rfl) ⟨Nat.le_of_ble_eq_true rfl, Nat.le_of_ble_eq_true rfl⟩ (Nat.le_of_ble_eq_true rfl) dL_faultOf_91 (fun μ hF _ => ?_)
  refine jw_if_ne C 102 dL_faultOf_94 (by decide) (fun c => absurd (by decide) c) (fun _ => ?_)
  refine jw_iload C dL_faultOf_97 1 rfl ?_
  refine jw_goto (tgt := 104) C dL_faultOf_99 (by decide) ?_
  exact jw_fret G rfl rfl (Nat.le_of_ble_eq_true rfl) (Nat.le_of_ble_eq_true rfl) dL_faultOf_104
theorem cf9 (l : Launch) : ConF l yL_faultOf wsL_faultOf rmL_faultOf EX5 [.long 825371953, .long 0] (fun v => v = some (.int (4 : Int32))) 88 3874 := ConF.mk (cc := cL_faultOf) (maxL := 7) (ret := (some .int)) (own := RL) (by decide) rfl rfl (Nat.le_of_ble_eq_true rfl) (fun K hN G => cf9_S0 hN G G.1)
set_option maxRecDepth 100000 in
set_option maxHeartbeats 4000000 in
theorem cf10_S0 {K : KT} {l : Launch} (hN : kN K = 7) (G : CtxF K l cL_faultOf RL wsL_faultOf rmL_faultOf EX5 (some .int) (fun v => v = some (.int (5 : Int32))) 88 3874) (C : Ctx K l cL_faultOf RL wsL_faultOf rmL_faultOf [] (fun _ => 0)) : JW K (0, 0) [] (fun _ => 0) μ0 0 [(0, .long (13847443538979633 : Int64)), (2, .long (0 : Int64))] [] := by
  have hN_4 : 4 < kN K := by rw [hN]; decide
  have hN_5 : 5 < kN K := by rw [hN]; decide
  have hN_6 : 6 < kN K := by rw [hN]; decide
  refine jw_mkX (rest := []) C G.2.2.2.2.1 (List.mem_of_getElem? (i := 1) rfl) (List.mem_of_getElem? (i := 2) rfl) (List.mem_of_getElem? (i := 3) rfl) iwL_faultOf gL_faultOf_X5_init (List.mem_of_getElem? (i := 4) rfl) (List.mem_of_getElem? (i := 5) rfl) (Nat.le_of_ble_eq_true rfl) (Nat.le_of_ble_eq_true rfl) (Nat.le_of_ble_eq_true rfl) (Nat.le_of_ble_eq_true rfl) (by decide) dL_faultOf_0 rfl dL_faultOf_3 rfl dL_faultOf_4 (fun ad μ C hF _ => ?_)
  refine jw_astore (lw := [(4, .ref _), (0, .long _), (2, .long _)]) C dL_faultOf_7 hN_4 rfl ?_
  refine jw_lload_n C dL_faultOf_9 rfl 1 rfl ?_
  refine jw_lconst C dL_faultOf_10 (v := 0) rfl ?_
  refine jw_lcmp C dL_faultOf_11 ?_
  refine jw_if_eq C 24 dL_faultOf_12 (by decide) (fun c => absurd c (by decide +kernel)) (fun _ => ?_)
  refine jw_aload C dL_faultOf_15 0 rfl ?_
  refine jw_lload_n C dL_faultOf_17 rfl 1 rfl ?_
  refine jx_put C XT hF trivial F00_ok fa10_E1 gL_faultOf_X5_put (Nat.le_of_ble_eq_true rfl) (Nat.le_of_ble_eq_true rfl) ⟨Nat.le_of_ble_eq_true rfl, Nat.le_of_ble_eq_true rfl⟩ (Nat.le_of_ble_eq_true rfl) dL_faultOf_18 (fun μ hF _ => ?_)
  refine jw_if_lt C 39 dL_faultOf_21 (by decide) (fun c => absurd c (by decide)) (fun _ => ?_)
  refine jw_lload_n C dL_faultOf_24 rfl 2 rfl ?_
  refine jw_lconst C dL_faultOf_25 (v := 0) rfl ?_
  refine jw_lcmp C dL_faultOf_26 ?_
  refine jw_if_eq C 42 dL_faultOf_27 (by decide) (fun _ => ?_) (fun c => absurd (by decide +kernel) c)
  refine jw_aload C dL_faultOf_42 0 rfl ?_
  refine jx_fault C XT hF trivial fa10_O1 fa10_v0 gL_faultOf_X5_fault (Nat.le_of_ble_eq_true rfl) (Nat.le_of_ble_eq_true rfl) ⟨Nat.le_of_ble_eq_true rfl, Nat.le_of_ble_eq_true rfl⟩ (Nat.le_of_ble_eq_true rfl) dL_faultOf_44 (fun μ hF _ => ?_)
  refine jw_istore (lw := [(5, .int _), (4, .ref _), (0, .long _), (2, .long _)]) C dL_faultOf_47 hN_5 rfl ?_
  refine jw_aload C dL_faultOf_49 1 rfl ?_
  refine jw_bipush (v := 6) C dL_faultOf_51 (by decide) ?_
  refine jx_count C XT hF trivial fa10_O1 fa10_v1 gL_faultOf_X5_count (Nat.le_of_ble_eq_true rfl) (Nat.le_of_ble_eq_true rfl) ⟨Nat.le_of_ble_eq_true rfl, Nat.le_of_ble_eq_true rfl⟩ (Nat.le_of_ble_eq_true rfl) dL_faultOf_53 (fun μ hF _ => ?_)
  refine jw_istore (lw := [(6, .int _), (5, .int _), (4, .ref _), (0, .long _), (2, .long _)]) C dL_faultOf_56 hN_6 rfl ?_
  refine jw_iload C dL_faultOf_58 1 rfl ?_
  refine jw_bipush (v := (-6)) C dL_faultOf_60 (by decide) ?_
  refine jw_icmp_eq C 105 dL_faultOf_62 (by decide) (fun c => absurd c (by decide)) (fun _ => ?_)
  refine jw_aload C dL_faultOf_65 2 rfl ?_
  refine jx_carry C XT hF trivial fa10_O1 fa10_z2 gL_faultOf_X5_carryOut (Nat.le_of_ble_eq_true rfl) (Nat.le_of_ble_eq_true rfl) ⟨Nat.le_of_ble_eq_true rfl, Nat.le_of_ble_eq_true rfl⟩ (Nat.le_of_ble_eq_true rfl) dL_faultOf_67 (fun μ hF _ => ?_)
  refine jw_bipush (v := (-3)) C dL_faultOf_70 (by decide) ?_
  refine jw_icmp_ne C 102 dL_faultOf_72 (by decide) (fun c => absurd (by decide) c) (fun _ => ?_)
  refine jw_aload C dL_faultOf_75 2 rfl ?_
  refine jw_bipush (v := 6) C dL_faultOf_77 (by decide) ?_
  refine jx_count C XT hF trivial fa10_O1 fa10_v1 gL_faultOf_X5_count (Nat.le_of_ble_eq_true rfl) (Nat.le_of_ble_eq_true rfl) ⟨Nat.le_of_ble_eq_true rfl, Nat.le_of_ble_eq_true rfl⟩ (Nat.le_of_ble_eq_true rfl) dL_faultOf_79 (fun μ hF _ => ?_)
  refine jw_iload C dL_faultOf_82 0 rfl ?_
  refine jw_icmp_ne C 102 dL_faultOf_84 (by decide) (fun c => absurd (by decide) c) (fun _ => ?_)
  refine jw_aload C dL_faultOf_87 2 rfl ?_
  refine jw_bipush (v := 7) C dL_faultOf_89 (by decide) ?_
  refine jx_count C XT hF trivial fa10_O1 fa10_v3 gL_faultOf_X5_count (Nat.le_of_ble_eq_true rfl) (Nat.le_of_ble_eq_true rfl) ⟨Nat.le_of_ble_eq_true rfl, Nat.le_of_ble_eq_true rfl⟩ (Nat.le_of_ble_eq_true rfl) dL_faultOf_91 (fun μ hF _ => ?_)
  refine jw_if_ne C 102 dL_faultOf_94 (by decide) (fun c => absurd (by decide) c) (fun _ => ?_)
  refine jw_iload C dL_faultOf_97 1 rfl ?_
  refine jw_goto (tgt := 104) C dL_faultOf_99 (by decide) ?_
  exact jw_fret G rfl rfl (Nat.le_of_ble_eq_true rfl) (Nat.le_of_ble_eq_true rfl) dL_faultOf_104
theorem cf10 (l : Launch) : ConF l yL_faultOf wsL_faultOf rmL_faultOf EX5 [.long 13847443538979633, .long 0] (fun v => v = some (.int (5 : Int32))) 88 3874 := ConF.mk (cc := cL_faultOf) (maxL := 7) (ret := (some .int)) (own := RL) (by decide) rfl rfl (Nat.le_of_ble_eq_true rfl) (fun K hN G => cf10_S0 hN G G.1)
set_option maxRecDepth 100000 in
set_option maxHeartbeats 4000000 in
theorem cf11_S0 {K : KT} {l : Launch} (hN : kN K = 7) (G : CtxF K l cL_faultOf RL wsL_faultOf rmL_faultOf EX5 (some .int) (fun v => v = some (.int (-6 : Int32))) 88 3874) (C : Ctx K l cL_faultOf RL wsL_faultOf rmL_faultOf [] (fun _ => 0)) : JW K (0, 0) [] (fun _ => 0) μ0 0 [(0, .long (13847443539110705 : Int64)), (2, .long (0 : Int64))] [] := by
  have hN_4 : 4 < kN K := by rw [hN]; decide
  have hN_5 : 5 < kN K := by rw [hN]; decide
  have hN_6 : 6 < kN K := by rw [hN]; decide
  refine jw_mkX (rest := []) C G.2.2.2.2.1 (List.mem_of_getElem? (i := 1) rfl) (List.mem_of_getElem? (i := 2) rfl) (List.mem_of_getElem? (i := 3) rfl) iwL_faultOf gL_faultOf_X5_init (List.mem_of_getElem? (i := 4) rfl) (List.mem_of_getElem? (i := 5) rfl) (Nat.le_of_ble_eq_true rfl) (Nat.le_of_ble_eq_true rfl) (Nat.le_of_ble_eq_true rfl) (Nat.le_of_ble_eq_true rfl) (by decide) dL_faultOf_0 rfl dL_faultOf_3 rfl dL_faultOf_4 (fun ad μ C hF _ => ?_)
  refine jw_astore (lw := [(4, .ref _), (0, .long _), (2, .long _)]) C dL_faultOf_7 hN_4 rfl ?_
  refine jw_lload_n C dL_faultOf_9 rfl 1 rfl ?_
  refine jw_lconst C dL_faultOf_10 (v := 0) rfl ?_
  refine jw_lcmp C dL_faultOf_11 ?_
  refine jw_if_eq C 24 dL_faultOf_12 (by decide) (fun c => absurd c (by decide +kernel)) (fun _ => ?_)
  refine jw_aload C dL_faultOf_15 0 rfl ?_
  refine jw_lload_n C dL_faultOf_17 rfl 1 rfl ?_
  refine jx_put C XT hF trivial F00_ok fa11_E1 gL_faultOf_X5_put (Nat.le_of_ble_eq_true rfl) (Nat.le_of_ble_eq_true rfl) ⟨Nat.le_of_ble_eq_true rfl, Nat.le_of_ble_eq_true rfl⟩ (Nat.le_of_ble_eq_true rfl) dL_faultOf_18 (fun μ hF _ => ?_)
  refine jw_if_lt C 39 dL_faultOf_21 (by decide) (fun c => absurd c (by decide)) (fun _ => ?_)
  refine jw_lload_n C dL_faultOf_24 rfl 2 rfl ?_
  refine jw_lconst C dL_faultOf_25 (v := 0) rfl ?_
  refine jw_lcmp C dL_faultOf_26 ?_
  refine jw_if_eq C 42 dL_faultOf_27 (by decide) (fun _ => ?_) (fun c => absurd (by decide +kernel) c)
  refine jw_aload C dL_faultOf_42 0 rfl ?_
  refine jx_fault C XT hF trivial fa11_O1 fa11_v0 gL_faultOf_X5_fault (Nat.le_of_ble_eq_true rfl) (Nat.le_of_ble_eq_true rfl) ⟨Nat.le_of_ble_eq_true rfl, Nat.le_of_ble_eq_true rfl⟩ (Nat.le_of_ble_eq_true rfl) dL_faultOf_44 (fun μ hF _ => ?_)
  refine jw_istore (lw := [(5, .int _), (4, .ref _), (0, .long _), (2, .long _)]) C dL_faultOf_47 hN_5 rfl ?_
  refine jw_aload C dL_faultOf_49 1 rfl ?_
  refine jw_bipush (v := 6) C dL_faultOf_51 (by decide) ?_
  refine jx_count C XT hF trivial fa11_O1 fa11_v1 gL_faultOf_X5_count (Nat.le_of_ble_eq_true rfl) (Nat.le_of_ble_eq_true rfl) ⟨Nat.le_of_ble_eq_true rfl, Nat.le_of_ble_eq_true rfl⟩ (Nat.le_of_ble_eq_true rfl) dL_faultOf_53 (fun μ hF _ => ?_)
  refine jw_istore (lw := [(6, .int _), (5, .int _), (4, .ref _), (0, .long _), (2, .long _)]) C dL_faultOf_56 hN_6 rfl ?_
  refine jw_iload C dL_faultOf_58 1 rfl ?_
  refine jw_bipush (v := (-6)) C dL_faultOf_60 (by decide) ?_
  refine jw_icmp_eq C 105 dL_faultOf_62 (by decide) (fun _ => ?_) (fun c => absurd (by decide) c)
  refine jw_aload C dL_faultOf_105 2 rfl ?_
  refine jx_carry C XT hF trivial fa11_O1 fa11_E2 gL_faultOf_X5_carryOut (Nat.le_of_ble_eq_true rfl) (Nat.le_of_ble_eq_true rfl) ⟨Nat.le_of_ble_eq_true rfl, Nat.le_of_ble_eq_true rfl⟩ (Nat.le_of_ble_eq_true rfl) dL_faultOf_107 (fun μ hF _ => ?_)
  have hF := fa11_R2 hF
  refine jw_if_le C 147 dL_faultOf_110 (by decide) (fun c => absurd c (by decide)) (fun _ => ?_)
  refine jw_aload C dL_faultOf_113 2 rfl ?_
  refine jw_bipush (v := 6) C dL_faultOf_115 (by decide) ?_
  refine jx_count C XT hF trivial fa11_O2 fa11_v2 gL_faultOf_X5_count (Nat.le_of_ble_eq_true rfl) (Nat.le_of_ble_eq_true rfl) ⟨Nat.le_of_ble_eq_true rfl, Nat.le_of_ble_eq_true rfl⟩ (Nat.le_of_ble_eq_true rfl) dL_faultOf_117 (fun μ hF _ => ?_)
  refine jw_if_ne C 147 dL_faultOf_120 (by decide) (fun c => absurd (by decide) c) (fun _ => ?_)
  refine jw_aload C dL_faultOf_123 2 rfl ?_
  refine jw_bipush (v := 7) C dL_faultOf_125 (by decide) ?_
  refine jx_count C XT hF trivial fa11_O2 fa11_v3 gL_faultOf_X5_count (Nat.le_of_ble_eq_true rfl) (Nat.le_of_ble_eq_true rfl) ⟨Nat.le_of_ble_eq_true rfl, Nat.le_of_ble_eq_true rfl⟩ (Nat.le_of_ble_eq_true rfl) dL_faultOf_127 (fun μ hF _ => ?_)
  refine jw_iconst (v := 1) C dL_faultOf_130 (by decide) ?_
  refine jw_icmp_ne C 147 dL_faultOf_131 (by decide) (fun c => absurd (by decide) c) (fun _ => ?_)
  refine jw_aload C dL_faultOf_134 2 rfl ?_
  refine jx_fault C XT hF trivial fa11_O2 fa11_v4 gL_faultOf_X5_fault (Nat.le_of_ble_eq_true rfl) (Nat.le_of_ble_eq_true rfl) ⟨Nat.le_of_ble_eq_true rfl, Nat.le_of_ble_eq_true rfl⟩ (Nat.le_of_ble_eq_true rfl) dL_faultOf_136 (fun μ hF _ => ?_)
  refine jw_if_ne C 147 dL_faultOf_139 (by decide) (fun c => absurd (by decide) c) (fun _ => ?_)
  refine jw_iload C dL_faultOf_142 1 rfl ?_
  refine jw_goto (tgt := 149) C dL_faultOf_144 (by decide) ?_
  exact jw_fret G rfl rfl (Nat.le_of_ble_eq_true rfl) (Nat.le_of_ble_eq_true rfl) dL_faultOf_149
theorem cf11 (l : Launch) : ConF l yL_faultOf wsL_faultOf rmL_faultOf EX5 [.long 13847443539110705, .long 0] (fun v => v = some (.int (-6 : Int32))) 88 3874 := ConF.mk (cc := cL_faultOf) (maxL := 7) (ret := (some .int)) (own := RL) (by decide) rfl rfl (Nat.le_of_ble_eq_true rfl) (fun K hN G => cf11_S0 hN G G.1)
set_option maxRecDepth 100000 in
set_option maxHeartbeats 4000000 in
theorem cf12_S0 {K : KT} {l : Launch} (hN : kN K = 7) (G : CtxF K l cL_faultOf RL wsL_faultOf rmL_faultOf EX5 (some .int) (fun v => v = some (.int (-6 : Int32))) 88 3874) (C : Ctx K l cL_faultOf RL wsL_faultOf rmL_faultOf [] (fun _ => 0)) : JW K (0, 0) [] (fun _ => 0) μ0 0 [(0, .long (3290744 : Int64)), (2, .long (0 : Int64))] [] := by
  have hN_4 : 4 < kN K := by rw [hN]; decide
  have hN_5 : 5 < kN K := by rw [hN]; decide
  have hN_6 : 6 < kN K := by rw [hN]; decide
  refine jw_mkX (rest := []) C G.2.2.2.2.1 (List.mem_of_getElem? (i := 1) rfl) (List.mem_of_getElem? (i := 2) rfl) (List.mem_of_getElem? (i := 3) rfl) iwL_faultOf gL_faultOf_X5_init (List.mem_of_getElem? (i := 4) rfl) (List.mem_of_getElem? (i := 5) rfl) (Nat.le_of_ble_eq_true rfl) (Nat.le_of_ble_eq_true rfl) (Nat.le_of_ble_eq_true rfl) (Nat.le_of_ble_eq_true rfl) (by decide) dL_faultOf_0 rfl dL_faultOf_3 rfl dL_faultOf_4 (fun ad μ C hF _ => ?_)
  refine jw_astore (lw := [(4, .ref _), (0, .long _), (2, .long _)]) C dL_faultOf_7 hN_4 rfl ?_
  refine jw_lload_n C dL_faultOf_9 rfl 1 rfl ?_
  refine jw_lconst C dL_faultOf_10 (v := 0) rfl ?_
  refine jw_lcmp C dL_faultOf_11 ?_
  refine jw_if_eq C 24 dL_faultOf_12 (by decide) (fun c => absurd c (by decide +kernel)) (fun _ => ?_)
  refine jw_aload C dL_faultOf_15 0 rfl ?_
  refine jw_lload_n C dL_faultOf_17 rfl 1 rfl ?_
  refine jx_put C XT hF trivial F00_ok fa12_E1 gL_faultOf_X5_put (Nat.le_of_ble_eq_true rfl) (Nat.le_of_ble_eq_true rfl) ⟨Nat.le_of_ble_eq_true rfl, Nat.le_of_ble_eq_true rfl⟩ (Nat.le_of_ble_eq_true rfl) dL_faultOf_18 (fun μ hF _ => ?_)
  refine jw_if_lt C 39 dL_faultOf_21 (by decide) (fun c => absurd c (by decide)) (fun _ => ?_)
  refine jw_lload_n C dL_faultOf_24 rfl 2 rfl ?_
  refine jw_lconst C dL_faultOf_25 (v := 0) rfl ?_
  refine jw_lcmp C dL_faultOf_26 ?_
  refine jw_if_eq C 42 dL_faultOf_27 (by decide) (fun _ => ?_) (fun c => absurd (by decide +kernel) c)
  refine jw_aload C dL_faultOf_42 0 rfl ?_
  refine jx_fault C XT hF trivial fa12_O1 fa12_v0 gL_faultOf_X5_fault (Nat.le_of_ble_eq_true rfl) (Nat.le_of_ble_eq_true rfl) ⟨Nat.le_of_ble_eq_true rfl, Nat.le_of_ble_eq_true rfl⟩ (Nat.le_of_ble_eq_true rfl) dL_faultOf_44 (fun μ hF _ => ?_)
  refine jw_istore (lw := [(5, .int _), (4, .ref _), (0, .long _), (2, .long _)]) C dL_faultOf_47 hN_5 rfl ?_
  refine jw_aload C dL_faultOf_49 1 rfl ?_
  refine jw_bipush (v := 6) C dL_faultOf_51 (by decide) ?_
  refine jx_count C XT hF trivial fa12_O1 fa12_v1 gL_faultOf_X5_count (Nat.le_of_ble_eq_true rfl) (Nat.le_of_ble_eq_true rfl) ⟨Nat.le_of_ble_eq_true rfl, Nat.le_of_ble_eq_true rfl⟩ (Nat.le_of_ble_eq_true rfl) dL_faultOf_53 (fun μ hF _ => ?_)
  refine jw_istore (lw := [(6, .int _), (5, .int _), (4, .ref _), (0, .long _), (2, .long _)]) C dL_faultOf_56 hN_6 rfl ?_
  refine jw_iload C dL_faultOf_58 1 rfl ?_
  refine jw_bipush (v := (-6)) C dL_faultOf_60 (by decide) ?_
  refine jw_icmp_eq C 105 dL_faultOf_62 (by decide) (fun _ => ?_) (fun c => absurd (by decide) c)
  refine jw_aload C dL_faultOf_105 2 rfl ?_
  refine jx_carry C XT hF trivial fa12_O1 fa12_E2 gL_faultOf_X5_carryOut (Nat.le_of_ble_eq_true rfl) (Nat.le_of_ble_eq_true rfl) ⟨Nat.le_of_ble_eq_true rfl, Nat.le_of_ble_eq_true rfl⟩ (Nat.le_of_ble_eq_true rfl) dL_faultOf_107 (fun μ hF _ => ?_)
  have hF := fa12_R2 hF
  refine jw_if_le C 147 dL_faultOf_110 (by decide) (fun c => absurd c (by decide)) (fun _ => ?_)
  refine jw_aload C dL_faultOf_113 2 rfl ?_
  refine jw_bipush (v := 6) C dL_faultOf_115 (by decide) ?_
  refine jx_count C XT hF trivial fa12_O2 fa12_v2 gL_faultOf_X5_count (Nat.le_of_ble_eq_true rfl) (Nat.le_of_ble_eq_true rfl) ⟨Nat.le_of_ble_eq_true rfl, Nat.le_of_ble_eq_true rfl⟩ (Nat.le_of_ble_eq_true rfl) dL_faultOf_117 (fun μ hF _ => ?_)
  refine jw_if_ne C 147 dL_faultOf_120 (by decide) (fun c => absurd (by decide) c) (fun _ => ?_)
  refine jw_aload C dL_faultOf_123 2 rfl ?_
  refine jw_bipush (v := 7) C dL_faultOf_125 (by decide) ?_
  refine jx_count C XT hF trivial fa12_O2 fa12_v3 gL_faultOf_X5_count (Nat.le_of_ble_eq_true rfl) (Nat.le_of_ble_eq_true rfl) ⟨Nat.le_of_ble_eq_true rfl, Nat.le_of_ble_eq_true rfl⟩ (Nat.le_of_ble_eq_true rfl) dL_faultOf_127 (fun μ hF _ => ?_)
  refine jw_iconst (v := 1) C dL_faultOf_130 (by decide) ?_
  refine jw_icmp_ne C 147 dL_faultOf_131 (by decide) (fun c => absurd (by decide) c) (fun _ => ?_)
  refine jw_aload C dL_faultOf_134 2 rfl ?_
  refine jx_fault C XT hF trivial fa12_O2 fa12_v4 gL_faultOf_X5_fault (Nat.le_of_ble_eq_true rfl) (Nat.le_of_ble_eq_true rfl) ⟨Nat.le_of_ble_eq_true rfl, Nat.le_of_ble_eq_true rfl⟩ (Nat.le_of_ble_eq_true rfl) dL_faultOf_136 (fun μ hF _ => ?_)
  refine jw_if_ne C 147 dL_faultOf_139 (by decide) (fun c => absurd (by decide) c) (fun _ => ?_)
  refine jw_iload C dL_faultOf_142 1 rfl ?_
  refine jw_goto (tgt := 149) C dL_faultOf_144 (by decide) ?_
  exact jw_fret G rfl rfl (Nat.le_of_ble_eq_true rfl) (Nat.le_of_ble_eq_true rfl) dL_faultOf_149
theorem cf12 (l : Launch) : ConF l yL_faultOf wsL_faultOf rmL_faultOf EX5 [.long 3290744, .long 0] (fun v => v = some (.int (-6 : Int32))) 88 3874 := ConF.mk (cc := cL_faultOf) (maxL := 7) (ret := (some .int)) (own := RL) (by decide) rfl rfl (Nat.le_of_ble_eq_true rfl) (fun K hN G => cf12_S0 hN G G.1)
set_option maxRecDepth 100000 in
set_option maxHeartbeats 4000000 in
theorem cf13_S0 {K : KT} {l : Launch} (hN : kN K = 7) (G : CtxF K l cL_faultOf RL wsL_faultOf rmL_faultOf EX5 (some .int) (fun v => v = some (.int (1 : Int32))) 88 3874) (C : Ctx K l cL_faultOf RL wsL_faultOf rmL_faultOf [] (fun _ => 0)) : JW K (0, 0) [] (fun _ => 0) μ0 0 [(0, .long (13689 : Int64)), (2, .long (0 : Int64))] [] := by
  have hN_4 : 4 < kN K := by rw [hN]; decide
  have hN_5 : 5 < kN K := by rw [hN]; decide
  have hN_6 : 6 < kN K := by rw [hN]; decide
  refine jw_mkX (rest := []) C G.2.2.2.2.1 (List.mem_of_getElem? (i := 1) rfl) (List.mem_of_getElem? (i := 2) rfl) (List.mem_of_getElem? (i := 3) rfl) iwL_faultOf gL_faultOf_X5_init (List.mem_of_getElem? (i := 4) rfl) (List.mem_of_getElem? (i := 5) rfl) (Nat.le_of_ble_eq_true rfl) (Nat.le_of_ble_eq_true rfl) (Nat.le_of_ble_eq_true rfl) (Nat.le_of_ble_eq_true rfl) (by decide) dL_faultOf_0 rfl dL_faultOf_3 rfl dL_faultOf_4 (fun ad μ C hF _ => ?_)
  refine jw_astore (lw := [(4, .ref _), (0, .long _), (2, .long _)]) C dL_faultOf_7 hN_4 rfl ?_
  refine jw_lload_n C dL_faultOf_9 rfl 1 rfl ?_
  refine jw_lconst C dL_faultOf_10 (v := 0) rfl ?_
  refine jw_lcmp C dL_faultOf_11 ?_
  refine jw_if_eq C 24 dL_faultOf_12 (by decide) (fun c => absurd c (by decide +kernel)) (fun _ => ?_)
  refine jw_aload C dL_faultOf_15 0 rfl ?_
  refine jw_lload_n C dL_faultOf_17 rfl 1 rfl ?_
  refine jx_put C XT hF trivial F00_ok fa13_E1 gL_faultOf_X5_put (Nat.le_of_ble_eq_true rfl) (Nat.le_of_ble_eq_true rfl) ⟨Nat.le_of_ble_eq_true rfl, Nat.le_of_ble_eq_true rfl⟩ (Nat.le_of_ble_eq_true rfl) dL_faultOf_18 (fun μ hF _ => ?_)
  refine jw_if_lt C 39 dL_faultOf_21 (by decide) (fun c => absurd c (by decide)) (fun _ => ?_)
  refine jw_lload_n C dL_faultOf_24 rfl 2 rfl ?_
  refine jw_lconst C dL_faultOf_25 (v := 0) rfl ?_
  refine jw_lcmp C dL_faultOf_26 ?_
  refine jw_if_eq C 42 dL_faultOf_27 (by decide) (fun _ => ?_) (fun c => absurd (by decide +kernel) c)
  refine jw_aload C dL_faultOf_42 0 rfl ?_
  refine jx_fault C XT hF trivial fa13_O1 fa13_v0 gL_faultOf_X5_fault (Nat.le_of_ble_eq_true rfl) (Nat.le_of_ble_eq_true rfl) ⟨Nat.le_of_ble_eq_true rfl, Nat.le_of_ble_eq_true rfl⟩ (Nat.le_of_ble_eq_true rfl) dL_faultOf_44 (fun μ hF _ => ?_)
  refine jw_istore (lw := [(5, .int _), (4, .ref _), (0, .long _), (2, .long _)]) C dL_faultOf_47 hN_5 rfl ?_
  refine jw_aload C dL_faultOf_49 1 rfl ?_
  refine jw_bipush (v := 6) C dL_faultOf_51 (by decide) ?_
  refine jx_count C XT hF trivial fa13_O1 fa13_v1 gL_faultOf_X5_count (Nat.le_of_ble_eq_true rfl) (Nat.le_of_ble_eq_true rfl) ⟨Nat.le_of_ble_eq_true rfl, Nat.le_of_ble_eq_true rfl⟩ (Nat.le_of_ble_eq_true rfl) dL_faultOf_53 (fun μ hF _ => ?_)
  refine jw_istore (lw := [(6, .int _), (5, .int _), (4, .ref _), (0, .long _), (2, .long _)]) C dL_faultOf_56 hN_6 rfl ?_
  refine jw_iload C dL_faultOf_58 1 rfl ?_
  refine jw_bipush (v := (-6)) C dL_faultOf_60 (by decide) ?_
  refine jw_icmp_eq C 105 dL_faultOf_62 (by decide) (fun c => absurd c (by decide)) (fun _ => ?_)
  refine jw_aload C dL_faultOf_65 2 rfl ?_
  refine jx_carry C XT hF trivial fa13_O1 fa13_z2 gL_faultOf_X5_carryOut (Nat.le_of_ble_eq_true rfl) (Nat.le_of_ble_eq_true rfl) ⟨Nat.le_of_ble_eq_true rfl, Nat.le_of_ble_eq_true rfl⟩ (Nat.le_of_ble_eq_true rfl) dL_faultOf_67 (fun μ hF _ => ?_)
  refine jw_bipush (v := (-3)) C dL_faultOf_70 (by decide) ?_
  refine jw_icmp_ne C 102 dL_faultOf_72 (by decide) (fun c => absurd (by decide) c) (fun _ => ?_)
  refine jw_aload C dL_faultOf_75 2 rfl ?_
  refine jw_bipush (v := 6) C dL_faultOf_77 (by decide) ?_
  refine jx_count C XT hF trivial fa13_O1 fa13_v1 gL_faultOf_X5_count (Nat.le_of_ble_eq_true rfl) (Nat.le_of_ble_eq_true rfl) ⟨Nat.le_of_ble_eq_true rfl, Nat.le_of_ble_eq_true rfl⟩ (Nat.le_of_ble_eq_true rfl) dL_faultOf_79 (fun μ hF _ => ?_)
  refine jw_iload C dL_faultOf_82 0 rfl ?_
  refine jw_icmp_ne C 102 dL_faultOf_84 (by decide) (fun c => absurd (by decide) c) (fun _ => ?_)
  refine jw_aload C dL_faultOf_87 2 rfl ?_
  refine jw_bipush (v := 7) C dL_faultOf_89 (by decide) ?_
  refine jx_count C XT hF trivial fa13_O1 fa13_v3 gL_faultOf_X5_count (Nat.le_of_ble_eq_true rfl) (Nat.le_of_ble_eq_true rfl) ⟨Nat.le_of_ble_eq_true rfl, Nat.le_of_ble_eq_true rfl⟩ (Nat.le_of_ble_eq_true rfl) dL_faultOf_91 (fun μ hF _ => ?_)
  refine jw_if_ne C 102 dL_faultOf_94 (by decide) (fun c => absurd (by decide) c) (fun _ => ?_)
  refine jw_iload C dL_faultOf_97 1 rfl ?_
  refine jw_goto (tgt := 104) C dL_faultOf_99 (by decide) ?_
  exact jw_fret G rfl rfl (Nat.le_of_ble_eq_true rfl) (Nat.le_of_ble_eq_true rfl) dL_faultOf_104
theorem cf13 (l : Launch) : ConF l yL_faultOf wsL_faultOf rmL_faultOf EX5 [.long 13689, .long 0] (fun v => v = some (.int (1 : Int32))) 88 3874 := ConF.mk (cc := cL_faultOf) (maxL := 7) (ret := (some .int)) (own := RL) (by decide) rfl rfl (Nat.le_of_ble_eq_true rfl) (fun K hN G => cf13_S0 hN G G.1)
set_option maxRecDepth 100000 in
set_option maxHeartbeats 4000000 in
theorem cf14_S0 {K : KT} {l : Launch} (hN : kN K = 7) (G : CtxF K l cL_faultOf RL wsL_faultOf rmL_faultOf EX5 (some .int) (fun v => v = some (.int (4 : Int32))) 88 3874) (C : Ctx K l cL_faultOf RL wsL_faultOf rmL_faultOf [] (fun _ => 0)) : JW K (0, 0) [] (fun _ => 0) μ0 0 [(0, .long (893202747 : Int64)), (2, .long (0 : Int64))] [] := by
  have hN_4 : 4 < kN K := by rw [hN]; decide
  have hN_5 : 5 < kN K := by rw [hN]; decide
  have hN_6 : 6 < kN K := by rw [hN]; decide
  refine jw_mkX (rest := []) C G.2.2.2.2.1 (List.mem_of_getElem? (i := 1) rfl) (List.mem_of_getElem? (i := 2) rfl) (List.mem_of_getElem? (i := 3) rfl) iwL_faultOf gL_faultOf_X5_init (List.mem_of_getElem? (i := 4) rfl) (List.mem_of_getElem? (i := 5) rfl) (Nat.le_of_ble_eq_true rfl) (Nat.le_of_ble_eq_true rfl) (Nat.le_of_ble_eq_true rfl) (Nat.le_of_ble_eq_true rfl) (by decide) dL_faultOf_0 rfl dL_faultOf_3 rfl dL_faultOf_4 (fun ad μ C hF _ => ?_)
  refine jw_astore (lw := [(4, .ref _), (0, .long _), (2, .long _)]) C dL_faultOf_7 hN_4 rfl ?_
  refine jw_lload_n C dL_faultOf_9 rfl 1 rfl ?_
  refine jw_lconst C dL_faultOf_10 (v := 0) rfl ?_
  refine jw_lcmp C dL_faultOf_11 ?_
  refine jw_if_eq C 24 dL_faultOf_12 (by decide) (fun c => absurd c (by decide +kernel)) (fun _ => ?_)
  refine jw_aload C dL_faultOf_15 0 rfl ?_
  refine jw_lload_n C dL_faultOf_17 rfl 1 rfl ?_
  refine jx_put C XT hF trivial F00_ok fa14_E1 gL_faultOf_X5_put (Nat.le_of_ble_eq_true rfl) (Nat.le_of_ble_eq_true rfl) ⟨Nat.le_of_ble_eq_true rfl, Nat.le_of_ble_eq_true rfl⟩ (Nat.le_of_ble_eq_true rfl) dL_faultOf_18 (fun μ hF _ => ?_)
  refine jw_if_lt C 39 dL_faultOf_21 (by decide) (fun c => absurd c (by decide)) (fun _ => ?_)
  refine jw_lload_n C dL_faultOf_24 rfl 2 rfl ?_
  refine jw_lconst C dL_faultOf_25 (v := 0) rfl ?_
  refine jw_lcmp C dL_faultOf_26 ?_
  refine jw_if_eq C 42 dL_faultOf_27 (by decide) (fun _ => ?_) (fun c => absurd (by decide +kernel) c)
  refine jw_aload C dL_faultOf_42 0 rfl ?_
  refine jx_fault C XT hF trivial fa14_O1 fa14_v0 gL_faultOf_X5_fault (Nat.le_of_ble_eq_true rfl) (Nat.le_of_ble_eq_true rfl) ⟨Nat.le_of_ble_eq_true rfl, Nat.le_of_ble_eq_true rfl⟩ (Nat.le_of_ble_eq_true rfl) dL_faultOf_44 (fun μ hF _ => ?_)
  refine jw_istore (lw := [(5, .int _), (4, .ref _), (0, .long _), (2, .long _)]) C dL_faultOf_47 hN_5 rfl ?_
  refine jw_aload C dL_faultOf_49 1 rfl ?_
  refine jw_bipush (v := 6) C dL_faultOf_51 (by decide) ?_
  refine jx_count C XT hF trivial fa14_O1 fa14_v1 gL_faultOf_X5_count (Nat.le_of_ble_eq_true rfl) (Nat.le_of_ble_eq_true rfl) ⟨Nat.le_of_ble_eq_true rfl, Nat.le_of_ble_eq_true rfl⟩ (Nat.le_of_ble_eq_true rfl) dL_faultOf_53 (fun μ hF _ => ?_)
  refine jw_istore (lw := [(6, .int _), (5, .int _), (4, .ref _), (0, .long _), (2, .long _)]) C dL_faultOf_56 hN_6 rfl ?_
  refine jw_iload C dL_faultOf_58 1 rfl ?_
  refine jw_bipush (v := (-6)) C dL_faultOf_60 (by decide) ?_
  refine jw_icmp_eq C 105 dL_faultOf_62 (by decide) (fun c => absurd c (by decide)) (fun _ => ?_)
  refine jw_aload C dL_faultOf_65 2 rfl ?_
  refine jx_carry C XT hF trivial fa14_O1 fa14_z2 gL_faultOf_X5_carryOut (Nat.le_of_ble_eq_true rfl) (Nat.le_of_ble_eq_true rfl) ⟨Nat.le_of_ble_eq_true rfl, Nat.le_of_ble_eq_true rfl⟩ (Nat.le_of_ble_eq_true rfl) dL_faultOf_67 (fun μ hF _ => ?_)
  refine jw_bipush (v := (-3)) C dL_faultOf_70 (by decide) ?_
  refine jw_icmp_ne C 102 dL_faultOf_72 (by decide) (fun c => absurd (by decide) c) (fun _ => ?_)
  refine jw_aload C dL_faultOf_75 2 rfl ?_
  refine jw_bipush (v := 6) C dL_faultOf_77 (by decide) ?_
  refine jx_count C XT hF trivial fa14_O1 fa14_v1 gL_faultOf_X5_count (Nat.le_of_ble_eq_true rfl) (Nat.le_of_ble_eq_true rfl) ⟨Nat.le_of_ble_eq_true rfl, Nat.le_of_ble_eq_true rfl⟩ (Nat.le_of_ble_eq_true rfl) dL_faultOf_79 (fun μ hF _ => ?_)
  refine jw_iload C dL_faultOf_82 0 rfl ?_
  refine jw_icmp_ne C 102 dL_faultOf_84 (by decide) (fun c => absurd (by decide) c) (fun _ => ?_)
  refine jw_aload C dL_faultOf_87 2 rfl ?_
  refine jw_bipush (v := 7) C dL_faultOf_89 (by decide) ?_
  refine jx_count C XT hF trivial fa14_O1 fa14_v3 gL_faultOf_X5_count (Nat.le_of_ble_eq_true rfl) (Nat.le_of_ble_eq_true rfl) ⟨Nat.le_of_ble_eq_true rfl, Nat.le_of_ble_eq_true rfl⟩ (Nat.le_of_ble_eq_true rfl) dL_faultOf_91 (fun μ hF _ => ?_)
  refine jw_if_ne C 102 dL_faultOf_94 (by decide) (fun c => absurd (by decide) c) (fun _ => ?_)
  refine jw_iload C dL_faultOf_97 1 rfl ?_
  refine jw_goto (tgt := 104) C dL_faultOf_99 (by decide) ?_
  exact jw_fret G rfl rfl (Nat.le_of_ble_eq_true rfl) (Nat.le_of_ble_eq_true rfl) dL_faultOf_104
theorem cf14 (l : Launch) : ConF l yL_faultOf wsL_faultOf rmL_faultOf EX5 [.long 893202747, .long 0] (fun v => v = some (.int (4 : Int32))) 88 3874 := ConF.mk (cc := cL_faultOf) (maxL := 7) (ret := (some .int)) (own := RL) (by decide) rfl rfl (Nat.le_of_ble_eq_true rfl) (fun K hN G => cf14_S0 hN G G.1)
set_option maxRecDepth 100000 in
set_option maxHeartbeats 4000000 in
theorem cf15_S0 {K : KT} {l : Launch} (hN : kN K = 7) (G : CtxF K l cL_faultOf RL wsL_faultOf rmL_faultOf EX5 (some .int) (fun v => v = some (.int (4 : Int32))) 88 3874) (C : Ctx K l cL_faultOf RL wsL_faultOf rmL_faultOf [] (fun _ => 0)) : JW K (0, 0) [] (fun _ => 0) μ0 0 [(0, .long (228659903291 : Int64)), (2, .long (0 : Int64))] [] := by
  have hN_4 : 4 < kN K := by rw [hN]; decide
  have hN_5 : 5 < kN K := by rw [hN]; decide
  have hN_6 : 6 < kN K := by rw [hN]; decide
  refine jw_mkX (rest := []) C G.2.2.2.2.1 (List.mem_of_getElem? (i := 1) rfl) (List.mem_of_getElem? (i := 2) rfl) (List.mem_of_getElem? (i := 3) rfl) iwL_faultOf gL_faultOf_X5_init (List.mem_of_getElem? (i := 4) rfl) (List.mem_of_getElem? (i := 5) rfl) (Nat.le_of_ble_eq_true rfl) (Nat.le_of_ble_eq_true rfl) (Nat.le_of_ble_eq_true rfl) (Nat.le_of_ble_eq_true rfl) (by decide) dL_faultOf_0 rfl dL_faultOf_3 rfl dL_faultOf_4 (fun ad μ C hF _ => ?_)
  refine jw_astore (lw := [(4, .ref _), (0, .long _), (2, .long _)]) C dL_faultOf_7 hN_4 rfl ?_
  refine jw_lload_n C dL_faultOf_9 rfl 1 rfl ?_
  refine jw_lconst C dL_faultOf_10 (v := 0) rfl ?_
  refine jw_lcmp C dL_faultOf_11 ?_
  refine jw_if_eq C 24 dL_faultOf_12 (by decide) (fun c => absurd c (by decide +kernel)) (fun _ => ?_)
  refine jw_aload C dL_faultOf_15 0 rfl ?_
  refine jw_lload_n C dL_faultOf_17 rfl 1 rfl ?_
  refine jx_put C XT hF trivial F00_ok fa15_E1 gL_faultOf_X5_put (Nat.le_of_ble_eq_true rfl) (Nat.le_of_ble_eq_true rfl) ⟨Nat.le_of_ble_eq_true rfl, Nat.le_of_ble_eq_true rfl⟩ (Nat.le_of_ble_eq_true rfl) dL_faultOf_18 (fun μ hF _ => ?_)
  refine jw_if_lt C 39 dL_faultOf_21 (by decide) (fun c => absurd c (by decide)) (fun _ => ?_)
  refine jw_lload_n C dL_faultOf_24 rfl 2 rfl ?_
  refine jw_lconst C dL_faultOf_25 (v := 0) rfl ?_
  refine jw_lcmp C dL_faultOf_26 ?_
  refine jw_if_eq C 42 dL_faultOf_27 (by decide) (fun _ => ?_) (fun c => absurd (by decide +kernel) c)
  refine jw_aload C dL_faultOf_42 0 rfl ?_
  refine jx_fault C XT hF trivial fa15_O1 fa15_v0 gL_faultOf_X5_fault (Nat.le_of_ble_eq_true rfl) (Nat.le_of_ble_eq_true rfl) ⟨Nat.le_of_ble_eq_true rfl, Nat.le_of_ble_eq_true rfl⟩ (Nat.le_of_ble_eq_true rfl) dL_faultOf_44 (fun μ hF _ => ?_)
  refine jw_istore (lw := [(5, .int _), (4, .ref _), (0, .long _), (2, .long _)]) C dL_faultOf_47 hN_5 rfl ?_
  refine jw_aload C dL_faultOf_49 1 rfl ?_
  refine jw_bipush (v := 6) C dL_faultOf_51 (by decide) ?_
  refine jx_count C XT hF trivial fa15_O1 fa15_v1 gL_faultOf_X5_count (Nat.le_of_ble_eq_true rfl) (Nat.le_of_ble_eq_true rfl) ⟨Nat.le_of_ble_eq_true rfl, Nat.le_of_ble_eq_true rfl⟩ (Nat.le_of_ble_eq_true rfl) dL_faultOf_53 (fun μ hF _ => ?_)
  refine jw_istore (lw := [(6, .int _), (5, .int _), (4, .ref _), (0, .long _), (2, .long _)]) C dL_faultOf_56 hN_6 rfl ?_
  refine jw_iload C dL_faultOf_58 1 rfl ?_
  refine jw_bipush (v := (-6)) C dL_faultOf_60 (by decide) ?_
  refine jw_icmp_eq C 105 dL_faultOf_62 (by decide) (fun c => absurd c (by decide)) (fun _ => ?_)
  refine jw_aload C dL_faultOf_65 2 rfl ?_
  refine jx_carry C XT hF trivial fa15_O1 fa15_z2 gL_faultOf_X5_carryOut (Nat.le_of_ble_eq_true rfl) (Nat.le_of_ble_eq_true rfl) ⟨Nat.le_of_ble_eq_true rfl, Nat.le_of_ble_eq_true rfl⟩ (Nat.le_of_ble_eq_true rfl) dL_faultOf_67 (fun μ hF _ => ?_)
  refine jw_bipush (v := (-3)) C dL_faultOf_70 (by decide) ?_
  refine jw_icmp_ne C 102 dL_faultOf_72 (by decide) (fun c => absurd (by decide) c) (fun _ => ?_)
  refine jw_aload C dL_faultOf_75 2 rfl ?_
  refine jw_bipush (v := 6) C dL_faultOf_77 (by decide) ?_
  refine jx_count C XT hF trivial fa15_O1 fa15_v1 gL_faultOf_X5_count (Nat.le_of_ble_eq_true rfl) (Nat.le_of_ble_eq_true rfl) ⟨Nat.le_of_ble_eq_true rfl, Nat.le_of_ble_eq_true rfl⟩ (Nat.le_of_ble_eq_true rfl) dL_faultOf_79 (fun μ hF _ => ?_)
  refine jw_iload C dL_faultOf_82 0 rfl ?_
  refine jw_icmp_ne C 102 dL_faultOf_84 (by decide) (fun c => absurd (by decide) c) (fun _ => ?_)
  refine jw_aload C dL_faultOf_87 2 rfl ?_
  refine jw_bipush (v := 7) C dL_faultOf_89 (by decide) ?_
  refine jx_count C XT hF trivial fa15_O1 fa15_v3 gL_faultOf_X5_count (Nat.le_of_ble_eq_true rfl) (Nat.le_of_ble_eq_true rfl) ⟨Nat.le_of_ble_eq_true rfl, Nat.le_of_ble_eq_true rfl⟩ (Nat.le_of_ble_eq_true rfl) dL_faultOf_91 (fun μ hF _ => ?_)
  refine jw_if_ne C 102 dL_faultOf_94 (by decide) (fun c => absurd (by decide) c) (fun _ => ?_)
  refine jw_iload C dL_faultOf_97 1 rfl ?_
  refine jw_goto (tgt := 104) C dL_faultOf_99 (by decide) ?_
  exact jw_fret G rfl rfl (Nat.le_of_ble_eq_true rfl) (Nat.le_of_ble_eq_true rfl) dL_faultOf_104
theorem cf15 (l : Launch) : ConF l yL_faultOf wsL_faultOf rmL_faultOf EX5 [.long 228659903291, .long 0] (fun v => v = some (.int (4 : Int32))) 88 3874 := ConF.mk (cc := cL_faultOf) (maxL := 7) (ret := (some .int)) (own := RL) (by decide) rfl rfl (Nat.le_of_ble_eq_true rfl) (fun K hN G => cf15_S0 hN G G.1)
set_option maxRecDepth 100000 in
set_option maxHeartbeats 4000000 in
theorem cf16_S0 {K : KT} {l : Launch} (hN : kN K = 7) (G : CtxF K l cL_faultOf RL wsL_faultOf rmL_faultOf EX5 (some .int) (fun v => v = some (.int (2 : Int32))) 88 3874) (C : Ctx K l cL_faultOf RL wsL_faultOf rmL_faultOf [] (fun _ => 0)) : JW K (0, 0) [] (fun _ => 0) μ0 0 [(0, .long (13613 : Int64)), (2, .long (0 : Int64))] [] := by
  have hN_4 : 4 < kN K := by rw [hN]; decide
  have hN_5 : 5 < kN K := by rw [hN]; decide
  have hN_6 : 6 < kN K := by rw [hN]; decide
  refine jw_mkX (rest := []) C G.2.2.2.2.1 (List.mem_of_getElem? (i := 1) rfl) (List.mem_of_getElem? (i := 2) rfl) (List.mem_of_getElem? (i := 3) rfl) iwL_faultOf gL_faultOf_X5_init (List.mem_of_getElem? (i := 4) rfl) (List.mem_of_getElem? (i := 5) rfl) (Nat.le_of_ble_eq_true rfl) (Nat.le_of_ble_eq_true rfl) (Nat.le_of_ble_eq_true rfl) (Nat.le_of_ble_eq_true rfl) (by decide) dL_faultOf_0 rfl dL_faultOf_3 rfl dL_faultOf_4 (fun ad μ C hF _ => ?_)
  refine jw_astore (lw := [(4, .ref _), (0, .long _), (2, .long _)]) C dL_faultOf_7 hN_4 rfl ?_
  refine jw_lload_n C dL_faultOf_9 rfl 1 rfl ?_
  refine jw_lconst C dL_faultOf_10 (v := 0) rfl ?_
  refine jw_lcmp C dL_faultOf_11 ?_
  refine jw_if_eq C 24 dL_faultOf_12 (by decide) (fun c => absurd c (by decide +kernel)) (fun _ => ?_)
  refine jw_aload C dL_faultOf_15 0 rfl ?_
  refine jw_lload_n C dL_faultOf_17 rfl 1 rfl ?_
  refine jx_put C XT hF trivial F00_ok fa16_E1 gL_faultOf_X5_put (Nat.le_of_ble_eq_true rfl) (Nat.le_of_ble_eq_true rfl) ⟨Nat.le_of_ble_eq_true rfl, Nat.le_of_ble_eq_true rfl⟩ (Nat.le_of_ble_eq_true rfl) dL_faultOf_18 (fun μ hF _ => ?_)
  refine jw_if_lt C 39 dL_faultOf_21 (by decide) (fun c => absurd c (by decide)) (fun _ => ?_)
  refine jw_lload_n C dL_faultOf_24 rfl 2 rfl ?_
  refine jw_lconst C dL_faultOf_25 (v := 0) rfl ?_
  refine jw_lcmp C dL_faultOf_26 ?_
  refine jw_if_eq C 42 dL_faultOf_27 (by decide) (fun _ => ?_) (fun c => absurd (by decide +kernel) c)
  refine jw_aload C dL_faultOf_42 0 rfl ?_
  refine jx_fault C XT hF trivial fa16_O1 fa16_v0 gL_faultOf_X5_fault (Nat.le_of_ble_eq_true rfl) (Nat.le_of_ble_eq_true rfl) ⟨Nat.le_of_ble_eq_true rfl, Nat.le_of_ble_eq_true rfl⟩ (Nat.le_of_ble_eq_true rfl) dL_faultOf_44 (fun μ hF _ => ?_)
  refine jw_istore (lw := [(5, .int _), (4, .ref _), (0, .long _), (2, .long _)]) C dL_faultOf_47 hN_5 rfl ?_
  refine jw_aload C dL_faultOf_49 1 rfl ?_
  refine jw_bipush (v := 6) C dL_faultOf_51 (by decide) ?_
  refine jx_count C XT hF trivial fa16_O1 fa16_v1 gL_faultOf_X5_count (Nat.le_of_ble_eq_true rfl) (Nat.le_of_ble_eq_true rfl) ⟨Nat.le_of_ble_eq_true rfl, Nat.le_of_ble_eq_true rfl⟩ (Nat.le_of_ble_eq_true rfl) dL_faultOf_53 (fun μ hF _ => ?_)
  refine jw_istore (lw := [(6, .int _), (5, .int _), (4, .ref _), (0, .long _), (2, .long _)]) C dL_faultOf_56 hN_6 rfl ?_
  refine jw_iload C dL_faultOf_58 1 rfl ?_
  refine jw_bipush (v := (-6)) C dL_faultOf_60 (by decide) ?_
  refine jw_icmp_eq C 105 dL_faultOf_62 (by decide) (fun c => absurd c (by decide)) (fun _ => ?_)
  refine jw_aload C dL_faultOf_65 2 rfl ?_
  refine jx_carry C XT hF trivial fa16_O1 fa16_z2 gL_faultOf_X5_carryOut (Nat.le_of_ble_eq_true rfl) (Nat.le_of_ble_eq_true rfl) ⟨Nat.le_of_ble_eq_true rfl, Nat.le_of_ble_eq_true rfl⟩ (Nat.le_of_ble_eq_true rfl) dL_faultOf_67 (fun μ hF _ => ?_)
  refine jw_bipush (v := (-3)) C dL_faultOf_70 (by decide) ?_
  refine jw_icmp_ne C 102 dL_faultOf_72 (by decide) (fun c => absurd (by decide) c) (fun _ => ?_)
  refine jw_aload C dL_faultOf_75 2 rfl ?_
  refine jw_bipush (v := 6) C dL_faultOf_77 (by decide) ?_
  refine jx_count C XT hF trivial fa16_O1 fa16_v1 gL_faultOf_X5_count (Nat.le_of_ble_eq_true rfl) (Nat.le_of_ble_eq_true rfl) ⟨Nat.le_of_ble_eq_true rfl, Nat.le_of_ble_eq_true rfl⟩ (Nat.le_of_ble_eq_true rfl) dL_faultOf_79 (fun μ hF _ => ?_)
  refine jw_iload C dL_faultOf_82 0 rfl ?_
  refine jw_icmp_ne C 102 dL_faultOf_84 (by decide) (fun c => absurd (by decide) c) (fun _ => ?_)
  refine jw_aload C dL_faultOf_87 2 rfl ?_
  refine jw_bipush (v := 7) C dL_faultOf_89 (by decide) ?_
  refine jx_count C XT hF trivial fa16_O1 fa16_v3 gL_faultOf_X5_count (Nat.le_of_ble_eq_true rfl) (Nat.le_of_ble_eq_true rfl) ⟨Nat.le_of_ble_eq_true rfl, Nat.le_of_ble_eq_true rfl⟩ (Nat.le_of_ble_eq_true rfl) dL_faultOf_91 (fun μ hF _ => ?_)
  refine jw_if_ne C 102 dL_faultOf_94 (by decide) (fun c => absurd (by decide) c) (fun _ => ?_)
  refine jw_iload C dL_faultOf_97 1 rfl ?_
  refine jw_goto (tgt := 104) C dL_faultOf_99 (by decide) ?_
  exact jw_fret G rfl rfl (Nat.le_of_ble_eq_true rfl) (Nat.le_of_ble_eq_true rfl) dL_faultOf_104
theorem cf16 (l : Launch) : ConF l yL_faultOf wsL_faultOf rmL_faultOf EX5 [.long 13613, .long 0] (fun v => v = some (.int (2 : Int32))) 88 3874 := ConF.mk (cc := cL_faultOf) (maxL := 7) (ret := (some .int)) (own := RL) (by decide) rfl rfl (Nat.le_of_ble_eq_true rfl) (fun K hN G => cf16_S0 hN G G.1)
set_option maxRecDepth 100000 in
set_option maxHeartbeats 4000000 in
theorem cf17_S0 {K : KT} {l : Launch} (hN : kN K = 7) (G : CtxF K l cL_faultOf RL wsL_faultOf rmL_faultOf EX5 (some .int) (fun v => v = some (.int (2 : Int32))) 88 3874) (C : Ctx K l cL_faultOf RL wsL_faultOf rmL_faultOf [] (fun _ => 0)) : JW K (0, 0) [] (fun _ => 0) μ0 0 [(0, .long (3504177 : Int64)), (2, .long (0 : Int64))] [] := by
  have hN_4 : 4 < kN K := by rw [hN]; decide
  have hN_5 : 5 < kN K := by rw [hN]; decide
  have hN_6 : 6 < kN K := by rw [hN]; decide
  refine jw_mkX (rest := []) C G.2.2.2.2.1 (List.mem_of_getElem? (i := 1) rfl) (List.mem_of_getElem? (i := 2) rfl) (List.mem_of_getElem? (i := 3) rfl) iwL_faultOf gL_faultOf_X5_init (List.mem_of_getElem? (i := 4) rfl) (List.mem_of_getElem? (i := 5) rfl) (Nat.le_of_ble_eq_true rfl) (Nat.le_of_ble_eq_true rfl) (Nat.le_of_ble_eq_true rfl) (Nat.le_of_ble_eq_true rfl) (by decide) dL_faultOf_0 rfl dL_faultOf_3 rfl dL_faultOf_4 (fun ad μ C hF _ => ?_)
  refine jw_astore (lw := [(4, .ref _), (0, .long _), (2, .long _)]) C dL_faultOf_7 hN_4 rfl ?_
  refine jw_lload_n C dL_faultOf_9 rfl 1 rfl ?_
  refine jw_lconst C dL_faultOf_10 (v := 0) rfl ?_
  refine jw_lcmp C dL_faultOf_11 ?_
  refine jw_if_eq C 24 dL_faultOf_12 (by decide) (fun c => absurd c (by decide +kernel)) (fun _ => ?_)
  refine jw_aload C dL_faultOf_15 0 rfl ?_
  refine jw_lload_n C dL_faultOf_17 rfl 1 rfl ?_
  refine jx_put C XT hF trivial F00_ok fa17_E1 gL_faultOf_X5_put (Nat.le_of_ble_eq_true rfl) (Nat.le_of_ble_eq_true rfl) ⟨Nat.le_of_ble_eq_true rfl, Nat.le_of_ble_eq_true rfl⟩ (Nat.le_of_ble_eq_true rfl) dL_faultOf_18 (fun μ hF _ => ?_)
  refine jw_if_lt C 39 dL_faultOf_21 (by decide) (fun c => absurd c (by decide)) (fun _ => ?_)
  refine jw_lload_n C dL_faultOf_24 rfl 2 rfl ?_
  refine jw_lconst C dL_faultOf_25 (v := 0) rfl ?_
  refine jw_lcmp C dL_faultOf_26 ?_
  refine jw_if_eq C 42 dL_faultOf_27 (by decide) (fun _ => ?_) (fun c => absurd (by decide +kernel) c)
  refine jw_aload C dL_faultOf_42 0 rfl ?_
  refine jx_fault C XT hF trivial fa17_O1 fa17_v0 gL_faultOf_X5_fault (Nat.le_of_ble_eq_true rfl) (Nat.le_of_ble_eq_true rfl) ⟨Nat.le_of_ble_eq_true rfl, Nat.le_of_ble_eq_true rfl⟩ (Nat.le_of_ble_eq_true rfl) dL_faultOf_44 (fun μ hF _ => ?_)
  refine jw_istore (lw := [(5, .int _), (4, .ref _), (0, .long _), (2, .long _)]) C dL_faultOf_47 hN_5 rfl ?_
  refine jw_aload C dL_faultOf_49 1 rfl ?_
  refine jw_bipush (v := 6) C dL_faultOf_51 (by decide) ?_
  refine jx_count C XT hF trivial fa17_O1 fa17_v1 gL_faultOf_X5_count (Nat.le_of_ble_eq_true rfl) (Nat.le_of_ble_eq_true rfl) ⟨Nat.le_of_ble_eq_true rfl, Nat.le_of_ble_eq_true rfl⟩ (Nat.le_of_ble_eq_true rfl) dL_faultOf_53 (fun μ hF _ => ?_)
  refine jw_istore (lw := [(6, .int _), (5, .int _), (4, .ref _), (0, .long _), (2, .long _)]) C dL_faultOf_56 hN_6 rfl ?_
  refine jw_iload C dL_faultOf_58 1 rfl ?_
  refine jw_bipush (v := (-6)) C dL_faultOf_60 (by decide) ?_
  refine jw_icmp_eq C 105 dL_faultOf_62 (by decide) (fun c => absurd c (by decide)) (fun _ => ?_)
  refine jw_aload C dL_faultOf_65 2 rfl ?_
  refine jx_carry C XT hF trivial fa17_O1 fa17_z2 gL_faultOf_X5_carryOut (Nat.le_of_ble_eq_true rfl) (Nat.le_of_ble_eq_true rfl) ⟨Nat.le_of_ble_eq_true rfl, Nat.le_of_ble_eq_true rfl⟩ (Nat.le_of_ble_eq_true rfl) dL_faultOf_67 (fun μ hF _ => ?_)
  refine jw_bipush (v := (-3)) C dL_faultOf_70 (by decide) ?_
  refine jw_icmp_ne C 102 dL_faultOf_72 (by decide) (fun c => absurd (by decide) c) (fun _ => ?_)
  refine jw_aload C dL_faultOf_75 2 rfl ?_
  refine jw_bipush (v := 6) C dL_faultOf_77 (by decide) ?_
  refine jx_count C XT hF trivial fa17_O1 fa17_v1 gL_faultOf_X5_count (Nat.le_of_ble_eq_true rfl) (Nat.le_of_ble_eq_true rfl) ⟨Nat.le_of_ble_eq_true rfl, Nat.le_of_ble_eq_true rfl⟩ (Nat.le_of_ble_eq_true rfl) dL_faultOf_79 (fun μ hF _ => ?_)
  refine jw_iload C dL_faultOf_82 0 rfl ?_
  refine jw_icmp_ne C 102 dL_faultOf_84 (by decide) (fun c => absurd (by decide) c) (fun _ => ?_)
  refine jw_aload C dL_faultOf_87 2 rfl ?_
  refine jw_bipush (v := 7) C dL_faultOf_89 (by decide) ?_
  refine jx_count C XT hF trivial fa17_O1 fa17_v3 gL_faultOf_X5_count (Nat.le_of_ble_eq_true rfl) (Nat.le_of_ble_eq_true rfl) ⟨Nat.le_of_ble_eq_true rfl, Nat.le_of_ble_eq_true rfl⟩ (Nat.le_of_ble_eq_true rfl) dL_faultOf_91 (fun μ hF _ => ?_)
  refine jw_if_ne C 102 dL_faultOf_94 (by decide) (fun c => absurd (by decide) c) (fun _ => ?_)
  refine jw_iload C dL_faultOf_97 1 rfl ?_
  refine jw_goto (tgt := 104) C dL_faultOf_99 (by decide) ?_
  exact jw_fret G rfl rfl (Nat.le_of_ble_eq_true rfl) (Nat.le_of_ble_eq_true rfl) dL_faultOf_104
theorem cf17 (l : Launch) : ConF l yL_faultOf wsL_faultOf rmL_faultOf EX5 [.long 3504177, .long 0] (fun v => v = some (.int (2 : Int32))) 88 3874 := ConF.mk (cc := cL_faultOf) (maxL := 7) (ret := (some .int)) (own := RL) (by decide) rfl rfl (Nat.le_of_ble_eq_true rfl) (fun K hN G => cf17_S0 hN G G.1)
set_option maxRecDepth 100000 in
set_option maxHeartbeats 4000000 in
theorem cf18_S0 {K : KT} {l : Launch} (hN : kN K = 7) (G : CtxF K l cL_faultOf RL wsL_faultOf rmL_faultOf EX5 (some .int) (fun v => v = some (.int (3 : Int32))) 88 3874) (C : Ctx K l cL_faultOf RL wsL_faultOf rmL_faultOf [] (fun _ => 0)) : JW K (0, 0) [] (fun _ => 0) μ0 0 [(0, .long (58468232276785 : Int64)), (2, .long (0 : Int64))] [] := by
  have hN_4 : 4 < kN K := by rw [hN]; decide
  have hN_5 : 5 < kN K := by rw [hN]; decide
  have hN_6 : 6 < kN K := by rw [hN]; decide
  refine jw_mkX (rest := []) C G.2.2.2.2.1 (List.mem_of_getElem? (i := 1) rfl) (List.mem_of_getElem? (i := 2) rfl) (List.mem_of_getElem? (i := 3) rfl) iwL_faultOf gL_faultOf_X5_init (List.mem_of_getElem? (i := 4) rfl) (List.mem_of_getElem? (i := 5) rfl) (Nat.le_of_ble_eq_true rfl) (Nat.le_of_ble_eq_true rfl) (Nat.le_of_ble_eq_true rfl) (Nat.le_of_ble_eq_true rfl) (by decide) dL_faultOf_0 rfl dL_faultOf_3 rfl dL_faultOf_4 (fun ad μ C hF _ => ?_)
  refine jw_astore (lw := [(4, .ref _), (0, .long _), (2, .long _)]) C dL_faultOf_7 hN_4 rfl ?_
  refine jw_lload_n C dL_faultOf_9 rfl 1 rfl ?_
  refine jw_lconst C dL_faultOf_10 (v := 0) rfl ?_
  refine jw_lcmp C dL_faultOf_11 ?_
  refine jw_if_eq C 24 dL_faultOf_12 (by decide) (fun c => absurd c (by decide +kernel)) (fun _ => ?_)
  refine jw_aload C dL_faultOf_15 0 rfl ?_
  refine jw_lload_n C dL_faultOf_17 rfl 1 rfl ?_
  refine jx_put C XT hF trivial F00_ok fa18_E1 gL_faultOf_X5_put (Nat.le_of_ble_eq_true rfl) (Nat.le_of_ble_eq_true rfl) ⟨Nat.le_of_ble_eq_true rfl, Nat.le_of_ble_eq_true rfl⟩ (Nat.le_of_ble_eq_true rfl) dL_faultOf_18 (fun μ hF _ => ?_)
  refine jw_if_lt C 39 dL_faultOf_21 (by decide) (fun c => absurd c (by decide)) (fun _ => ?_)
  refine jw_lload_n C dL_faultOf_24 rfl 2 rfl ?_
  refine jw_lconst C dL_faultOf_25 (v := 0) rfl ?_
  refine jw_lcmp C dL_faultOf_26 ?_
  refine jw_if_eq C 42 dL_faultOf_27 (by decide) (fun _ => ?_) (fun c => absurd (by decide +kernel) c)
  refine jw_aload C dL_faultOf_42 0 rfl ?_
  refine jx_fault C XT hF trivial fa18_O1 fa18_v0 gL_faultOf_X5_fault (Nat.le_of_ble_eq_true rfl) (Nat.le_of_ble_eq_true rfl) ⟨Nat.le_of_ble_eq_true rfl, Nat.le_of_ble_eq_true rfl⟩ (Nat.le_of_ble_eq_true rfl) dL_faultOf_44 (fun μ hF _ => ?_)
  refine jw_istore (lw := [(5, .int _), (4, .ref _), (0, .long _), (2, .long _)]) C dL_faultOf_47 hN_5 rfl ?_
  refine jw_aload C dL_faultOf_49 1 rfl ?_
  refine jw_bipush (v := 6) C dL_faultOf_51 (by decide) ?_
  refine jx_count C XT hF trivial fa18_O1 fa18_v1 gL_faultOf_X5_count (Nat.le_of_ble_eq_true rfl) (Nat.le_of_ble_eq_true rfl) ⟨Nat.le_of_ble_eq_true rfl, Nat.le_of_ble_eq_true rfl⟩ (Nat.le_of_ble_eq_true rfl) dL_faultOf_53 (fun μ hF _ => ?_)
  refine jw_istore (lw := [(6, .int _), (5, .int _), (4, .ref _), (0, .long _), (2, .long _)]) C dL_faultOf_56 hN_6 rfl ?_
  refine jw_iload C dL_faultOf_58 1 rfl ?_
  refine jw_bipush (v := (-6)) C dL_faultOf_60 (by decide) ?_
  refine jw_icmp_eq C 105 dL_faultOf_62 (by decide) (fun c => absurd c (by decide)) (fun _ => ?_)
  refine jw_aload C dL_faultOf_65 2 rfl ?_
  refine jx_carry C XT hF trivial fa18_O1 fa18_z2 gL_faultOf_X5_carryOut (Nat.le_of_ble_eq_true rfl) (Nat.le_of_ble_eq_true rfl) ⟨Nat.le_of_ble_eq_true rfl, Nat.le_of_ble_eq_true rfl⟩ (Nat.le_of_ble_eq_true rfl) dL_faultOf_67 (fun μ hF _ => ?_)
  refine jw_bipush (v := (-3)) C dL_faultOf_70 (by decide) ?_
  refine jw_icmp_ne C 102 dL_faultOf_72 (by decide) (fun c => absurd (by decide) c) (fun _ => ?_)
  refine jw_aload C dL_faultOf_75 2 rfl ?_
  refine jw_bipush (v := 6) C dL_faultOf_77 (by decide) ?_
  refine jx_count C XT hF trivial fa18_O1 fa18_v1 gL_faultOf_X5_count (Nat.le_of_ble_eq_true rfl) (Nat.le_of_ble_eq_true rfl) ⟨Nat.le_of_ble_eq_true rfl, Nat.le_of_ble_eq_true rfl⟩ (Nat.le_of_ble_eq_true rfl) dL_faultOf_79 (fun μ hF _ => ?_)
  refine jw_iload C dL_faultOf_82 0 rfl ?_
  refine jw_icmp_ne C 102 dL_faultOf_84 (by decide) (fun c => absurd (by decide) c) (fun _ => ?_)
  refine jw_aload C dL_faultOf_87 2 rfl ?_
  refine jw_bipush (v := 7) C dL_faultOf_89 (by decide) ?_
  refine jx_count C XT hF trivial fa18_O1 fa18_v3 gL_faultOf_X5_count (Nat.le_of_ble_eq_true rfl) (Nat.le_of_ble_eq_true rfl) ⟨Nat.le_of_ble_eq_true rfl, Nat.le_of_ble_eq_true rfl⟩ (Nat.le_of_ble_eq_true rfl) dL_faultOf_91 (fun μ hF _ => ?_)
  refine jw_if_ne C 102 dL_faultOf_94 (by decide) (fun c => absurd (by decide) c) (fun _ => ?_)
  refine jw_iload C dL_faultOf_97 1 rfl ?_
  refine jw_goto (tgt := 104) C dL_faultOf_99 (by decide) ?_
  exact jw_fret G rfl rfl (Nat.le_of_ble_eq_true rfl) (Nat.le_of_ble_eq_true rfl) dL_faultOf_104
theorem cf18 (l : Launch) : ConF l yL_faultOf wsL_faultOf rmL_faultOf EX5 [.long 58468232276785, .long 0] (fun v => v = some (.int (3 : Int32))) 88 3874 := ConF.mk (cc := cL_faultOf) (maxL := 7) (ret := (some .int)) (own := RL) (by decide) rfl rfl (Nat.le_of_ble_eq_true rfl) (fun K hN G => cf18_S0 hN G G.1)
set_option maxRecDepth 100000 in
set_option maxHeartbeats 4000000 in
theorem cf19_S0 {K : KT} {l : Launch} (hN : kN K = 7) (G : CtxF K l cL_faultOf RL wsL_faultOf rmL_faultOf EX5 (some .int) (fun v => v = some (.int (3 : Int32))) 88 3874) (C : Ctx K l cL_faultOf RL wsL_faultOf rmL_faultOf [] (fun _ => 0)) : JW K (0, 0) [] (fun _ => 0) μ0 0 [(0, .long (892023160 : Int64)), (2, .long (0 : Int64))] [] := by
  have hN_4 : 4 < kN K := by rw [hN]; decide
  have hN_5 : 5 < kN K := by rw [hN]; decide
  have hN_6 : 6 < kN K := by rw [hN]; decide
  refine jw_mkX (rest := []) C G.2.2.2.2.1 (List.mem_of_getElem? (i := 1) rfl) (List.mem_of_getElem? (i := 2) rfl) (List.mem_of_getElem? (i := 3) rfl) iwL_faultOf gL_faultOf_X5_init (List.mem_of_getElem? (i := 4) rfl) (List.mem_of_getElem? (i := 5) rfl) (Nat.le_of_ble_eq_true rfl) (Nat.le_of_ble_eq_true rfl) (Nat.le_of_ble_eq_true rfl) (Nat.le_of_ble_eq_true rfl) (by decide) dL_faultOf_0 rfl dL_faultOf_3 rfl dL_faultOf_4 (fun ad μ C hF _ => ?_)
  refine jw_astore (lw := [(4, .ref _), (0, .long _), (2, .long _)]) C dL_faultOf_7 hN_4 rfl ?_
  refine jw_lload_n C dL_faultOf_9 rfl 1 rfl ?_
  refine jw_lconst C dL_faultOf_10 (v := 0) rfl ?_
  refine jw_lcmp C dL_faultOf_11 ?_
  refine jw_if_eq C 24 dL_faultOf_12 (by decide) (fun c => absurd c (by decide +kernel)) (fun _ => ?_)
  refine jw_aload C dL_faultOf_15 0 rfl ?_
  refine jw_lload_n C dL_faultOf_17 rfl 1 rfl ?_
  refine jx_put C XT hF trivial F00_ok fa19_E1 gL_faultOf_X5_put (Nat.le_of_ble_eq_true rfl) (Nat.le_of_ble_eq_true rfl) ⟨Nat.le_of_ble_eq_true rfl, Nat.le_of_ble_eq_true rfl⟩ (Nat.le_of_ble_eq_true rfl) dL_faultOf_18 (fun μ hF _ => ?_)
  refine jw_if_lt C 39 dL_faultOf_21 (by decide) (fun c => absurd c (by decide)) (fun _ => ?_)
  refine jw_lload_n C dL_faultOf_24 rfl 2 rfl ?_
  refine jw_lconst C dL_faultOf_25 (v := 0) rfl ?_
  refine jw_lcmp C dL_faultOf_26 ?_
  refine jw_if_eq C 42 dL_faultOf_27 (by decide) (fun _ => ?_) (fun c => absurd (by decide +kernel) c)
  refine jw_aload C dL_faultOf_42 0 rfl ?_
  refine jx_fault C XT hF trivial fa19_O1 fa19_v0 gL_faultOf_X5_fault (Nat.le_of_ble_eq_true rfl) (Nat.le_of_ble_eq_true rfl) ⟨Nat.le_of_ble_eq_true rfl, Nat.le_of_ble_eq_true rfl⟩ (Nat.le_of_ble_eq_true rfl) dL_faultOf_44 (fun μ hF _ => ?_)
  refine jw_istore (lw := [(5, .int _), (4, .ref _), (0, .long _), (2, .long _)]) C dL_faultOf_47 hN_5 rfl ?_
  refine jw_aload C dL_faultOf_49 1 rfl ?_
  refine jw_bipush (v := 6) C dL_faultOf_51 (by decide) ?_
  refine jx_count C XT hF trivial fa19_O1 fa19_v1 gL_faultOf_X5_count (Nat.le_of_ble_eq_true rfl) (Nat.le_of_ble_eq_true rfl) ⟨Nat.le_of_ble_eq_true rfl, Nat.le_of_ble_eq_true rfl⟩ (Nat.le_of_ble_eq_true rfl) dL_faultOf_53 (fun μ hF _ => ?_)
  refine jw_istore (lw := [(6, .int _), (5, .int _), (4, .ref _), (0, .long _), (2, .long _)]) C dL_faultOf_56 hN_6 rfl ?_
  refine jw_iload C dL_faultOf_58 1 rfl ?_
  refine jw_bipush (v := (-6)) C dL_faultOf_60 (by decide) ?_
  refine jw_icmp_eq C 105 dL_faultOf_62 (by decide) (fun c => absurd c (by decide)) (fun _ => ?_)
  refine jw_aload C dL_faultOf_65 2 rfl ?_
  refine jx_carry C XT hF trivial fa19_O1 fa19_z2 gL_faultOf_X5_carryOut (Nat.le_of_ble_eq_true rfl) (Nat.le_of_ble_eq_true rfl) ⟨Nat.le_of_ble_eq_true rfl, Nat.le_of_ble_eq_true rfl⟩ (Nat.le_of_ble_eq_true rfl) dL_faultOf_67 (fun μ hF _ => ?_)
  refine jw_bipush (v := (-3)) C dL_faultOf_70 (by decide) ?_
  refine jw_icmp_ne C 102 dL_faultOf_72 (by decide) (fun c => absurd (by decide) c) (fun _ => ?_)
  refine jw_aload C dL_faultOf_75 2 rfl ?_
  refine jw_bipush (v := 6) C dL_faultOf_77 (by decide) ?_
  refine jx_count C XT hF trivial fa19_O1 fa19_v1 gL_faultOf_X5_count (Nat.le_of_ble_eq_true rfl) (Nat.le_of_ble_eq_true rfl) ⟨Nat.le_of_ble_eq_true rfl, Nat.le_of_ble_eq_true rfl⟩ (Nat.le_of_ble_eq_true rfl) dL_faultOf_79 (fun μ hF _ => ?_)
  refine jw_iload C dL_faultOf_82 0 rfl ?_
  refine jw_icmp_ne C 102 dL_faultOf_84 (by decide) (fun c => absurd (by decide) c) (fun _ => ?_)
  refine jw_aload C dL_faultOf_87 2 rfl ?_
  refine jw_bipush (v := 7) C dL_faultOf_89 (by decide) ?_
  refine jx_count C XT hF trivial fa19_O1 fa19_v3 gL_faultOf_X5_count (Nat.le_of_ble_eq_true rfl) (Nat.le_of_ble_eq_true rfl) ⟨Nat.le_of_ble_eq_true rfl, Nat.le_of_ble_eq_true rfl⟩ (Nat.le_of_ble_eq_true rfl) dL_faultOf_91 (fun μ hF _ => ?_)
  refine jw_if_ne C 102 dL_faultOf_94 (by decide) (fun c => absurd (by decide) c) (fun _ => ?_)
  refine jw_iload C dL_faultOf_97 1 rfl ?_
  refine jw_goto (tgt := 104) C dL_faultOf_99 (by decide) ?_
  exact jw_fret G rfl rfl (Nat.le_of_ble_eq_true rfl) (Nat.le_of_ble_eq_true rfl) dL_faultOf_104
theorem cf19 (l : Launch) : ConF l yL_faultOf wsL_faultOf rmL_faultOf EX5 [.long 892023160, .long 0] (fun v => v = some (.int (3 : Int32))) 88 3874 := ConF.mk (cc := cL_faultOf) (maxL := 7) (ret := (some .int)) (own := RL) (by decide) rfl rfl (Nat.le_of_ble_eq_true rfl) (fun K hN G => cf19_S0 hN G G.1)
set_option maxRecDepth 100000 in
set_option maxHeartbeats 4000000 in
theorem cf20_S0 {K : KT} {l : Launch} (hN : kN K = 7) (G : CtxF K l cL_faultOf RL wsL_faultOf rmL_faultOf EX5 (some .int) (fun v => v = some (.int (3 : Int32))) 88 3874) (C : Ctx K l cL_faultOf RL wsL_faultOf rmL_faultOf [] (fun _ => 0)) : JW K (0, 0) [] (fun _ => 0) μ0 0 [(0, .long (228391861553 : Int64)), (2, .long (0 : Int64))] [] := by
  have hN_4 : 4 < kN K := by rw [hN]; decide
  have hN_5 : 5 < kN K := by rw [hN]; decide
  have hN_6 : 6 < kN K := by rw [hN]; decide
  refine jw_mkX (rest := []) C G.2.2.2.2.1 (List.mem_of_getElem? (i := 1) rfl) (List.mem_of_getElem? (i := 2) rfl) (List.mem_of_getElem? (i := 3) rfl) iwL_faultOf gL_faultOf_X5_init (List.mem_of_getElem? (i := 4) rfl) (List.mem_of_getElem? (i := 5) rfl) (Nat.le_of_ble_eq_true rfl) (Nat.le_of_ble_eq_true rfl) (Nat.le_of_ble_eq_true rfl) (Nat.le_of_ble_eq_true rfl) (by decide) dL_faultOf_0 rfl dL_faultOf_3 rfl dL_faultOf_4 (fun ad μ C hF _ => ?_)
  refine jw_astore (lw := [(4, .ref _), (0, .long _), (2, .long _)]) C dL_faultOf_7 hN_4 rfl ?_
  refine jw_lload_n C dL_faultOf_9 rfl 1 rfl ?_
  refine jw_lconst C dL_faultOf_10 (v := 0) rfl ?_
  refine jw_lcmp C dL_faultOf_11 ?_
  refine jw_if_eq C 24 dL_faultOf_12 (by decide) (fun c => absurd c (by decide +kernel)) (fun _ => ?_)
  refine jw_aload C dL_faultOf_15 0 rfl ?_
  refine jw_lload_n C dL_faultOf_17 rfl 1 rfl ?_
  refine jx_put C XT hF trivial F00_ok fa20_E1 gL_faultOf_X5_put (Nat.le_of_ble_eq_true rfl) (Nat.le_of_ble_eq_true rfl) ⟨Nat.le_of_ble_eq_true rfl, Nat.le_of_ble_eq_true rfl⟩ (Nat.le_of_ble_eq_true rfl) dL_faultOf_18 (fun μ hF _ => ?_)
  refine jw_if_lt C 39 dL_faultOf_21 (by decide) (fun c => absurd c (by decide)) (fun _ => ?_)
  refine jw_lload_n C dL_faultOf_24 rfl 2 rfl ?_
  refine jw_lconst C dL_faultOf_25 (v := 0) rfl ?_
  refine jw_lcmp C dL_faultOf_26 ?_
  refine jw_if_eq C 42 dL_faultOf_27 (by decide) (fun _ => ?_) (fun c => absurd (by decide +kernel) c)
  refine jw_aload C dL_faultOf_42 0 rfl ?_
  refine jx_fault C XT hF trivial fa20_O1 fa20_v0 gL_faultOf_X5_fault (Nat.le_of_ble_eq_true rfl) (Nat.le_of_ble_eq_true rfl) ⟨Nat.le_of_ble_eq_true rfl, Nat.le_of_ble_eq_true rfl⟩ (Nat.le_of_ble_eq_true rfl) dL_faultOf_44 (fun μ hF _ => ?_)
  refine jw_istore (lw := [(5, .int _), (4, .ref _), (0, .long _), (2, .long _)]) C dL_faultOf_47 hN_5 rfl ?_
  refine jw_aload C dL_faultOf_49 1 rfl ?_
  refine jw_bipush (v := 6) C dL_faultOf_51 (by decide) ?_
  refine jx_count C XT hF trivial fa20_O1 fa20_v1 gL_faultOf_X5_count (Nat.le_of_ble_eq_true rfl) (Nat.le_of_ble_eq_true rfl) ⟨Nat.le_of_ble_eq_true rfl, Nat.le_of_ble_eq_true rfl⟩ (Nat.le_of_ble_eq_true rfl) dL_faultOf_53 (fun μ hF _ => ?_)
  refine jw_istore (lw := [(6, .int _), (5, .int _), (4, .ref _), (0, .long _), (2, .long _)]) C dL_faultOf_56 hN_6 rfl ?_
  refine jw_iload C dL_faultOf_58 1 rfl ?_
  refine jw_bipush (v := (-6)) C dL_faultOf_60 (by decide) ?_
  refine jw_icmp_eq C 105 dL_faultOf_62 (by decide) (fun c => absurd c (by decide)) (fun _ => ?_)
  refine jw_aload C dL_faultOf_65 2 rfl ?_
  refine jx_carry C XT hF trivial fa20_O1 fa20_z2 gL_faultOf_X5_carryOut (Nat.le_of_ble_eq_true rfl) (Nat.le_of_ble_eq_true rfl) ⟨Nat.le_of_ble_eq_true rfl, Nat.le_of_ble_eq_true rfl⟩ (Nat.le_of_ble_eq_true rfl) dL_faultOf_67 (fun μ hF _ => ?_)
  refine jw_bipush (v := (-3)) C dL_faultOf_70 (by decide) ?_
  refine jw_icmp_ne C 102 dL_faultOf_72 (by decide) (fun c => absurd (by decide) c) (fun _ => ?_)
  refine jw_aload C dL_faultOf_75 2 rfl ?_
  refine jw_bipush (v := 6) C dL_faultOf_77 (by decide) ?_
  refine jx_count C XT hF trivial fa20_O1 fa20_v1 gL_faultOf_X5_count (Nat.le_of_ble_eq_true rfl) (Nat.le_of_ble_eq_true rfl) ⟨Nat.le_of_ble_eq_true rfl, Nat.le_of_ble_eq_true rfl⟩ (Nat.le_of_ble_eq_true rfl) dL_faultOf_79 (fun μ hF _ => ?_)
  refine jw_iload C dL_faultOf_82 0 rfl ?_
  refine jw_icmp_ne C 102 dL_faultOf_84 (by decide) (fun c => absurd (by decide) c) (fun _ => ?_)
  refine jw_aload C dL_faultOf_87 2 rfl ?_
  refine jw_bipush (v := 7) C dL_faultOf_89 (by decide) ?_
  refine jx_count C XT hF trivial fa20_O1 fa20_v3 gL_faultOf_X5_count (Nat.le_of_ble_eq_true rfl) (Nat.le_of_ble_eq_true rfl) ⟨Nat.le_of_ble_eq_true rfl, Nat.le_of_ble_eq_true rfl⟩ (Nat.le_of_ble_eq_true rfl) dL_faultOf_91 (fun μ hF _ => ?_)
  refine jw_if_ne C 102 dL_faultOf_94 (by decide) (fun c => absurd (by decide) c) (fun _ => ?_)
  refine jw_iload C dL_faultOf_97 1 rfl ?_
  refine jw_goto (tgt := 104) C dL_faultOf_99 (by decide) ?_
  exact jw_fret G rfl rfl (Nat.le_of_ble_eq_true rfl) (Nat.le_of_ble_eq_true rfl) dL_faultOf_104
theorem cf20 (l : Launch) : ConF l yL_faultOf wsL_faultOf rmL_faultOf EX5 [.long 228391861553, .long 0] (fun v => v = some (.int (3 : Int32))) 88 3874 := ConF.mk (cc := cL_faultOf) (maxL := 7) (ret := (some .int)) (own := RL) (by decide) rfl rfl (Nat.le_of_ble_eq_true rfl) (fun K hN G => cf20_S0 hN G G.1)
set_option maxRecDepth 100000 in
set_option maxHeartbeats 4000000 in
theorem cf21_S0 {K : KT} {l : Launch} (hN : kN K = 7) (G : CtxF K l cL_faultOf RL wsL_faultOf rmL_faultOf EX5 (some .int) (fun v => v = some (.int (-6 : Int32))) 88 3874) (C : Ctx K l cL_faultOf RL wsL_faultOf rmL_faultOf [] (fun _ => 0)) : JW K (0, 0) [] (fun _ => 0) μ0 0 [(0, .long (3161392 : Int64)), (2, .long (0 : Int64))] [] := by
  have hN_4 : 4 < kN K := by rw [hN]; decide
  have hN_5 : 5 < kN K := by rw [hN]; decide
  have hN_6 : 6 < kN K := by rw [hN]; decide
  refine jw_mkX (rest := []) C G.2.2.2.2.1 (List.mem_of_getElem? (i := 1) rfl) (List.mem_of_getElem? (i := 2) rfl) (List.mem_of_getElem? (i := 3) rfl) iwL_faultOf gL_faultOf_X5_init (List.mem_of_getElem? (i := 4) rfl) (List.mem_of_getElem? (i := 5) rfl) (Nat.le_of_ble_eq_true rfl) (Nat.le_of_ble_eq_true rfl) (Nat.le_of_ble_eq_true rfl) (Nat.le_of_ble_eq_true rfl) (by decide) dL_faultOf_0 rfl dL_faultOf_3 rfl dL_faultOf_4 (fun ad μ C hF _ => ?_)
  refine jw_astore (lw := [(4, .ref _), (0, .long _), (2, .long _)]) C dL_faultOf_7 hN_4 rfl ?_
  refine jw_lload_n C dL_faultOf_9 rfl 1 rfl ?_
  refine jw_lconst C dL_faultOf_10 (v := 0) rfl ?_
  refine jw_lcmp C dL_faultOf_11 ?_
  refine jw_if_eq C 24 dL_faultOf_12 (by decide) (fun c => absurd c (by decide +kernel)) (fun _ => ?_)
  refine jw_aload C dL_faultOf_15 0 rfl ?_
  refine jw_lload_n C dL_faultOf_17 rfl 1 rfl ?_
  refine jx_put C XT hF trivial F00_ok fa21_E1 gL_faultOf_X5_put (Nat.le_of_ble_eq_true rfl) (Nat.le_of_ble_eq_true rfl) ⟨Nat.le_of_ble_eq_true rfl, Nat.le_of_ble_eq_true rfl⟩ (Nat.le_of_ble_eq_true rfl) dL_faultOf_18 (fun μ hF _ => ?_)
  refine jw_if_lt C 39 dL_faultOf_21 (by decide) (fun c => absurd c (by decide)) (fun _ => ?_)
  refine jw_lload_n C dL_faultOf_24 rfl 2 rfl ?_
  refine jw_lconst C dL_faultOf_25 (v := 0) rfl ?_
  refine jw_lcmp C dL_faultOf_26 ?_
  refine jw_if_eq C 42 dL_faultOf_27 (by decide) (fun _ => ?_) (fun c => absurd (by decide +kernel) c)
  refine jw_aload C dL_faultOf_42 0 rfl ?_
  refine jx_fault C XT hF trivial fa21_O1 fa21_v0 gL_faultOf_X5_fault (Nat.le_of_ble_eq_true rfl) (Nat.le_of_ble_eq_true rfl) ⟨Nat.le_of_ble_eq_true rfl, Nat.le_of_ble_eq_true rfl⟩ (Nat.le_of_ble_eq_true rfl) dL_faultOf_44 (fun μ hF _ => ?_)
  refine jw_istore (lw := [(5, .int _), (4, .ref _), (0, .long _), (2, .long _)]) C dL_faultOf_47 hN_5 rfl ?_
  refine jw_aload C dL_faultOf_49 1 rfl ?_
  refine jw_bipush (v := 6) C dL_faultOf_51 (by decide) ?_
  refine jx_count C XT hF trivial fa21_O1 fa21_v1 gL_faultOf_X5_count (Nat.le_of_ble_eq_true rfl) (Nat.le_of_ble_eq_true rfl) ⟨Nat.le_of_ble_eq_true rfl, Nat.le_of_ble_eq_true rfl⟩ (Nat.le_of_ble_eq_true rfl) dL_faultOf_53 (fun μ hF _ => ?_)
  refine jw_istore (lw := [(6, .int _), (5, .int _), (4, .ref _), (0, .long _), (2, .long _)]) C dL_faultOf_56 hN_6 rfl ?_
  refine jw_iload C dL_faultOf_58 1 rfl ?_
  refine jw_bipush (v := (-6)) C dL_faultOf_60 (by decide) ?_
  refine jw_icmp_eq C 105 dL_faultOf_62 (by decide) (fun _ => ?_) (fun c => absurd (by decide) c)
  refine jw_aload C dL_faultOf_105 2 rfl ?_
  refine jx_carry C XT hF trivial fa21_O1 fa21_E2 gL_faultOf_X5_carryOut (Nat.le_of_ble_eq_true rfl) (Nat.le_of_ble_eq_true rfl) ⟨Nat.le_of_ble_eq_true rfl, Nat.le_of_ble_eq_true rfl⟩ (Nat.le_of_ble_eq_true rfl) dL_faultOf_107 (fun μ hF _ => ?_)
  have hF := fa21_R2 hF
  refine jw_if_le C 147 dL_faultOf_110 (by decide) (fun c => absurd c (by decide)) (fun _ => ?_)
  refine jw_aload C dL_faultOf_113 2 rfl ?_
  refine jw_bipush (v := 6) C dL_faultOf_115 (by decide) ?_
  refine jx_count C XT hF trivial fa21_O2 fa21_v2 gL_faultOf_X5_count (Nat.le_of_ble_eq_true rfl) (Nat.le_of_ble_eq_true rfl) ⟨Nat.le_of_ble_eq_true rfl, Nat.le_of_ble_eq_true rfl⟩ (Nat.le_of_ble_eq_true rfl) dL_faultOf_117 (fun μ hF _ => ?_)
  refine jw_if_ne C 147 dL_faultOf_120 (by decide) (fun c => absurd (by decide) c) (fun _ => ?_)
  refine jw_aload C dL_faultOf_123 2 rfl ?_
  refine jw_bipush (v := 7) C dL_faultOf_125 (by decide) ?_
  refine jx_count C XT hF trivial fa21_O2 fa21_v3 gL_faultOf_X5_count (Nat.le_of_ble_eq_true rfl) (Nat.le_of_ble_eq_true rfl) ⟨Nat.le_of_ble_eq_true rfl, Nat.le_of_ble_eq_true rfl⟩ (Nat.le_of_ble_eq_true rfl) dL_faultOf_127 (fun μ hF _ => ?_)
  refine jw_iconst (v := 1) C dL_faultOf_130 (by decide) ?_
  refine jw_icmp_ne C 147 dL_faultOf_131 (by decide) (fun c => absurd (by decide) c) (fun _ => ?_)
  refine jw_aload C dL_faultOf_134 2 rfl ?_
  refine jx_fault C XT hF trivial fa21_O2 fa21_v4 gL_faultOf_X5_fault (Nat.le_of_ble_eq_true rfl) (Nat.le_of_ble_eq_true rfl) ⟨Nat.le_of_ble_eq_true rfl, Nat.le_of_ble_eq_true rfl⟩ (Nat.le_of_ble_eq_true rfl) dL_faultOf_136 (fun μ hF _ => ?_)
  refine jw_if_ne C 147 dL_faultOf_139 (by decide) (fun c => absurd (by decide) c) (fun _ => ?_)
  refine jw_iload C dL_faultOf_142 1 rfl ?_
  refine jw_goto (tgt := 149) C dL_faultOf_144 (by decide) ?_
  exact jw_fret G rfl rfl (Nat.le_of_ble_eq_true rfl) (Nat.le_of_ble_eq_true rfl) dL_faultOf_149
theorem cf21 (l : Launch) : ConF l yL_faultOf wsL_faultOf rmL_faultOf EX5 [.long 3161392, .long 0] (fun v => v = some (.int (-6 : Int32))) 88 3874 := ConF.mk (cc := cL_faultOf) (maxL := 7) (ret := (some .int)) (own := RL) (by decide) rfl rfl (Nat.le_of_ble_eq_true rfl) (fun K hN G => cf21_S0 hN G G.1)
set_option maxRecDepth 100000 in
set_option maxHeartbeats 4000000 in
theorem cf22_S0 {K : KT} {l : Launch} (hN : kN K = 7) (G : CtxF K l cL_faultOf RL wsL_faultOf rmL_faultOf EX5 (some .int) (fun v => v = some (.int (7 : Int32))) 88 3874) (C : Ctx K l cL_faultOf RL wsL_faultOf rmL_faultOf [] (fun _ => 0)) : JW K (0, 0) [] (fun _ => 0) μ0 0 [(0, .long (14985455421847611 : Int64)), (2, .long (0 : Int64))] [] := by
  have hN_4 : 4 < kN K := by rw [hN]; decide
  have hN_5 : 5 < kN K := by rw [hN]; decide
  have hN_6 : 6 < kN K := by rw [hN]; decide
  refine jw_mkX (rest := []) C G.2.2.2.2.1 (List.mem_of_getElem? (i := 1) rfl) (List.mem_of_getElem? (i := 2) rfl) (List.mem_of_getElem? (i := 3) rfl) iwL_faultOf gL_faultOf_X5_init (List.mem_of_getElem? (i := 4) rfl) (List.mem_of_getElem? (i := 5) rfl) (Nat.le_of_ble_eq_true rfl) (Nat.le_of_ble_eq_true rfl) (Nat.le_of_ble_eq_true rfl) (Nat.le_of_ble_eq_true rfl) (by decide) dL_faultOf_0 rfl dL_faultOf_3 rfl dL_faultOf_4 (fun ad μ C hF _ => ?_)
  refine jw_astore (lw := [(4, .ref _), (0, .long _), (2, .long _)]) C dL_faultOf_7 hN_4 rfl ?_
  refine jw_lload_n C dL_faultOf_9 rfl 1 rfl ?_
  refine jw_lconst C dL_faultOf_10 (v := 0) rfl ?_
  refine jw_lcmp C dL_faultOf_11 ?_
  refine jw_if_eq C 24 dL_faultOf_12 (by decide) (fun c => absurd c (by decide +kernel)) (fun _ => ?_)
  refine jw_aload C dL_faultOf_15 0 rfl ?_
  refine jw_lload_n C dL_faultOf_17 rfl 1 rfl ?_
  refine jx_put C XT hF trivial F00_ok fa22_E1 gL_faultOf_X5_put (Nat.le_of_ble_eq_true rfl) (Nat.le_of_ble_eq_true rfl) ⟨Nat.le_of_ble_eq_true rfl, Nat.le_of_ble_eq_true rfl⟩ (Nat.le_of_ble_eq_true rfl) dL_faultOf_18 (fun μ hF _ => ?_)
  refine jw_if_lt C 39 dL_faultOf_21 (by decide) (fun c => absurd c (by decide)) (fun _ => ?_)
  refine jw_lload_n C dL_faultOf_24 rfl 2 rfl ?_
  refine jw_lconst C dL_faultOf_25 (v := 0) rfl ?_
  refine jw_lcmp C dL_faultOf_26 ?_
  refine jw_if_eq C 42 dL_faultOf_27 (by decide) (fun _ => ?_) (fun c => absurd (by decide +kernel) c)
  refine jw_aload C dL_faultOf_42 0 rfl ?_
  refine jx_fault C XT hF trivial fa22_O1 fa22_v0 gL_faultOf_X5_fault (Nat.le_of_ble_eq_true rfl) (Nat.le_of_ble_eq_true rfl) ⟨Nat.le_of_ble_eq_true rfl, Nat.le_of_ble_eq_true rfl⟩ (Nat.le_of_ble_eq_true rfl) dL_faultOf_44 (fun μ hF _ => ?_)
  refine jw_istore (lw := [(5, .int _), (4, .ref _), (0, .long _), (2, .long _)]) C dL_faultOf_47 hN_5 rfl ?_
  refine jw_aload C dL_faultOf_49 1 rfl ?_
  refine jw_bipush (v := 6) C dL_faultOf_51 (by decide) ?_
  refine jx_count C XT hF trivial fa22_O1 fa22_v1 gL_faultOf_X5_count (Nat.le_of_ble_eq_true rfl) (Nat.le_of_ble_eq_true rfl) ⟨Nat.le_of_ble_eq_true rfl, Nat.le_of_ble_eq_true rfl⟩ (Nat.le_of_ble_eq_true rfl) dL_faultOf_53 (fun μ hF _ => ?_)
  refine jw_istore (lw := [(6, .int _), (5, .int _), (4, .ref _), (0, .long _), (2, .long _)]) C dL_faultOf_56 hN_6 rfl ?_
  refine jw_iload C dL_faultOf_58 1 rfl ?_
  refine jw_bipush (v := (-6)) C dL_faultOf_60 (by decide) ?_
  refine jw_icmp_eq C 105 dL_faultOf_62 (by decide) (fun c => absurd c (by decide)) (fun _ => ?_)
  refine jw_aload C dL_faultOf_65 2 rfl ?_
  refine jx_carry C XT hF trivial fa22_O1 fa22_z2 gL_faultOf_X5_carryOut (Nat.le_of_ble_eq_true rfl) (Nat.le_of_ble_eq_true rfl) ⟨Nat.le_of_ble_eq_true rfl, Nat.le_of_ble_eq_true rfl⟩ (Nat.le_of_ble_eq_true rfl) dL_faultOf_67 (fun μ hF _ => ?_)
  refine jw_bipush (v := (-3)) C dL_faultOf_70 (by decide) ?_
  refine jw_icmp_ne C 102 dL_faultOf_72 (by decide) (fun c => absurd (by decide) c) (fun _ => ?_)
  refine jw_aload C dL_faultOf_75 2 rfl ?_
  refine jw_bipush (v := 6) C dL_faultOf_77 (by decide) ?_
  refine jx_count C XT hF trivial fa22_O1 fa22_v1 gL_faultOf_X5_count (Nat.le_of_ble_eq_true rfl) (Nat.le_of_ble_eq_true rfl) ⟨Nat.le_of_ble_eq_true rfl, Nat.le_of_ble_eq_true rfl⟩ (Nat.le_of_ble_eq_true rfl) dL_faultOf_79 (fun μ hF _ => ?_)
  refine jw_iload C dL_faultOf_82 0 rfl ?_
  refine jw_icmp_ne C 102 dL_faultOf_84 (by decide) (fun c => absurd (by decide) c) (fun _ => ?_)
  refine jw_aload C dL_faultOf_87 2 rfl ?_
  refine jw_bipush (v := 7) C dL_faultOf_89 (by decide) ?_
  refine jx_count C XT hF trivial fa22_O1 fa22_v3 gL_faultOf_X5_count (Nat.le_of_ble_eq_true rfl) (Nat.le_of_ble_eq_true rfl) ⟨Nat.le_of_ble_eq_true rfl, Nat.le_of_ble_eq_true rfl⟩ (Nat.le_of_ble_eq_true rfl) dL_faultOf_91 (fun μ hF _ => ?_)
  refine jw_if_ne C 102 dL_faultOf_94 (by decide) (fun c => absurd (by decide) c) (fun _ => ?_)
  refine jw_iload C dL_faultOf_97 1 rfl ?_
  refine jw_goto (tgt := 104) C dL_faultOf_99 (by decide) ?_
  exact jw_fret G rfl rfl (Nat.le_of_ble_eq_true rfl) (Nat.le_of_ble_eq_true rfl) dL_faultOf_104
theorem cf22 (l : Launch) : ConF l yL_faultOf wsL_faultOf rmL_faultOf EX5 [.long 14985455421847611, .long 0] (fun v => v = some (.int (7 : Int32))) 88 3874 := ConF.mk (cc := cL_faultOf) (maxL := 7) (ret := (some .int)) (own := RL) (by decide) rfl rfl (Nat.le_of_ble_eq_true rfl) (fun K hN G => cf22_S0 hN G G.1)
set_option maxRecDepth 100000 in
set_option maxHeartbeats 4000000 in
theorem cf23_S0 {K : KT} {l : Launch} (hN : kN K = 7) (G : CtxF K l cL_faultOf RL wsL_faultOf rmL_faultOf EX5 (some .int) (fun v => v = some (.int (0 : Int32))) 88 3874) (C : Ctx K l cL_faultOf RL wsL_faultOf rmL_faultOf [] (fun _ => 0)) : JW K (0, 0) [] (fun _ => 0) μ0 0 [(0, .long (120 : Int64)), (2, .long (0 : Int64))] [] := by
  have hN_4 : 4 < kN K := by rw [hN]; decide
  have hN_5 : 5 < kN K := by rw [hN]; decide
  have hN_6 : 6 < kN K := by rw [hN]; decide
  refine jw_mkX (rest := []) C G.2.2.2.2.1 (List.mem_of_getElem? (i := 1) rfl) (List.mem_of_getElem? (i := 2) rfl) (List.mem_of_getElem? (i := 3) rfl) iwL_faultOf gL_faultOf_X5_init (List.mem_of_getElem? (i := 4) rfl) (List.mem_of_getElem? (i := 5) rfl) (Nat.le_of_ble_eq_true rfl) (Nat.le_of_ble_eq_true rfl) (Nat.le_of_ble_eq_true rfl) (Nat.le_of_ble_eq_true rfl) (by decide) dL_faultOf_0 rfl dL_faultOf_3 rfl dL_faultOf_4 (fun ad μ C hF _ => ?_)
  refine jw_astore (lw := [(4, .ref _), (0, .long _), (2, .long _)]) C dL_faultOf_7 hN_4 rfl ?_
  refine jw_lload_n C dL_faultOf_9 rfl 1 rfl ?_
  refine jw_lconst C dL_faultOf_10 (v := 0) rfl ?_
  refine jw_lcmp C dL_faultOf_11 ?_
  refine jw_if_eq C 24 dL_faultOf_12 (by decide) (fun c => absurd c (by decide +kernel)) (fun _ => ?_)
  refine jw_aload C dL_faultOf_15 0 rfl ?_
  refine jw_lload_n C dL_faultOf_17 rfl 1 rfl ?_
  refine jx_put C XT hF trivial F00_ok fa23_E1 gL_faultOf_X5_put (Nat.le_of_ble_eq_true rfl) (Nat.le_of_ble_eq_true rfl) ⟨Nat.le_of_ble_eq_true rfl, Nat.le_of_ble_eq_true rfl⟩ (Nat.le_of_ble_eq_true rfl) dL_faultOf_18 (fun μ hF _ => ?_)
  refine jw_if_lt C 39 dL_faultOf_21 (by decide) (fun c => absurd c (by decide)) (fun _ => ?_)
  refine jw_lload_n C dL_faultOf_24 rfl 2 rfl ?_
  refine jw_lconst C dL_faultOf_25 (v := 0) rfl ?_
  refine jw_lcmp C dL_faultOf_26 ?_
  refine jw_if_eq C 42 dL_faultOf_27 (by decide) (fun _ => ?_) (fun c => absurd (by decide +kernel) c)
  refine jw_aload C dL_faultOf_42 0 rfl ?_
  refine jx_fault C XT hF trivial fa23_O1 fa23_v0 gL_faultOf_X5_fault (Nat.le_of_ble_eq_true rfl) (Nat.le_of_ble_eq_true rfl) ⟨Nat.le_of_ble_eq_true rfl, Nat.le_of_ble_eq_true rfl⟩ (Nat.le_of_ble_eq_true rfl) dL_faultOf_44 (fun μ hF _ => ?_)
  refine jw_istore (lw := [(5, .int _), (4, .ref _), (0, .long _), (2, .long _)]) C dL_faultOf_47 hN_5 rfl ?_
  refine jw_aload C dL_faultOf_49 1 rfl ?_
  refine jw_bipush (v := 6) C dL_faultOf_51 (by decide) ?_
  refine jx_count C XT hF trivial fa23_O1 fa23_v1 gL_faultOf_X5_count (Nat.le_of_ble_eq_true rfl) (Nat.le_of_ble_eq_true rfl) ⟨Nat.le_of_ble_eq_true rfl, Nat.le_of_ble_eq_true rfl⟩ (Nat.le_of_ble_eq_true rfl) dL_faultOf_53 (fun μ hF _ => ?_)
  refine jw_istore (lw := [(6, .int _), (5, .int _), (4, .ref _), (0, .long _), (2, .long _)]) C dL_faultOf_56 hN_6 rfl ?_
  refine jw_iload C dL_faultOf_58 1 rfl ?_
  refine jw_bipush (v := (-6)) C dL_faultOf_60 (by decide) ?_
  refine jw_icmp_eq C 105 dL_faultOf_62 (by decide) (fun c => absurd c (by decide)) (fun _ => ?_)
  refine jw_aload C dL_faultOf_65 2 rfl ?_
  refine jx_carry C XT hF trivial fa23_O1 fa23_z2 gL_faultOf_X5_carryOut (Nat.le_of_ble_eq_true rfl) (Nat.le_of_ble_eq_true rfl) ⟨Nat.le_of_ble_eq_true rfl, Nat.le_of_ble_eq_true rfl⟩ (Nat.le_of_ble_eq_true rfl) dL_faultOf_67 (fun μ hF _ => ?_)
  refine jw_bipush (v := (-3)) C dL_faultOf_70 (by decide) ?_
  refine jw_icmp_ne C 102 dL_faultOf_72 (by decide) (fun c => absurd (by decide) c) (fun _ => ?_)
  refine jw_aload C dL_faultOf_75 2 rfl ?_
  refine jw_bipush (v := 6) C dL_faultOf_77 (by decide) ?_
  refine jx_count C XT hF trivial fa23_O1 fa23_v1 gL_faultOf_X5_count (Nat.le_of_ble_eq_true rfl) (Nat.le_of_ble_eq_true rfl) ⟨Nat.le_of_ble_eq_true rfl, Nat.le_of_ble_eq_true rfl⟩ (Nat.le_of_ble_eq_true rfl) dL_faultOf_79 (fun μ hF _ => ?_)
  refine jw_iload C dL_faultOf_82 0 rfl ?_
  refine jw_icmp_ne C 102 dL_faultOf_84 (by decide) (fun c => absurd (by decide) c) (fun _ => ?_)
  refine jw_aload C dL_faultOf_87 2 rfl ?_
  refine jw_bipush (v := 7) C dL_faultOf_89 (by decide) ?_
  refine jx_count C XT hF trivial fa23_O1 fa23_v3 gL_faultOf_X5_count (Nat.le_of_ble_eq_true rfl) (Nat.le_of_ble_eq_true rfl) ⟨Nat.le_of_ble_eq_true rfl, Nat.le_of_ble_eq_true rfl⟩ (Nat.le_of_ble_eq_true rfl) dL_faultOf_91 (fun μ hF _ => ?_)
  refine jw_if_ne C 102 dL_faultOf_94 (by decide) (fun c => absurd (by decide) c) (fun _ => ?_)
  refine jw_iload C dL_faultOf_97 1 rfl ?_
  refine jw_goto (tgt := 104) C dL_faultOf_99 (by decide) ?_
  exact jw_fret G rfl rfl (Nat.le_of_ble_eq_true rfl) (Nat.le_of_ble_eq_true rfl) dL_faultOf_104
theorem cf23 (l : Launch) : ConF l yL_faultOf wsL_faultOf rmL_faultOf EX5 [.long 120, .long 0] (fun v => v = some (.int (0 : Int32))) 88 3874 := ConF.mk (cc := cL_faultOf) (maxL := 7) (ret := (some .int)) (own := RL) (by decide) rfl rfl (Nat.le_of_ble_eq_true rfl) (fun K hN G => cf23_S0 hN G G.1)
set_option maxRecDepth 100000 in
set_option maxHeartbeats 4000000 in
theorem cf24_S0 {K : KT} {l : Launch} (hN : kN K = 7) (G : CtxF K l cL_faultOf RL wsL_faultOf rmL_faultOf EX5 (some .int) (fun v => v = some (.int (2 : Int32))) 88 3874) (C : Ctx K l cL_faultOf RL wsL_faultOf rmL_faultOf [] (fun _ => 0)) : JW K (0, 0) [] (fun _ => 0) μ0 0 [(0, .long (13629 : Int64)), (2, .long (0 : Int64))] [] := by
  have hN_4 : 4 < kN K := by rw [hN]; decide
  have hN_5 : 5 < kN K := by rw [hN]; decide
  have hN_6 : 6 < kN K := by rw [hN]; decide
  refine jw_mkX (rest := []) C G.2.2.2.2.1 (List.mem_of_getElem? (i := 1) rfl) (List.mem_of_getElem? (i := 2) rfl) (List.mem_of_getElem? (i := 3) rfl) iwL_faultOf gL_faultOf_X5_init (List.mem_of_getElem? (i := 4) rfl) (List.mem_of_getElem? (i := 5) rfl) (Nat.le_of_ble_eq_true rfl) (Nat.le_of_ble_eq_true rfl) (Nat.le_of_ble_eq_true rfl) (Nat.le_of_ble_eq_true rfl) (by decide) dL_faultOf_0 rfl dL_faultOf_3 rfl dL_faultOf_4 (fun ad μ C hF _ => ?_)
  refine jw_astore (lw := [(4, .ref _), (0, .long _), (2, .long _)]) C dL_faultOf_7 hN_4 rfl ?_
  refine jw_lload_n C dL_faultOf_9 rfl 1 rfl ?_
  refine jw_lconst C dL_faultOf_10 (v := 0) rfl ?_
  refine jw_lcmp C dL_faultOf_11 ?_
  refine jw_if_eq C 24 dL_faultOf_12 (by decide) (fun c => absurd c (by decide +kernel)) (fun _ => ?_)
  refine jw_aload C dL_faultOf_15 0 rfl ?_
  refine jw_lload_n C dL_faultOf_17 rfl 1 rfl ?_
  refine jx_put C XT hF trivial F00_ok fa24_E1 gL_faultOf_X5_put (Nat.le_of_ble_eq_true rfl) (Nat.le_of_ble_eq_true rfl) ⟨Nat.le_of_ble_eq_true rfl, Nat.le_of_ble_eq_true rfl⟩ (Nat.le_of_ble_eq_true rfl) dL_faultOf_18 (fun μ hF _ => ?_)
  refine jw_if_lt C 39 dL_faultOf_21 (by decide) (fun c => absurd c (by decide)) (fun _ => ?_)
  refine jw_lload_n C dL_faultOf_24 rfl 2 rfl ?_
  refine jw_lconst C dL_faultOf_25 (v := 0) rfl ?_
  refine jw_lcmp C dL_faultOf_26 ?_
  refine jw_if_eq C 42 dL_faultOf_27 (by decide) (fun _ => ?_) (fun c => absurd (by decide +kernel) c)
  refine jw_aload C dL_faultOf_42 0 rfl ?_
  refine jx_fault C XT hF trivial fa24_O1 fa24_v0 gL_faultOf_X5_fault (Nat.le_of_ble_eq_true rfl) (Nat.le_of_ble_eq_true rfl) ⟨Nat.le_of_ble_eq_true rfl, Nat.le_of_ble_eq_true rfl⟩ (Nat.le_of_ble_eq_true rfl) dL_faultOf_44 (fun μ hF _ => ?_)
  refine jw_istore (lw := [(5, .int _), (4, .ref _), (0, .long _), (2, .long _)]) C dL_faultOf_47 hN_5 rfl ?_
  refine jw_aload C dL_faultOf_49 1 rfl ?_
  refine jw_bipush (v := 6) C dL_faultOf_51 (by decide) ?_
  refine jx_count C XT hF trivial fa24_O1 fa24_v1 gL_faultOf_X5_count (Nat.le_of_ble_eq_true rfl) (Nat.le_of_ble_eq_true rfl) ⟨Nat.le_of_ble_eq_true rfl, Nat.le_of_ble_eq_true rfl⟩ (Nat.le_of_ble_eq_true rfl) dL_faultOf_53 (fun μ hF _ => ?_)
  refine jw_istore (lw := [(6, .int _), (5, .int _), (4, .ref _), (0, .long _), (2, .long _)]) C dL_faultOf_56 hN_6 rfl ?_
  refine jw_iload C dL_faultOf_58 1 rfl ?_
  refine jw_bipush (v := (-6)) C dL_faultOf_60 (by decide) ?_
  refine jw_icmp_eq C 105 dL_faultOf_62 (by decide) (fun c => absurd c (by decide)) (fun _ => ?_)
  refine jw_aload C dL_faultOf_65 2 rfl ?_
  refine jx_carry C XT hF trivial fa24_O1 fa24_z2 gL_faultOf_X5_carryOut (Nat.le_of_ble_eq_true rfl) (Nat.le_of_ble_eq_true rfl) ⟨Nat.le_of_ble_eq_true rfl, Nat.le_of_ble_eq_true rfl⟩ (Nat.le_of_ble_eq_true rfl) dL_faultOf_67 (fun μ hF _ => ?_)
  refine jw_bipush (v := (-3)) C dL_faultOf_70 (by decide) ?_
  refine jw_icmp_ne C 102 dL_faultOf_72 (by decide) (fun c => absurd (by decide) c) (fun _ => ?_)
  refine jw_aload C dL_faultOf_75 2 rfl ?_
  refine jw_bipush (v := 6) C dL_faultOf_77 (by decide) ?_
  refine jx_count C XT hF trivial fa24_O1 fa24_v1 gL_faultOf_X5_count (Nat.le_of_ble_eq_true rfl) (Nat.le_of_ble_eq_true rfl) ⟨Nat.le_of_ble_eq_true rfl, Nat.le_of_ble_eq_true rfl⟩ (Nat.le_of_ble_eq_true rfl) dL_faultOf_79 (fun μ hF _ => ?_)
  refine jw_iload C dL_faultOf_82 0 rfl ?_
  refine jw_icmp_ne C 102 dL_faultOf_84 (by decide) (fun c => absurd (by decide) c) (fun _ => ?_)
  refine jw_aload C dL_faultOf_87 2 rfl ?_
  refine jw_bipush (v := 7) C dL_faultOf_89 (by decide) ?_
  refine jx_count C XT hF trivial fa24_O1 fa24_v3 gL_faultOf_X5_count (Nat.le_of_ble_eq_true rfl) (Nat.le_of_ble_eq_true rfl) ⟨Nat.le_of_ble_eq_true rfl, Nat.le_of_ble_eq_true rfl⟩ (Nat.le_of_ble_eq_true rfl) dL_faultOf_91 (fun μ hF _ => ?_)
  refine jw_if_ne C 102 dL_faultOf_94 (by decide) (fun c => absurd (by decide) c) (fun _ => ?_)
  refine jw_iload C dL_faultOf_97 1 rfl ?_
  refine jw_goto (tgt := 104) C dL_faultOf_99 (by decide) ?_
  exact jw_fret G rfl rfl (Nat.le_of_ble_eq_true rfl) (Nat.le_of_ble_eq_true rfl) dL_faultOf_104
theorem cf24 (l : Launch) : ConF l yL_faultOf wsL_faultOf rmL_faultOf EX5 [.long 13629, .long 0] (fun v => v = some (.int (2 : Int32))) 88 3874 := ConF.mk (cc := cL_faultOf) (maxL := 7) (ret := (some .int)) (own := RL) (by decide) rfl rfl (Nat.le_of_ble_eq_true rfl) (fun K hN G => cf24_S0 hN G G.1)
set_option maxRecDepth 100000 in
set_option maxHeartbeats 4000000 in
theorem cf25_S0 {K : KT} {l : Launch} (hN : kN K = 7) (G : CtxF K l cL_faultOf RL wsL_faultOf rmL_faultOf EX5 (some .int) (fun v => v = some (.int (2 : Int32))) 88 3874) (C : Ctx K l cL_faultOf RL wsL_faultOf rmL_faultOf [] (fun _ => 0)) : JW K (0, 0) [] (fun _ => 0) μ0 0 [(0, .long (13611 : Int64)), (2, .long (0 : Int64))] [] := by
  have hN_4 : 4 < kN K := by rw [hN]; decide
  have hN_5 : 5 < kN K := by rw [hN]; decide
  have hN_6 : 6 < kN K := by rw [hN]; decide
  refine jw_mkX (rest := []) C G.2.2.2.2.1 (List.mem_of_getElem? (i := 1) rfl) (List.mem_of_getElem? (i := 2) rfl) (List.mem_of_getElem? (i := 3) rfl) iwL_faultOf gL_faultOf_X5_init (List.mem_of_getElem? (i := 4) rfl) (List.mem_of_getElem? (i := 5) rfl) (Nat.le_of_ble_eq_true rfl) (Nat.le_of_ble_eq_true rfl) (Nat.le_of_ble_eq_true rfl) (Nat.le_of_ble_eq_true rfl) (by decide) dL_faultOf_0 rfl dL_faultOf_3 rfl dL_faultOf_4 (fun ad μ C hF _ => ?_)
  refine jw_astore (lw := [(4, .ref _), (0, .long _), (2, .long _)]) C dL_faultOf_7 hN_4 rfl ?_
  refine jw_lload_n C dL_faultOf_9 rfl 1 rfl ?_
  refine jw_lconst C dL_faultOf_10 (v := 0) rfl ?_
  refine jw_lcmp C dL_faultOf_11 ?_
  refine jw_if_eq C 24 dL_faultOf_12 (by decide) (fun c => absurd c (by decide +kernel)) (fun _ => ?_)
  refine jw_aload C dL_faultOf_15 0 rfl ?_
  refine jw_lload_n C dL_faultOf_17 rfl 1 rfl ?_
  refine jx_put C XT hF trivial F00_ok fa25_E1 gL_faultOf_X5_put (Nat.le_of_ble_eq_true rfl) (Nat.le_of_ble_eq_true rfl) ⟨Nat.le_of_ble_eq_true rfl, Nat.le_of_ble_eq_true rfl⟩ (Nat.le_of_ble_eq_true rfl) dL_faultOf_18 (fun μ hF _ => ?_)
  refine jw_if_lt C 39 dL_faultOf_21 (by decide) (fun c => absurd c (by decide)) (fun _ => ?_)
  refine jw_lload_n C dL_faultOf_24 rfl 2 rfl ?_
  refine jw_lconst C dL_faultOf_25 (v := 0) rfl ?_
  refine jw_lcmp C dL_faultOf_26 ?_
  refine jw_if_eq C 42 dL_faultOf_27 (by decide) (fun _ => ?_) (fun c => absurd (by decide +kernel) c)
  refine jw_aload C dL_faultOf_42 0 rfl ?_
  refine jx_fault C XT hF trivial fa25_O1 fa25_v0 gL_faultOf_X5_fault (Nat.le_of_ble_eq_true rfl) (Nat.le_of_ble_eq_true rfl) ⟨Nat.le_of_ble_eq_true rfl, Nat.le_of_ble_eq_true rfl⟩ (Nat.le_of_ble_eq_true rfl) dL_faultOf_44 (fun μ hF _ => ?_)
  refine jw_istore (lw := [(5, .int _), (4, .ref _), (0, .long _), (2, .long _)]) C dL_faultOf_47 hN_5 rfl ?_
  refine jw_aload C dL_faultOf_49 1 rfl ?_
  refine jw_bipush (v := 6) C dL_faultOf_51 (by decide) ?_
  refine jx_count C XT hF trivial fa25_O1 fa25_v1 gL_faultOf_X5_count (Nat.le_of_ble_eq_true rfl) (Nat.le_of_ble_eq_true rfl) ⟨Nat.le_of_ble_eq_true rfl, Nat.le_of_ble_eq_true rfl⟩ (Nat.le_of_ble_eq_true rfl) dL_faultOf_53 (fun μ hF _ => ?_)
  refine jw_istore (lw := [(6, .int _), (5, .int _), (4, .ref _), (0, .long _), (2, .long _)]) C dL_faultOf_56 hN_6 rfl ?_
  refine jw_iload C dL_faultOf_58 1 rfl ?_
  refine jw_bipush (v := (-6)) C dL_faultOf_60 (by decide) ?_
  refine jw_icmp_eq C 105 dL_faultOf_62 (by decide) (fun c => absurd c (by decide)) (fun _ => ?_)
  refine jw_aload C dL_faultOf_65 2 rfl ?_
  refine jx_carry C XT hF trivial fa25_O1 fa25_z2 gL_faultOf_X5_carryOut (Nat.le_of_ble_eq_true rfl) (Nat.le_of_ble_eq_true rfl) ⟨Nat.le_of_ble_eq_true rfl, Nat.le_of_ble_eq_true rfl⟩ (Nat.le_of_ble_eq_true rfl) dL_faultOf_67 (fun μ hF _ => ?_)
  refine jw_bipush (v := (-3)) C dL_faultOf_70 (by decide) ?_
  refine jw_icmp_ne C 102 dL_faultOf_72 (by decide) (fun c => absurd (by decide) c) (fun _ => ?_)
  refine jw_aload C dL_faultOf_75 2 rfl ?_
  refine jw_bipush (v := 6) C dL_faultOf_77 (by decide) ?_
  refine jx_count C XT hF trivial fa25_O1 fa25_v1 gL_faultOf_X5_count (Nat.le_of_ble_eq_true rfl) (Nat.le_of_ble_eq_true rfl) ⟨Nat.le_of_ble_eq_true rfl, Nat.le_of_ble_eq_true rfl⟩ (Nat.le_of_ble_eq_true rfl) dL_faultOf_79 (fun μ hF _ => ?_)
  refine jw_iload C dL_faultOf_82 0 rfl ?_
  refine jw_icmp_ne C 102 dL_faultOf_84 (by decide) (fun c => absurd (by decide) c) (fun _ => ?_)
  refine jw_aload C dL_faultOf_87 2 rfl ?_
  refine jw_bipush (v := 7) C dL_faultOf_89 (by decide) ?_
  refine jx_count C XT hF trivial fa25_O1 fa25_v3 gL_faultOf_X5_count (Nat.le_of_ble_eq_true rfl) (Nat.le_of_ble_eq_true rfl) ⟨Nat.le_of_ble_eq_true rfl, Nat.le_of_ble_eq_true rfl⟩ (Nat.le_of_ble_eq_true rfl) dL_faultOf_91 (fun μ hF _ => ?_)
  refine jw_if_ne C 102 dL_faultOf_94 (by decide) (fun c => absurd (by decide) c) (fun _ => ?_)
  refine jw_iload C dL_faultOf_97 1 rfl ?_
  refine jw_goto (tgt := 104) C dL_faultOf_99 (by decide) ?_
  exact jw_fret G rfl rfl (Nat.le_of_ble_eq_true rfl) (Nat.le_of_ble_eq_true rfl) dL_faultOf_104
theorem cf25 (l : Launch) : ConF l yL_faultOf wsL_faultOf rmL_faultOf EX5 [.long 13611, .long 0] (fun v => v = some (.int (2 : Int32))) 88 3874 := ConF.mk (cc := cL_faultOf) (maxL := 7) (ret := (some .int)) (own := RL) (by decide) rfl rfl (Nat.le_of_ble_eq_true rfl) (fun K hN G => cf25_S0 hN G G.1)
set_option maxRecDepth 100000 in
set_option maxHeartbeats 4000000 in
theorem cf26_S0 {K : KT} {l : Launch} (hN : kN K = 7) (G : CtxF K l cL_faultOf RL wsL_faultOf rmL_faultOf EX5 (some .int) (fun v => v = some (.int (0 : Int32))) 88 3874) (C : Ctx K l cL_faultOf RL wsL_faultOf rmL_faultOf [] (fun _ => 0)) : JW K (0, 0) [] (fun _ => 0) μ0 0 [(0, .long (758328113 : Int64)), (2, .long (0 : Int64))] [] := by
  have hN_4 : 4 < kN K := by rw [hN]; decide
  have hN_5 : 5 < kN K := by rw [hN]; decide
  have hN_6 : 6 < kN K := by rw [hN]; decide
  refine jw_mkX (rest := []) C G.2.2.2.2.1 (List.mem_of_getElem? (i := 1) rfl) (List.mem_of_getElem? (i := 2) rfl) (List.mem_of_getElem? (i := 3) rfl) iwL_faultOf gL_faultOf_X5_init (List.mem_of_getElem? (i := 4) rfl) (List.mem_of_getElem? (i := 5) rfl) (Nat.le_of_ble_eq_true rfl) (Nat.le_of_ble_eq_true rfl) (Nat.le_of_ble_eq_true rfl) (Nat.le_of_ble_eq_true rfl) (by decide) dL_faultOf_0 rfl dL_faultOf_3 rfl dL_faultOf_4 (fun ad μ C hF _ => ?_)
  refine jw_astore (lw := [(4, .ref _), (0, .long _), (2, .long _)]) C dL_faultOf_7 hN_4 rfl ?_
  refine jw_lload_n C dL_faultOf_9 rfl 1 rfl ?_
  refine jw_lconst C dL_faultOf_10 (v := 0) rfl ?_
  refine jw_lcmp C dL_faultOf_11 ?_
  refine jw_if_eq C 24 dL_faultOf_12 (by decide) (fun c => absurd c (by decide +kernel)) (fun _ => ?_)
  refine jw_aload C dL_faultOf_15 0 rfl ?_
  refine jw_lload_n C dL_faultOf_17 rfl 1 rfl ?_
  refine jx_put C XT hF trivial F00_ok fa26_E1 gL_faultOf_X5_put (Nat.le_of_ble_eq_true rfl) (Nat.le_of_ble_eq_true rfl) ⟨Nat.le_of_ble_eq_true rfl, Nat.le_of_ble_eq_true rfl⟩ (Nat.le_of_ble_eq_true rfl) dL_faultOf_18 (fun μ hF _ => ?_)
  refine jw_if_lt C 39 dL_faultOf_21 (by decide) (fun c => absurd c (by decide)) (fun _ => ?_)
  refine jw_lload_n C dL_faultOf_24 rfl 2 rfl ?_
  refine jw_lconst C dL_faultOf_25 (v := 0) rfl ?_
  refine jw_lcmp C dL_faultOf_26 ?_
  refine jw_if_eq C 42 dL_faultOf_27 (by decide) (fun _ => ?_) (fun c => absurd (by decide +kernel) c)
  refine jw_aload C dL_faultOf_42 0 rfl ?_
  refine jx_fault C XT hF trivial fa26_O1 fa26_v0 gL_faultOf_X5_fault (Nat.le_of_ble_eq_true rfl) (Nat.le_of_ble_eq_true rfl) ⟨Nat.le_of_ble_eq_true rfl, Nat.le_of_ble_eq_true rfl⟩ (Nat.le_of_ble_eq_true rfl) dL_faultOf_44 (fun μ hF _ => ?_)
  refine jw_istore (lw := [(5, .int _), (4, .ref _), (0, .long _), (2, .long _)]) C dL_faultOf_47 hN_5 rfl ?_
  refine jw_aload C dL_faultOf_49 1 rfl ?_
  refine jw_bipush (v := 6) C dL_faultOf_51 (by decide) ?_
  refine jx_count C XT hF trivial fa26_O1 fa26_v1 gL_faultOf_X5_count (Nat.le_of_ble_eq_true rfl) (Nat.le_of_ble_eq_true rfl) ⟨Nat.le_of_ble_eq_true rfl, Nat.le_of_ble_eq_true rfl⟩ (Nat.le_of_ble_eq_true rfl) dL_faultOf_53 (fun μ hF _ => ?_)
  refine jw_istore (lw := [(6, .int _), (5, .int _), (4, .ref _), (0, .long _), (2, .long _)]) C dL_faultOf_56 hN_6 rfl ?_
  refine jw_iload C dL_faultOf_58 1 rfl ?_
  refine jw_bipush (v := (-6)) C dL_faultOf_60 (by decide) ?_
  refine jw_icmp_eq C 105 dL_faultOf_62 (by decide) (fun c => absurd c (by decide)) (fun _ => ?_)
  refine jw_aload C dL_faultOf_65 2 rfl ?_
  refine jx_carry C XT hF trivial fa26_O1 fa26_z2 gL_faultOf_X5_carryOut (Nat.le_of_ble_eq_true rfl) (Nat.le_of_ble_eq_true rfl) ⟨Nat.le_of_ble_eq_true rfl, Nat.le_of_ble_eq_true rfl⟩ (Nat.le_of_ble_eq_true rfl) dL_faultOf_67 (fun μ hF _ => ?_)
  refine jw_bipush (v := (-3)) C dL_faultOf_70 (by decide) ?_
  refine jw_icmp_ne C 102 dL_faultOf_72 (by decide) (fun c => absurd (by decide) c) (fun _ => ?_)
  refine jw_aload C dL_faultOf_75 2 rfl ?_
  refine jw_bipush (v := 6) C dL_faultOf_77 (by decide) ?_
  refine jx_count C XT hF trivial fa26_O1 fa26_v1 gL_faultOf_X5_count (Nat.le_of_ble_eq_true rfl) (Nat.le_of_ble_eq_true rfl) ⟨Nat.le_of_ble_eq_true rfl, Nat.le_of_ble_eq_true rfl⟩ (Nat.le_of_ble_eq_true rfl) dL_faultOf_79 (fun μ hF _ => ?_)
  refine jw_iload C dL_faultOf_82 0 rfl ?_
  refine jw_icmp_ne C 102 dL_faultOf_84 (by decide) (fun c => absurd (by decide) c) (fun _ => ?_)
  refine jw_aload C dL_faultOf_87 2 rfl ?_
  refine jw_bipush (v := 7) C dL_faultOf_89 (by decide) ?_
  refine jx_count C XT hF trivial fa26_O1 fa26_v3 gL_faultOf_X5_count (Nat.le_of_ble_eq_true rfl) (Nat.le_of_ble_eq_true rfl) ⟨Nat.le_of_ble_eq_true rfl, Nat.le_of_ble_eq_true rfl⟩ (Nat.le_of_ble_eq_true rfl) dL_faultOf_91 (fun μ hF _ => ?_)
  refine jw_if_ne C 102 dL_faultOf_94 (by decide) (fun c => absurd (by decide) c) (fun _ => ?_)
  refine jw_iload C dL_faultOf_97 1 rfl ?_
  refine jw_goto (tgt := 104) C dL_faultOf_99 (by decide) ?_
  exact jw_fret G rfl rfl (Nat.le_of_ble_eq_true rfl) (Nat.le_of_ble_eq_true rfl) dL_faultOf_104
theorem cf26 (l : Launch) : ConF l yL_faultOf wsL_faultOf rmL_faultOf EX5 [.long 758328113, .long 0] (fun v => v = some (.int (0 : Int32))) 88 3874 := ConF.mk (cc := cL_faultOf) (maxL := 7) (ret := (some .int)) (own := RL) (by decide) rfl rfl (Nat.le_of_ble_eq_true rfl) (fun K hN G => cf26_S0 hN G G.1)
