/-! THE LAW: its start -/
theorem kindK {s : State} {args : Array Value} {ty : FieldType} (h : (Cond.arrayClass ty).before args s = true) : ∃ cA : ClassId, ArrOfT s cA ty ∧ s.vm.findClass ("[" ++ ty.toString) = some cA := by
  obtain ⟨cA, kA, comp, h1, h2, h3⟩ := Cond.arrayClass_spec h
  exact ⟨cA, fun n z => ⟨fun k h => (by cases h), kA, h2, comp, h3⟩, h1⟩
theorem kindO {s : State} {args : Array Value} {C : String} (h : (Cond.arrayOver (.object C)).before args s = true) : ∃ cA : ClassId, ArrOfT s cA (.object C) ∧ va_RA s cA (.object C) := by
  obtain ⟨comp, cA, kA, h1, h2, h3, h4, h5⟩ := Cond.arrayOver_spec h
  exact ⟨cA, fun n z => ⟨fun k h => (by cases h), kA, h3, comp, h4⟩, kA, comp, h3, h4, h1, h5⟩
set_option maxRecDepth 100000 in
set_option maxHeartbeats 4000000 in
theorem kSt_0 {s : State} {b : Nat} (hts : ∀ w ∈ lw_tbl, w.before #[Value.ref b] s = true) (hgv : (Jvm.Cond.and given_1 narrow_1).before #[Value.ref b] s = true) : kSt (fun q : Nat => s.heap.size ≤ q) s s.heap := by
  have hs := flat_of_before _ hgv
  have hA : ∀ a : Nat, a < s.heap.size → ¬ (fun q : Nat => s.heap.size ≤ q) a := fun a h q => absurd h (Nat.not_lt.mpr q)
  obtain ⟨t1, e1, hT1⟩ := va_Tof (tm := .static RX2 "FIRST_KEYS" "[I") (ty := .int) (N := 13) (f := fun j => .int (tbF j)) (A := fun q : Nat => s.heap.size ≤ q) (by decide) (hs (.arrayOf (.static RX2 "FIRST_KEYS" "[I") .int) (by decide +kernel)) (va_eqt (hs (.eq (.length (.static RX2 "FIRST_KEYS" "[I")) (.int 13)) (by decide +kernel))) (fun j hj => by
    rcases (show j = 0 ∨ j = 1 ∨ j = 2 ∨ j = 3 ∨ j = 4 ∨ j = 5 ∨ j = 6 ∨ j = 7 ∨ j = 8 ∨ j = 9 ∨ j = 10 ∨ j = 11 ∨ j = 12 by omega) with rfl | rfl | rfl | rfl | rfl | rfl | rfl | rfl | rfl | rfl | rfl | rfl | rfl <;> exact va_eqt (hs _ (by decide +kernel))) hA
  obtain ⟨t2, e2, hT2⟩ := va_Tof (tm := .static RX2 "KEYS_OF_CHILD" "[I") (ty := .int) (N := 13) (f := fun j => .int (tbK j)) (A := fun q : Nat => s.heap.size ≤ q) (by decide) (hs (.arrayOf (.static RX2 "KEYS_OF_CHILD" "[I") .int) (by decide +kernel)) (va_eqt (hs (.eq (.length (.static RX2 "KEYS_OF_CHILD" "[I")) (.int 13)) (by decide +kernel))) (fun j hj => by
    rcases (show j = 0 ∨ j = 1 ∨ j = 2 ∨ j = 3 ∨ j = 4 ∨ j = 5 ∨ j = 6 ∨ j = 7 ∨ j = 8 ∨ j = 9 ∨ j = 10 ∨ j = 11 ∨ j = 12 by omega) with rfl | rfl | rfl | rfl | rfl | rfl | rfl | rfl | rfl | rfl | rfl | rfl | rfl <;> exact va_eqt (hs _ (by decide +kernel))) hA
  exact ⟨t1, t2, va_Zof (hts _ (by decide +kernel)) (hts (.initialized RX2) (by decide +kernel)) e1 hA, hT1, va_Zof (hts _ (by decide +kernel)) (hts (.initialized RX2) (by decide +kernel)) e2 hA, hT2⟩

set_option maxRecDepth 100000 in
set_option maxHeartbeats 8000000 in
theorem law_start {K : KT} {l : Launch} {b L : Nat} {xs : Nat → Int32} (hN : kN K = 10) (C : Ctx K l cL_law RL wsL_law room_1 [] (fun _ => 0)) (hE : EX5 (kS K)) (hX : va_X b L xs (kS K) (kS K).heap) (hbl : b < (kS K).heap.size) (hbA : ¬ kA K b) (hL : L ≤ 260) (hret : ∀ ad μ lv, Ctx K l cL_law RL wsL_law room_1 shW ad → JW K (2729, 120158) shW ad μ 468 lv [.int 1]) : JW K (0, 0) [] (fun _ => 0) μ0 0 [(0, .ref b)] [] := by
  have hN_1 : 1 < kN K := by rw [hN]; decide
  have hN_2 : 2 < kN K := by rw [hN]; decide
  have hN_3 : 3 < kN K := by rw [hN]; decide
  have hN_4 : 4 < kN K := by rw [hN]; decide
  refine jw_callF (As := []) (rest := []) C exC (exW hE) (cn_texts l) miL_texts gL_law_L_texts rfl rfl ⟨(Nat.le_of_ble_eq_true rfl), (Nat.le_of_ble_eq_true rfl)⟩ rfl rfl (by decide) dL_law_0 ⟨(Nat.le_of_ble_eq_true rfl), (Nat.le_of_ble_eq_true rfl)⟩ (fun v hv => ?_)
  subst hv
  refine jw_if_eq C 18 dL_law_3 (by decide) (fun c => absurd c (by decide)) (fun _ => ?_)
  refine jw_callF (As := []) (rest := []) C exC (exW hE) (cn_known l) miL_known gL_law_L_known rfl rfl ⟨(Nat.le_of_ble_eq_true rfl), (Nat.le_of_ble_eq_true rfl)⟩ rfl rfl (by decide) dL_law_6 ⟨(Nat.le_of_ble_eq_true rfl), (Nat.le_of_ble_eq_true rfl)⟩ (fun v hv => ?_)
  subst hv
  refine jw_if_eq C 18 dL_law_9 (by decide) (fun c => absurd c (by decide)) (fun _ => ?_)
  refine jw_callF (As := []) (rest := []) C exC (exW hE) (cn_pieces l) miL_pieces gL_law_L_pieces rfl rfl ⟨(Nat.le_of_ble_eq_true rfl), (Nat.le_of_ble_eq_true rfl)⟩ rfl rfl (by decide) dL_law_12 ⟨(Nat.le_of_ble_eq_true rfl), (Nat.le_of_ble_eq_true rfl)⟩ (fun v hv => ?_)
  subst hv
  refine jw_if_ne C 20 dL_law_15 (by decide) (fun _ => ?_) (fun c => absurd c (by decide))
  refine jw_mkX (rest := []) C hE (List.mem_of_getElem? (i := 0) rfl) (List.mem_of_getElem? (i := 1) rfl) (List.mem_of_getElem? (i := 2) rfl) inlX5 gL_law_X5_init (List.mem_of_getElem? (i := 43) rfl) (List.mem_of_getElem? (i := 44) rfl) (Nat.le_of_ble_eq_true rfl) (Nat.le_of_ble_eq_true rfl) (Nat.le_of_ble_eq_true rfl) (Nat.le_of_ble_eq_true rfl) (by decide) dL_law_20 rfl dL_law_23 rfl dL_law_24 (fun ad μ C1 hF hz => ?_)
  refine jw_astore_n (lw := [(1, .ref _), (0, .ref _)]) C1 dL_law_27 rfl hN_1 rfl ?_
  refine jw_bipush (v := 64) C1 dL_law_28 (by decide) ?_
  refine jw_newl (N := 64) C1 (List.mem_of_getElem? (i := 3) rfl) (by decide) (by decide) (by decide) (Nat.le_of_ble_eq_true rfl) (Nat.le_of_ble_eq_true rfl) (by decide +kernel) (hz 88 (by decide)) dL_law_30 (fun q2 C2 => ?_)
  have key : ∀ ad2 : Nat → Nat, Ctx K l cL_law RL wsL_law room_1 shW ad2 → JW K (2729, 120158) shW ad2 μ 32 [(1, .ref (ad2 0)), (0, .ref b)] [.ref (ad2 88)] := fun ad2 C => by
    refine jw_astore_n (lw := [(2, .ref _), (1, .ref _), (0, .ref _)]) C dL_law_32 rfl hN_2 rfl ?_
    refine jw_iconst (v := 0) C dL_law_33 (by decide) ?_
    refine jw_istore_n (lw := [(3, .int 0), (2, .ref _), (1, .ref _), (0, .ref _)]) C dL_law_34 rfl hN_3 rfl ?_
    have hE2 : EW (fun j => lgF (μ 88) j) μ := fun j _ => rfl
    have hk2 := fPut_ok (a := 13688) F00_ok
    have ep := put_x (F := F00) rfl
    rw [ep] at hk2
    refine jw_aload_n C dL_law_35 rfl 2 rfl ?_
    refine jw_ldc2 (v := 13688) C (List.mem_of_getElem? (i := 4) rfl) dL_law_36 ?_
    refine jx_put C XW hF hE2 F00_ok ep gL_law_X5_put (Nat.le_of_ble_eq_true rfl) (Nat.le_of_ble_eq_true rfl) ⟨(Nat.le_of_ble_eq_true rfl), (Nat.le_of_ble_eq_true rfl)⟩ (by decide) dL_law_39 (fun μ hF hE => ?_)
    refine jw_iconst (v := 2) C dL_law_42 (by decide) ?_
    refine jw_icmp_eq C 48 dL_law_43 (by decide) (fun _ => ?_) (fun c => absurd rfl c)
    refine jw_iconst (v := 0) C dL_law_48 (by decide) ?_
    refine jw_istore (lw := [(4, .int (nI 0)), (3, .int (nI 0)), (2, .ref (ad2 88)), (1, .ref (ad2 0)), (0, .ref b)]) C dL_law_49 hN_4 rfl ?_
    refine lw_loop hN C hX hbl hbA hL (fun c w F μ hI hF hE => lw_end hN C (fun μ lv => hret ad2 μ lv C) hI hF hE) 40 0 0 _ _ μ (by decide) ⟨hk2, Nat.zero_le _, ⟨rfl, fun j t h => (by cases h)⟩, Or.inl ⟨rfl, Nat.le_refl _⟩, fun h => absurd h (by decide)⟩ hF hE
  have w2 : adN ad shX.length q2 88 = q2 := adN_n _ _ _
  have w0 : adN ad shX.length q2 0 = ad 0 := adN_k _ _ (by decide)
  have h := key (adN ad shX.length q2) C2
  rw [w2, w0] at h
  exact h
