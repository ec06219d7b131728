/-! contracts, by program -/
theorem fit_z {v : Int32} (h : v = 0 ∨ v = 1) : fits .boolean (.int v) = true := by
  rcases h with h | h <;> subst h <;> rfl
set_option maxRecDepth 100000 in
set_option maxHeartbeats 4000000 in
theorem jbX6_allStones_4 {K : KT} {l : Launch} {ad : Nat → Nat} {Q : Int32 → Mem → Prop} (hN : kN K = 3) (C : CtxM K l cX6_allStones RX6 wsX6_allStones rmX6_allStones shM ad (some .int) (pI Q)) : ∀ (n : Nat) (x1 : Int32) (x2 : Int32) (μ : Mem), bkX6_allStones_4 Q n x1 x2 μ → JW K (0, 0) shM ad μ 4 [(0, .ref (ad 0)), (1, .int x1), (2, .int x2)] [] := by
  have hN_1 : 1 < kN K := by rw [hN]; decide
  have hN_2 : 2 < kN K := by rw [hN]; decide
  intro n
  induction n with
  | zero =>
    intro x1 x2 μ h
    exact h.elim
  | succ n ih =>
    intro x1 x2 μ h
    unfold bkX6_allStones_4 at h
    refine jw_iload_n C.1 dX6_allStones_4 rfl 2 rfl ?_
    refine jw_bipush C.1 dX6_allStones_5 kb_13 ?_
    refine jw_icmp_ge C.1 28 dX6_allStones_7 (by decide) (fun c => ?_) (fun c => ?_)
    · have h := h.1 c
      refine jw_iload_n C.1 dX6_allStones_28 rfl 1 rfl ?_
      exact jw_iret (Q := Q) C h dX6_allStones_29
    · have h := h.2 c
      refine jw_iload_n C.1 dX6_allStones_10 rfl 1 rfl ?_
      refine jw_aload_n C.1 dX6_allStones_11 rfl 0 rfl ?_
      refine jw_getR C.1 iwX6_allStones_X6 rfl shM_0 rfl 0 (by decide) rfl (List.mem_of_getElem? (i := 1) rfl) dX6_allStones_12 ?_
      refine jw_bipush C.1 dX6_allStones_15 kb_72 ?_
      refine jw_iload_n C.1 dX6_allStones_17 rfl 2 rfl ?_
      refine jw_iadd C.1 dX6_allStones_18 ?_
      obtain ⟨hi, h⟩ := h
      refine jw_iald C.1 rfl shM_1 hi dX6_allStones_19 ?_
      refine jw_iadd C.1 dX6_allStones_20 ?_
      refine jw_istore_n (lw := [(1, .int _), (0, .ref _), (2, .int _)]) C.1 dX6_allStones_21 rfl hN_1 rfl ?_
      have h := h _ rfl
      refine jw_iinc (lw := [(2, .int _), (1, .int _), (0, .ref _)]) (q := 2) C.1 dX6_allStones_22 rfl (ai_1 _) hN_2 rfl ?_
      have h := h _ rfl
      refine jw_goto (tgt := 4) C.1 dX6_allStones_25 (by decide) ?_
      refine jw_sub [2, 1, 0] rfl ?_
      exact ih _ _ _ h
set_option maxRecDepth 100000 in
set_option maxHeartbeats 4000000 in
theorem ctX6_allStones (l : Launch) (μ : Mem) (Q : Int32 → Mem → Prop) (h : wpX6_allStones μ Q) : Con l yX6_allStones wsX6_allStones rmX6_allStones shM (fun ad => [.ref (ad 0)]) μ (pI Q) := by
  refine Con.mk (cc := cX6_allStones) (maxL := 3) (ret := (some .int)) (own := RX6) (by decide) rfl rfl (fun _ => Nat.le_of_ble_eq_true rfl) (fun K ad hN C => ?_)
  show JW K (0, 0) shM ad μ 0 [(0, .ref (ad 0))] []
  have hN_1 : 1 < kN K := by rw [hN]; decide
  have hN_2 : 2 < kN K := by rw [hN]; decide
  unfold wpX6_allStones at h
  refine jw_iconst C.1 dX6_allStones_0 ki_0 ?_
  refine jw_istore_n (lw := [(1, .int _), (0, .ref _)]) C.1 dX6_allStones_1 rfl hN_1 rfl ?_
  refine jw_iconst C.1 dX6_allStones_2 ki_0 ?_
  refine jw_istore_n (lw := [(2, .int _), (1, .int _), (0, .ref _)]) C.1 dX6_allStones_3 rfl hN_2 rfl ?_
  obtain ⟨n, h⟩ := h
  refine jw_sub [2, 1, 0] rfl ?_
  exact jbX6_allStones_4 hN C n _ _ _ h
set_option maxRecDepth 100000 in
set_option maxHeartbeats 4000000 in
theorem ctX6_applied (l : Launch) (a1 : Int32) (a2 : Int32) (a3 : Int32) (Q : Int32 → Prop) (h : wpX6_applied a1 a2 a3 Q) (μ : Mem) : Con l yX6_applied wsX6_applied rmX6_applied [] (fun _ => [.int a1, .int a2, .int a3]) μ (pI (fun r _ => Q r)) := by
  refine Con.mk (cc := cX6_applied) (maxL := 3) (ret := (some .int)) (own := RX6) (by decide) rfl rfl (fun _ => Nat.le_of_ble_eq_true rfl) (fun K ad hN C => ?_)
  show JW K (0, 0) [] ad μ 0 [(0, .int a1), (1, .int a2), (2, .int a3)] []
  unfold wpX6_applied at h
  refine jw_iload_n C.1 dX6_applied_0 rfl 1 rfl ?_
  refine jw_iconst C.1 dX6_applied_1 ki_1 ?_
  refine jw_icmp_ne C.1 24 dX6_applied_2 (by decide) (fun c => ?_) (fun c => ?_)
  · have h := h.1 c
    refine jw_iload_n C.1 dX6_applied_24 rfl 1 rfl ?_
    refine jw_if_ne C.1 32 dX6_applied_25 (by decide) (fun c => ?_) (fun c => ?_)
    · have h := h.1 c
      refine jw_bipush C.1 dX6_applied_32 kb_m6 ?_
      exact jw_iret (Q := fun r _ => Q r) C h dX6_applied_34
    · have h := h.2 c
      refine jw_iload_n C.1 dX6_applied_28 rfl 2 rfl ?_
      refine jw_goto (tgt := 34) C.1 dX6_applied_29 (by decide) ?_
      exact jw_iret (Q := fun r _ => Q r) C h dX6_applied_34
  · have h := h.2 c
    refine jw_iload_n C.1 dX6_applied_5 rfl 0 rfl ?_
    refine jw_bipush C.1 dX6_applied_6 kb_m6 ?_
    refine jw_icmp_ne C.1 16 dX6_applied_8 (by decide) (fun c => ?_) (fun c => ?_)
    · have h := h.1 c
      refine jw_iload_n C.1 dX6_applied_16 rfl 0 rfl ?_
      refine jw_iload_n C.1 dX6_applied_17 rfl 2 rfl ?_
      refine jw_iadd C.1 dX6_applied_18 ?_
      refine jw_sipush C.1 dX6_applied_19 ks_1000 ?_
      refine jw_irem C.1 dX6_applied_22 (by decide) ?_
      exact jw_iret (Q := fun r _ => Q r) C h dX6_applied_23
    · have h := h.2 c
      refine jw_bipush C.1 dX6_applied_11 kb_m6 ?_
      refine jw_goto (tgt := 23) C.1 dX6_applied_13 (by decide) ?_
      exact jw_iret (Q := fun r _ => Q r) C h dX6_applied_23
set_option maxRecDepth 100000 in
set_option maxHeartbeats 4000000 in
theorem ctX6_sign (l : Launch) (μ : Mem) (Q : Int32 → Mem → Prop) (h : wpX6_sign μ Q) : Con l yX6_sign wsX6_sign rmX6_sign shM (fun ad => [.ref (ad 0)]) μ (pI Q) := by
  refine Con.mk (cc := cX6_sign) (maxL := 1) (ret := (some .int)) (own := RX6) (by decide) rfl rfl (fun _ => Nat.le_of_ble_eq_true rfl) (fun K ad hN C => ?_)
  show JW K (0, 0) shM ad μ 0 [(0, .ref (ad 0))] []
  unfold wpX6_sign at h
  refine jw_aload_n C.1 dX6_sign_0 rfl 0 rfl ?_
  refine jw_getI C.1 iwX6_sign_X6 rfl shM_0 rfl 13 (by decide) rfl (List.mem_of_getElem? (i := 1) rfl) dX6_sign_1 ?_
  refine jw_aload_n C.1 dX6_sign_4 rfl 0 rfl ?_
  refine jw_getI C.1 iwX6_sign_X6 rfl shM_0 rfl 9 (by decide) rfl (List.mem_of_getElem? (i := 2) rfl) dX6_sign_5 ?_
  refine jw_icmp_ge C.1 23 dX6_sign_8 (by decide) (fun c => ?_) (fun c => ?_)
  · have h := h.1 c
    refine jw_iconst C.1 dX6_sign_23 ki_0 ?_
    exact jw_iret (Q := Q) C h dX6_sign_24
  · have h := h.2 c
    refine jw_aload_n C.1 dX6_sign_11 rfl 0 rfl ?_
    refine jw_getR C.1 iwX6_sign_X6 rfl shM_0 rfl 8 (by decide) rfl (List.mem_of_getElem? (i := 3) rfl) dX6_sign_12 ?_
    refine jw_aload_n C.1 dX6_sign_15 rfl 0 rfl ?_
    refine jw_getI C.1 iwX6_sign_X6 rfl shM_0 rfl 13 (by decide) rfl (List.mem_of_getElem? (i := 1) rfl) dX6_sign_16 ?_
    obtain ⟨hi, h⟩ := h
    refine jw_iald C.1 rfl shM_8 hi dX6_sign_19 ?_
    refine jw_goto (tgt := 24) C.1 dX6_sign_20 (by decide) ?_
    exact jw_iret (Q := Q) C h dX6_sign_24
set_option maxRecDepth 100000 in
set_option maxHeartbeats 4000000 in
theorem jbX6_between_21 {K : KT} {l : Launch} {ad : Nat → Nat} {Q : Mem → Prop} (hN : kN K = 2) (C : CtxM K l cX6_between RX6 wsX6_between rmX6_between shM ad none (pV Q)) (s0 : Int32) (μ : Mem) (h : bkX6_between_21 Q s0 μ) : JW K (0, 0) shM ad μ 21 [(0, .ref (ad 0))] [.int s0, .ref (ad 0)] := by
  unfold bkX6_between_21 at h
  obtain ⟨hz, h⟩ := h
  refine jw_putI C.1 iwX6_between_X6 rfl shM_0 rfl 14 (by decide) tyX6 tyX6_ok nmX6 (j := 5) rfl fuX6_14 (List.mem_of_getElem? (i := 1) rfl) rfl (ty := .boolean) (by decide +kernel) (nar_z hz) (fit_z hz) dX6_between_21 ?_
  have h := h _ rfl
  refine jw_aload_n C.1 dX6_between_24 rfl 0 rfl ?_
  refine jw_dup C.1 dX6_between_25 rfl ?_
  refine jw_getI C.1 iwX6_between_X6 rfl shM_0 rfl 13 (by decide) rfl (List.mem_of_getElem? (i := 2) rfl) dX6_between_26 ?_
  refine jw_aload_n C.1 dX6_between_29 rfl 0 rfl ?_
  refine jw_getI C.1 iwX6_between_X6 rfl shM_0 rfl 14 (by decide) rfl (List.mem_of_getElem? (i := 1) rfl) dX6_between_30 ?_
  refine jw_if_eq C.1 40 dX6_between_33 (by decide) (fun c => ?_) (fun c => ?_)
  · have h := h.1 c
    refine jw_iconst C.1 dX6_between_40 ki_1 ?_
    refine jw_iadd C.1 dX6_between_41 ?_
    refine jw_putI C.1 iwX6_between_X6 rfl shM_0 rfl 13 (by decide) tyX6 tyX6_ok nmX6 (j := 4) rfl fuX6_13 (List.mem_of_getElem? (i := 2) rfl) rfl (ty := .int) (by decide +kernel) rfl rfl dX6_between_42 ?_
    have h := h _ rfl
    exact jw_vret C h dX6_between_45
  · have h := h.2 c
    refine jw_iconst C.1 dX6_between_36 ki_0 ?_
    refine jw_goto (tgt := 41) C.1 dX6_between_37 (by decide) ?_
    refine jw_iadd C.1 dX6_between_41 ?_
    refine jw_putI C.1 iwX6_between_X6 rfl shM_0 rfl 13 (by decide) tyX6 tyX6_ok nmX6 (j := 4) rfl fuX6_13 (List.mem_of_getElem? (i := 2) rfl) rfl (ty := .int) (by decide +kernel) rfl rfl dX6_between_42 ?_
    have h := h _ rfl
    exact jw_vret C h dX6_between_45
set_option maxRecDepth 100000 in
set_option maxHeartbeats 4000000 in
theorem jbX6_between_16 {K : KT} {l : Launch} {ad : Nat → Nat} {Q : Mem → Prop} (hN : kN K = 2) (C : CtxM K l cX6_between RX6 wsX6_between rmX6_between shM ad none (pV Q)) (μ : Mem) (h : bkX6_between_16 Q μ) : JW K (0, 0) shM ad μ 16 [(0, .ref (ad 0))] [.ref (ad 0)] := by
  unfold bkX6_between_16 at h
  refine jw_iconst C.1 dX6_between_16 ki_1 ?_
  refine jw_goto (tgt := 21) C.1 dX6_between_17 (by decide) ?_
  exact jbX6_between_21 hN C _ _ h
set_option maxRecDepth 100000 in
set_option maxHeartbeats 4000000 in
theorem ctX6_between (l : Launch) (a1 : Int32) (μ : Mem) (Q : Mem → Prop) (h : wpX6_between a1 μ Q) : Con l yX6_between wsX6_between rmX6_between shM (fun ad => [.ref (ad 0), .int a1]) μ (pV Q) := by
  refine Con.mk (cc := cX6_between) (maxL := 2) (ret := none) (own := RX6) (by decide) rfl rfl (fun _ => Nat.le_of_ble_eq_true rfl) (fun K ad hN C => ?_)
  show JW K (0, 0) shM ad μ 0 [(0, .ref (ad 0)), (1, .int a1)] []
  unfold wpX6_between at h
  refine jw_aload_n C.1 dX6_between_0 rfl 0 rfl ?_
  refine jw_aload_n C.1 dX6_between_1 rfl 0 rfl ?_
  refine jw_getI C.1 iwX6_between_X6 rfl shM_0 rfl 14 (by decide) rfl (List.mem_of_getElem? (i := 1) rfl) dX6_between_2 ?_
  refine jw_if_ne C.1 16 dX6_between_5 (by decide) (fun c => ?_) (fun c => ?_)
  · have h := h.1 c
    refine jw_sub [0] rfl ?_
    exact jbX6_between_16 hN C _ h
  · have h := h.2 c
    refine jw_aload_n C.1 dX6_between_8 rfl 0 rfl ?_
    refine jw_cVI (rest := [.ref _]) C.1 dX6_between_9 em_shM_id (ctX6_sign l _ _ h) miX6_sign shM_0 rfl gX6_between_X6_sign rfl (by decide) rfl rfl rfl (Nat.le_of_ble_eq_true rfl) ⟨Nat.zero_le _, Nat.zero_le _⟩ (fun r1 μ2 h => ?_)
    refine jw_iload_n C.1 dX6_between_12 rfl 1 rfl ?_
    refine jw_icmp_eq C.1 20 dX6_between_13 (by decide) (fun c => ?_) (fun c => ?_)
    · have h := h.1 c
      refine jw_iconst C.1 dX6_between_20 ki_0 ?_
      refine jw_sub [0] rfl ?_
      exact jbX6_between_21 hN C _ _ h
    · have h := h.2 c
      refine jw_sub [0] rfl ?_
      exact jbX6_between_16 hN C _ h
set_option maxRecDepth 100000 in
set_option maxHeartbeats 4000000 in
theorem jbX6_bringBack_2 {K : KT} {l : Launch} {ad : Nat → Nat} {Q : Mem → Prop} (hN : kN K = 2) (C : CtxM K l cX6_bringBack RX6 wsX6_bringBack rmX6_bringBack shM ad none (pV Q)) : ∀ (n : Nat) (x1 : Int32) (μ : Mem), bkX6_bringBack_2 Q n x1 μ → JW K (0, 0) shM ad μ 2 [(0, .ref (ad 0)), (1, .int x1)] [] := by
  have hN_1 : 1 < kN K := by rw [hN]; decide
  intro n
  induction n with
  | zero =>
    intro x1 μ h
    exact h.elim
  | succ n ih =>
    intro x1 μ h
    unfold bkX6_bringBack_2 at h
    refine jw_iload_n C.1 dX6_bringBack_2 rfl 1 rfl ?_
    refine jw_sipush C.1 dX6_bringBack_3 ks_1333 ?_
    refine jw_icmp_ge C.1 27 dX6_bringBack_6 (by decide) (fun c => ?_) (fun c => ?_)
    · have h := h.1 c
      exact jw_vret C h dX6_bringBack_27
    · have h := h.2 c
      refine jw_aload_n C.1 dX6_bringBack_9 rfl 0 rfl ?_
      refine jw_getR C.1 iwX6_bringBack_X6 rfl shM_0 rfl 0 (by decide) rfl (List.mem_of_getElem? (i := 1) rfl) dX6_bringBack_10 ?_
      refine jw_iload_n C.1 dX6_bringBack_13 rfl 1 rfl ?_
      refine jw_aload_n C.1 dX6_bringBack_14 rfl 0 rfl ?_
      refine jw_getR C.1 iwX6_bringBack_X6 rfl shM_0 rfl 5 (by decide) rfl (List.mem_of_getElem? (i := 2) rfl) dX6_bringBack_15 ?_
      refine jw_iload_n C.1 dX6_bringBack_18 rfl 1 rfl ?_
      obtain ⟨hi, h⟩ := h
      refine jw_iald C.1 rfl shM_5 hi dX6_bringBack_19 ?_
      obtain ⟨hi, h⟩ := h
      refine jw_iast C.1 rfl shM_1 hi dX6_bringBack_20 ?_
      have h := h _ rfl
      refine jw_iinc (lw := [(1, .int _), (0, .ref _)]) (q := 1) C.1 dX6_bringBack_21 rfl (ai_1 _) hN_1 rfl ?_
      have h := h _ rfl
      refine jw_goto (tgt := 2) C.1 dX6_bringBack_24 (by decide) ?_
      refine jw_sub [1, 0] rfl ?_
      exact ih _ _ h
set_option maxRecDepth 100000 in
set_option maxHeartbeats 4000000 in
theorem ctX6_bringBack (l : Launch) (μ : Mem) (Q : Mem → Prop) (h : wpX6_bringBack μ Q) : Con l yX6_bringBack wsX6_bringBack rmX6_bringBack shM (fun ad => [.ref (ad 0)]) μ (pV Q) := by
  refine Con.mk (cc := cX6_bringBack) (maxL := 2) (ret := none) (own := RX6) (by decide) rfl rfl (fun _ => Nat.le_of_ble_eq_true rfl) (fun K ad hN C => ?_)
  show JW K (0, 0) shM ad μ 0 [(0, .ref (ad 0))] []
  have hN_1 : 1 < kN K := by rw [hN]; decide
  unfold wpX6_bringBack at h
  refine jw_iconst C.1 dX6_bringBack_0 ki_0 ?_
  refine jw_istore_n (lw := [(1, .int _), (0, .ref _)]) C.1 dX6_bringBack_1 rfl hN_1 rfl ?_
  obtain ⟨n, h⟩ := h
  refine jw_sub [1, 0] rfl ?_
  exact jbX6_bringBack_2 hN C n _ _ h
set_option maxRecDepth 100000 in
set_option maxHeartbeats 4000000 in
theorem ctX6_firstOf (l : Launch) (a1 : Int32) (Q : Int32 → Prop) (h : wpX6_firstOf a1 Q) (μ : Mem) : Con l yX6_firstOf wsX6_firstOf rmX6_firstOf [] (fun _ => [.int a1]) μ (pI (fun r _ => Q r)) := by
  refine Con.mk (cc := cX6_firstOf) (maxL := 1) (ret := (some .int)) (own := RX6) (by decide) rfl rfl (fun _ => Nat.le_of_ble_eq_true rfl) (fun K ad hN C => ?_)
  show JW K (0, 0) [] ad μ 0 [(0, .int a1)] []
  unfold wpX6_firstOf at h
  refine jw_iload_n C.1 dX6_firstOf_0 rfl 0 rfl ?_
  refine jw_if_ne C.1 8 dX6_firstOf_1 (by decide) (fun c => ?_) (fun c => ?_)
  · have h := h.1 c
    refine jw_iload_n C.1 dX6_firstOf_8 rfl 0 rfl ?_
    refine jw_iconst C.1 dX6_firstOf_9 ki_4 ?_
    refine jw_icmp_ge C.1 22 dX6_firstOf_10 (by decide) (fun c => ?_) (fun c => ?_)
    · have h := h.1 c
      refine jw_iconst C.1 dX6_firstOf_22 ki_3 ?_
      refine jw_iload_n C.1 dX6_firstOf_23 rfl 0 rfl ?_
      refine jw_iconst C.1 dX6_firstOf_24 ki_4 ?_
      refine jw_isub C.1 dX6_firstOf_25 ?_
      refine jw_imul C.1 dX6_firstOf_26 ?_
      exact jw_iret (Q := fun r _ => Q r) C h dX6_firstOf_27
    · have h := h.2 c
      refine jw_bipush C.1 dX6_firstOf_13 kb_9 ?_
      refine jw_iload_n C.1 dX6_firstOf_15 rfl 0 rfl ?_
      refine jw_iconst C.1 dX6_firstOf_16 ki_1 ?_
      refine jw_isub C.1 dX6_firstOf_17 ?_
      refine jw_imul C.1 dX6_firstOf_18 ?_
      refine jw_goto (tgt := 27) C.1 dX6_firstOf_19 (by decide) ?_
      exact jw_iret (Q := fun r _ => Q r) C h dX6_firstOf_27
  · have h := h.2 c
    refine jw_iconst C.1 dX6_firstOf_4 ki_0 ?_
    refine jw_goto (tgt := 27) C.1 dX6_firstOf_5 (by decide) ?_
    exact jw_iret (Q := fun r _ => Q r) C h dX6_firstOf_27
set_option maxRecDepth 100000 in
set_option maxHeartbeats 4000000 in
theorem ctX6_has (l : Launch) (a1 : Int32) (a2 : Int32) (a3 : Int32) (μ : Mem) (Q : Int32 → Mem → Prop) (h : wpX6_has a1 a2 a3 μ Q) : Con l yX6_has wsX6_has rmX6_has shM (fun ad => [.ref (ad 0), .int a1, .int a2, .int a3]) μ (pI Q) := by
  refine Con.mk (cc := cX6_has) (maxL := 4) (ret := (some .boolean)) (own := RX6) (by decide) rfl rfl (fun _ => Nat.le_of_ble_eq_true rfl) (fun K ad hN C => ?_)
  show JW K (0, 0) shM ad μ 0 [(0, .ref (ad 0)), (1, .int a1), (2, .int a2), (3, .int a3)] []
  unfold wpX6_has at h
  refine jw_aload_n C.1 dX6_has_0 rfl 0 rfl ?_
  refine jw_getR C.1 iwX6_has_X6 rfl shM_0 rfl 0 (by decide) rfl (List.mem_of_getElem? (i := 1) rfl) dX6_has_1 ?_
  refine jw_iload_n C.1 dX6_has_4 rfl 1 rfl ?_
  refine jw_iconst C.1 dX6_has_5 ki_1 ?_
  refine jw_iadd C.1 dX6_has_6 ?_
  obtain ⟨hi, h⟩ := h
  refine jw_iald C.1 rfl shM_1 hi dX6_has_7 ?_
  refine jw_iload_n C.1 dX6_has_8 rfl 3 rfl ?_
  refine jw_icmp_gt C.1 28 dX6_has_9 (by decide) (fun c => ?_) (fun c => ?_)
  · have h := h.1 c
    refine jw_iconst C.1 dX6_has_28 ki_0 ?_
    exact jw_zret (Q := Q) C rfl h dX6_has_29
  · have h := h.2 c
    refine jw_aload_n C.1 dX6_has_12 rfl 0 rfl ?_
    refine jw_getR C.1 iwX6_has_X6 rfl shM_0 rfl 0 (by decide) rfl (List.mem_of_getElem? (i := 1) rfl) dX6_has_13 ?_
    refine jw_iload_n C.1 dX6_has_16 rfl 1 rfl ?_
    refine jw_iconst C.1 dX6_has_17 ki_2 ?_
    refine jw_iadd C.1 dX6_has_18 ?_
    obtain ⟨hi, h⟩ := h
    refine jw_iald C.1 rfl shM_1 hi dX6_has_19 ?_
    refine jw_iload_n C.1 dX6_has_20 rfl 2 rfl ?_
    refine jw_icmp_lt C.1 28 dX6_has_21 (by decide) (fun c => ?_) (fun c => ?_)
    · have h := h.1 c
      refine jw_iconst C.1 dX6_has_28 ki_0 ?_
      exact jw_zret (Q := Q) C rfl h dX6_has_29
    · have h := h.2 c
      refine jw_iconst C.1 dX6_has_24 ki_1 ?_
      refine jw_goto (tgt := 29) C.1 dX6_has_25 (by decide) ?_
      exact jw_zret (Q := Q) C rfl h dX6_has_29
set_option maxRecDepth 100000 in
set_option maxHeartbeats 4000000 in
theorem ctX6_part (l : Launch) (a1 : Int32) (Q : Int32 → Prop) (h : wpX6_part a1 Q) (μ : Mem) : Con l yX6_part wsX6_part rmX6_part [] (fun _ => [.int a1]) μ (pI (fun r _ => Q r)) := by
  refine Con.mk (cc := cX6_part) (maxL := 1) (ret := (some .int)) (own := RX6) (by decide) rfl rfl (fun _ => Nat.le_of_ble_eq_true rfl) (fun K ad hN C => ?_)
  show JW K (0, 0) [] ad μ 0 [(0, .int a1)] []
  unfold wpX6_part at h
  refine jw_iload_n C.1 dX6_part_0 rfl 0 rfl ?_
  refine jw_if_ne C.1 9 dX6_part_1 (by decide) (fun c => ?_) (fun c => ?_)
  · have h := h.1 c
    refine jw_iload_n C.1 dX6_part_9 rfl 0 rfl ?_
    refine jw_iconst C.1 dX6_part_10 ki_4 ?_
    refine jw_icmp_ge C.1 18 dX6_part_11 (by decide) (fun c => ?_) (fun c => ?_)
    · have h := h.1 c
      refine jw_iconst C.1 dX6_part_18 ki_1 ?_
      exact jw_iret (Q := fun r _ => Q r) C h dX6_part_19
    · have h := h.2 c
      refine jw_iconst C.1 dX6_part_14 ki_3 ?_
      refine jw_goto (tgt := 19) C.1 dX6_part_15 (by decide) ?_
      exact jw_iret (Q := fun r _ => Q r) C h dX6_part_19
  · have h := h.2 c
    refine jw_bipush C.1 dX6_part_4 kb_9 ?_
    refine jw_goto (tgt := 19) C.1 dX6_part_6 (by decide) ?_
    exact jw_iret (Q := fun r _ => Q r) C h dX6_part_19
set_option maxRecDepth 100000 in
set_option maxHeartbeats 4000000 in
theorem ctX6_place (l : Launch) (a1 : Int32) (a2 : Int32) (Q : Int32 → Prop) (h : wpX6_place a1 a2 Q) (μ : Mem) : Con l yX6_place wsX6_place rmX6_place [] (fun _ => [.int a1, .int a2]) μ (pI (fun r _ => Q r)) := by
  refine Con.mk (cc := cX6_place) (maxL := 2) (ret := (some .int)) (own := RX6) (by decide) rfl rfl (fun _ => Nat.le_of_ble_eq_true rfl) (fun K ad hN C => ?_)
  show JW K (0, 0) [] ad μ 0 [(0, .int a1), (1, .int a2)] []
  unfold wpX6_place at h
  refine jw_bipush C.1 dX6_place_0 kb_85 ?_
  refine jw_bipush C.1 dX6_place_2 kb_96 ?_
  refine jw_iload_n C.1 dX6_place_4 rfl 0 rfl ?_
  refine jw_imul C.1 dX6_place_5 ?_
  refine jw_iadd C.1 dX6_place_6 ?_
  refine jw_iconst C.1 dX6_place_7 ki_4 ?_
  refine jw_iload_n C.1 dX6_place_8 rfl 1 rfl ?_
  refine jw_imul C.1 dX6_place_9 ?_
  refine jw_iadd C.1 dX6_place_10 ?_
  exact jw_iret (Q := fun r _ => Q r) C h dX6_place_11
set_option maxRecDepth 100000 in
set_option maxHeartbeats 4000000 in
theorem jbX6_stonesOf_18 {K : KT} {l : Launch} {ad : Nat → Nat} {Q : Int32 → Mem → Prop} (hN : kN K = 6) (C : CtxM K l cX6_stonesOf RX6 wsX6_stonesOf rmX6_stonesOf shM ad (some .int) (pI Q)) : ∀ (n : Nat) (x1 : Int32) (x3 : Int32) (x4 : Int32) (x5 : Int32) (μ : Mem), bkX6_stonesOf_18 Q n x1 x3 x4 x5 μ → JW K (0, 0) shM ad μ 18 [(0, .ref (ad 0)), (1, .int x1), (3, .int x3), (4, .int x4), (5, .int x5)] [] := by
  have hN_3 : 3 < kN K := by rw [hN]; decide
  have hN_4 : 4 < kN K := by rw [hN]; decide
  have hN_5 : 5 < kN K := by rw [hN]; decide
  intro n
  induction n with
  | zero =>
    intro x1 x3 x4 x5 μ h
    exact h.elim
  | succ n ih =>
    intro x1 x3 x4 x5 μ h
    unfold bkX6_stonesOf_18 at h
    refine jw_iload C.1 dX6_stonesOf_18 4 rfl ?_
    refine jw_aload_n C.1 dX6_stonesOf_20 rfl 0 rfl ?_
    refine jw_getR C.1 iwX6_stonesOf_X6 rfl shM_0 rfl 0 (by decide) rfl (List.mem_of_getElem? (i := 1) rfl) dX6_stonesOf_21 ?_
    refine jw_bipush C.1 dX6_stonesOf_24 kb_72 ?_
    refine jw_iload_n C.1 dX6_stonesOf_26 rfl 1 rfl ?_
    refine jw_iadd C.1 dX6_stonesOf_27 ?_
    obtain ⟨hi, h⟩ := h
    refine jw_iald C.1 rfl shM_1 hi dX6_stonesOf_28 ?_
    refine jw_icmp_ge C.1 70 dX6_stonesOf_29 (by decide) (fun c => ?_) (fun c => ?_)
    · have h := h.1 c
      refine jw_iload C.1 dX6_stonesOf_70 3 rfl ?_
      exact jw_iret (Q := Q) C h dX6_stonesOf_72
    · have h := h.2 c
      refine jw_iload C.1 dX6_stonesOf_32 3 rfl ?_
      refine jw_aload_n C.1 dX6_stonesOf_34 rfl 0 rfl ?_
      refine jw_iload_n C.1 dX6_stonesOf_35 rfl 1 rfl ?_
      refine jw_iload C.1 dX6_stonesOf_36 4 rfl ?_
      refine jw_eSI (rest := [.ref _, .int _]) C.1 dX6_stonesOf_38 (ctX6_place l _ _ _ h _) miX6_place gX6_stonesOf_X6_place (by decide) rfl rfl rfl (Nat.le_of_ble_eq_true rfl) ⟨Nat.zero_le _, Nat.zero_le _⟩ (fun r4 h => ?_)
      refine jw_iload_n C.1 dX6_stonesOf_41 rfl 2 rfl ?_
      refine jw_iload_n C.1 dX6_stonesOf_42 rfl 2 rfl ?_
      refine jw_iload_n C.1 dX6_stonesOf_43 rfl 1 rfl ?_
      refine jw_eSI (rest := [.int _, .int _, .int _, .ref _, .int _]) C.1 dX6_stonesOf_44 (ctX6_part l _ _ h _) miX6_part gX6_stonesOf_X6_part (by decide) rfl rfl rfl (Nat.le_of_ble_eq_true rfl) ⟨Nat.zero_le _, Nat.zero_le _⟩ (fun r5 h => ?_)
      refine jw_iadd C.1 dX6_stonesOf_47 ?_
      refine jw_iconst C.1 dX6_stonesOf_48 ki_1 ?_
      refine jw_isub C.1 dX6_stonesOf_49 ?_
      refine jw_cVI (rest := [.int _]) C.1 dX6_stonesOf_50 em_shM_id (ctX6_has l _ _ _ _ _ h) miX6_has shM_0 rfl gX6_stonesOf_X6_has rfl (by decide) rfl rfl rfl (Nat.le_of_ble_eq_true rfl) ⟨Nat.zero_le _, Nat.zero_le _⟩ (fun r6 μ7 h => ?_)
      refine jw_if_eq C.1 60 dX6_stonesOf_53 (by decide) (fun c => ?_) (fun c => ?_)
      · have h := h.1 c
        refine jw_iconst C.1 dX6_stonesOf_60 ki_0 ?_
        refine jw_iadd C.1 dX6_stonesOf_61 ?_
        refine jw_istore (lw := [(4, .int _), (0, .ref _), (1, .int _), (3, .int _), (5, .int _)]) C.1 dX6_stonesOf_62 hN_4 rfl ?_
        have h := h _ rfl
        refine jw_iinc (lw := [(5, .int _), (4, .int _), (0, .ref _), (1, .int _), (3, .int _)]) (q := 4) C.1 dX6_stonesOf_64 rfl (ai_1 _) hN_5 rfl ?_
        have h := h _ rfl
        refine jw_goto (tgt := 18) C.1 dX6_stonesOf_67 (by decide) ?_
        refine jw_sub [2, 3, 4, 1, 0] rfl ?_
        exact ih _ _ _ _ _ h
      · have h := h.2 c
        refine jw_iconst C.1 dX6_stonesOf_56 ki_1 ?_
        refine jw_goto (tgt := 61) C.1 dX6_stonesOf_57 (by decide) ?_
        refine jw_iadd C.1 dX6_stonesOf_61 ?_
        refine jw_istore (lw := [(4, .int _), (0, .ref _), (1, .int _), (3, .int _), (5, .int _)]) C.1 dX6_stonesOf_62 hN_4 rfl ?_
        have h := h _ rfl
        refine jw_iinc (lw := [(5, .int _), (4, .int _), (0, .ref _), (1, .int _), (3, .int _)]) (q := 4) C.1 dX6_stonesOf_64 rfl (ai_1 _) hN_5 rfl ?_
        have h := h _ rfl
        refine jw_goto (tgt := 18) C.1 dX6_stonesOf_67 (by decide) ?_
        refine jw_sub [2, 3, 4, 1, 0] rfl ?_
        exact ih _ _ _ _ _ h
set_option maxRecDepth 100000 in
set_option maxHeartbeats 4000000 in
theorem ctX6_stonesOf (l : Launch) (a1 : Int32) (a2 : Int32) (μ : Mem) (Q : Int32 → Mem → Prop) (h : wpX6_stonesOf a1 a2 μ Q) : Con l yX6_stonesOf wsX6_stonesOf rmX6_stonesOf shM (fun ad => [.ref (ad 0), .int a1, .int a2]) μ (pI Q) := by
  refine Con.mk (cc := cX6_stonesOf) (maxL := 6) (ret := (some .int)) (own := RX6) (by decide) rfl rfl (fun _ => Nat.le_of_ble_eq_true rfl) (fun K ad hN C => ?_)
  show JW K (0, 0) shM ad μ 0 [(0, .ref (ad 0)), (1, .int a1), (2, .int a2)] []
  have hN_3 : 3 < kN K := by rw [hN]; decide
  have hN_4 : 4 < kN K := by rw [hN]; decide
  have hN_5 : 5 < kN K := by rw [hN]; decide
  unfold wpX6_stonesOf at h
  refine jw_iload_n C.1 dX6_stonesOf_0 rfl 1 rfl ?_
  refine jw_eSI (rest := []) C.1 dX6_stonesOf_1 (ctX6_firstOf l _ _ h _) miX6_firstOf gX6_stonesOf_X6_firstOf (by decide) rfl rfl rfl (Nat.le_of_ble_eq_true rfl) ⟨Nat.zero_le _, Nat.zero_le _⟩ (fun r1 h => ?_)
  refine jw_iload_n C.1 dX6_stonesOf_4 rfl 1 rfl ?_
  refine jw_eSI (rest := [.int _]) C.1 dX6_stonesOf_5 (ctX6_part l _ _ h _) miX6_part gX6_stonesOf_X6_part (by decide) rfl rfl rfl (Nat.le_of_ble_eq_true rfl) ⟨Nat.zero_le _, Nat.zero_le _⟩ (fun r2 h => ?_)
  refine jw_iload_n C.1 dX6_stonesOf_8 rfl 2 rfl ?_
  refine jw_imul C.1 dX6_stonesOf_9 ?_
  refine jw_iadd C.1 dX6_stonesOf_10 ?_
  refine jw_istore_n (lw := [(3, .int _), (0, .ref _), (1, .int _), (2, .int _)]) C.1 dX6_stonesOf_11 rfl hN_3 rfl ?_
  have h := h _ rfl
  refine jw_iconst C.1 dX6_stonesOf_12 ki_0 ?_
  refine jw_istore (lw := [(4, .int _), (3, .int _), (0, .ref _), (1, .int _), (2, .int _)]) C.1 dX6_stonesOf_13 hN_4 rfl ?_
  refine jw_iconst C.1 dX6_stonesOf_15 ki_0 ?_
  refine jw_istore (lw := [(5, .int _), (4, .int _), (3, .int _), (0, .ref _), (1, .int _), (2, .int _)]) C.1 dX6_stonesOf_16 hN_5 rfl ?_
  obtain ⟨n, h⟩ := h
  refine jw_sub [3, 4, 2, 1, 0] rfl ?_
  exact jbX6_stonesOf_18 hN C n _ _ _ _ _ h
set_option maxRecDepth 100000 in
set_option maxHeartbeats 4000000 in
theorem jbX6_chosen_4 {K : KT} {l : Launch} {ad : Nat → Nat} {Q : Int32 → Mem → Prop} (hN : kN K = 4) (C : CtxM K l cX6_chosen RX6 wsX6_chosen rmX6_chosen shM ad (some .int) (pI Q)) : ∀ (n : Nat) (x1 : Int32) (x2 : Int32) (x3 : Int32) (μ : Mem), bkX6_chosen_4 Q n x1 x2 x3 μ → JW K (0, 0) shM ad μ 4 [(0, .ref (ad 0)), (1, .int x1), (2, .int x2), (3, .int x3)] [] := by
  have hN_2 : 2 < kN K := by rw [hN]; decide
  have hN_3 : 3 < kN K := by rw [hN]; decide
  intro n
  induction n with
  | zero =>
    intro x1 x2 x3 μ h
    exact h.elim
  | succ n ih =>
    intro x1 x2 x3 μ h
    unfold bkX6_chosen_4 at h
    refine jw_iload_n C.1 dX6_chosen_4 rfl 3 rfl ?_
    refine jw_iconst C.1 dX6_chosen_5 ki_3 ?_
    refine jw_icmp_ge C.1 36 dX6_chosen_6 (by decide) (fun c => ?_) (fun c => ?_)
    · have h := h.1 c
      refine jw_iload_n C.1 dX6_chosen_36 rfl 2 rfl ?_
      exact jw_iret (Q := Q) C h dX6_chosen_37
    · have h := h.2 c
      refine jw_aload_n C.1 dX6_chosen_9 rfl 0 rfl ?_
      refine jw_iload_n C.1 dX6_chosen_10 rfl 1 rfl ?_
      refine jw_iload_n C.1 dX6_chosen_11 rfl 3 rfl ?_
      refine jw_cVI (rest := []) C.1 dX6_chosen_12 em_shM_id (ctX6_stonesOf l _ _ _ _ h) miX6_stonesOf shM_0 rfl gX6_chosen_X6_stonesOf rfl (by decide) rfl rfl rfl (Nat.le_of_ble_eq_true rfl) ⟨Nat.zero_le _, Nat.zero_le _⟩ (fun r1 μ2 h => ?_)
      refine jw_aload_n C.1 dX6_chosen_15 rfl 0 rfl ?_
      refine jw_iload_n C.1 dX6_chosen_16 rfl 1 rfl ?_
      refine jw_iload_n C.1 dX6_chosen_17 rfl 2 rfl ?_
      refine jw_cVI (rest := [.int _]) C.1 dX6_chosen_18 em_shM_id (ctX6_stonesOf l _ _ _ _ h) miX6_stonesOf shM_0 rfl gX6_chosen_X6_stonesOf rfl (by decide) rfl rfl rfl (Nat.le_of_ble_eq_true rfl) ⟨Nat.zero_le _, Nat.zero_le _⟩ (fun r3 μ4 h => ?_)
      refine jw_icmp_le C.1 28 dX6_chosen_21 (by decide) (fun c => ?_) (fun c => ?_)
      · have h := h.1 c
        refine jw_iload_n C.1 dX6_chosen_28 rfl 2 rfl ?_
        refine jw_istore_n (lw := [(2, .int _), (0, .ref _), (1, .int _), (3, .int _)]) C.1 dX6_chosen_29 rfl hN_2 rfl ?_
        refine jw_iinc (lw := [(3, .int _), (2, .int _), (0, .ref _), (1, .int _)]) (q := 3) C.1 dX6_chosen_30 rfl (ai_1 _) hN_3 rfl ?_
        have h := h _ rfl
        refine jw_goto (tgt := 4) C.1 dX6_chosen_33 (by decide) ?_
        refine jw_sub [2, 3, 1, 0] rfl ?_
        exact ih _ _ _ _ h
      · have h := h.2 c
        refine jw_iload_n C.1 dX6_chosen_24 rfl 3 rfl ?_
        refine jw_goto (tgt := 29) C.1 dX6_chosen_25 (by decide) ?_
        refine jw_istore_n (lw := [(2, .int _), (0, .ref _), (1, .int _), (3, .int _)]) C.1 dX6_chosen_29 rfl hN_2 rfl ?_
        refine jw_iinc (lw := [(3, .int _), (2, .int _), (0, .ref _), (1, .int _)]) (q := 3) C.1 dX6_chosen_30 rfl (ai_1 _) hN_3 rfl ?_
        have h := h _ rfl
        refine jw_goto (tgt := 4) C.1 dX6_chosen_33 (by decide) ?_
        refine jw_sub [2, 3, 1, 0] rfl ?_
        exact ih _ _ _ _ h
set_option maxRecDepth 100000 in
set_option maxHeartbeats 4000000 in
theorem ctX6_chosen (l : Launch) (a1 : Int32) (μ : Mem) (Q : Int32 → Mem → Prop) (h : wpX6_chosen a1 μ Q) : Con l yX6_chosen wsX6_chosen rmX6_chosen shM (fun ad => [.ref (ad 0), .int a1]) μ (pI Q) := by
  refine Con.mk (cc := cX6_chosen) (maxL := 4) (ret := (some .int)) (own := RX6) (by decide) rfl rfl (fun _ => Nat.le_of_ble_eq_true rfl) (fun K ad hN C => ?_)
  show JW K (0, 0) shM ad μ 0 [(0, .ref (ad 0)), (1, .int a1)] []
  have hN_2 : 2 < kN K := by rw [hN]; decide
  have hN_3 : 3 < kN K := by rw [hN]; decide
  unfold wpX6_chosen at h
  refine jw_iconst C.1 dX6_chosen_0 ki_0 ?_
  refine jw_istore_n (lw := [(2, .int _), (0, .ref _), (1, .int _)]) C.1 dX6_chosen_1 rfl hN_2 rfl ?_
  refine jw_iconst C.1 dX6_chosen_2 ki_1 ?_
  refine jw_istore_n (lw := [(3, .int _), (2, .int _), (0, .ref _), (1, .int _)]) C.1 dX6_chosen_3 rfl hN_3 rfl ?_
  obtain ⟨n, h⟩ := h
  refine jw_sub [2, 3, 1, 0] rfl ?_
  exact jbX6_chosen_4 hN C n _ _ _ _ h
set_option maxRecDepth 100000 in
set_option maxHeartbeats 4000000 in
theorem ctX6_isTooFull (l : Launch) (a1 : Int32) (μ : Mem) (Q : Int32 → Mem → Prop) (h : wpX6_isTooFull a1 μ Q) : Con l yX6_isTooFull wsX6_isTooFull rmX6_isTooFull shM (fun ad => [.ref (ad 0), .int a1]) μ (pI Q) := by
  refine Con.mk (cc := cX6_isTooFull) (maxL := 2) (ret := (some .boolean)) (own := RX6) (by decide) rfl rfl (fun _ => Nat.le_of_ble_eq_true rfl) (fun K ad hN C => ?_)
  show JW K (0, 0) shM ad μ 0 [(0, .ref (ad 0)), (1, .int a1)] []
  unfold wpX6_isTooFull at h
  refine jw_aload_n C.1 dX6_isTooFull_0 rfl 0 rfl ?_
  refine jw_getR C.1 iwX6_isTooFull_X6 rfl shM_0 rfl 0 (by decide) rfl (List.mem_of_getElem? (i := 1) rfl) dX6_isTooFull_1 ?_
  refine jw_bipush C.1 dX6_isTooFull_4 kb_72 ?_
  refine jw_iload_n C.1 dX6_isTooFull_6 rfl 1 rfl ?_
  refine jw_iadd C.1 dX6_isTooFull_7 ?_
  obtain ⟨hi, h⟩ := h
  refine jw_iald C.1 rfl shM_1 hi dX6_isTooFull_8 ?_
  refine jw_aload_n C.1 dX6_isTooFull_9 rfl 0 rfl ?_
  refine jw_getR C.1 iwX6_isTooFull_X6 rfl shM_0 rfl 0 (by decide) rfl (List.mem_of_getElem? (i := 1) rfl) dX6_isTooFull_10 ?_
  refine jw_iconst C.1 dX6_isTooFull_13 ki_0 ?_
  obtain ⟨hi, h⟩ := h
  refine jw_iald C.1 rfl shM_1 hi dX6_isTooFull_14 ?_
  refine jw_icmp_le C.1 22 dX6_isTooFull_15 (by decide) (fun c => ?_) (fun c => ?_)
  · have h := h.1 c
    refine jw_iconst C.1 dX6_isTooFull_22 ki_0 ?_
    exact jw_zret (Q := Q) C rfl h dX6_isTooFull_23
  · have h := h.2 c
    refine jw_iconst C.1 dX6_isTooFull_18 ki_1 ?_
    refine jw_goto (tgt := 23) C.1 dX6_isTooFull_19 (by decide) ?_
    exact jw_zret (Q := Q) C rfl h dX6_isTooFull_23
set_option maxRecDepth 100000 in
set_option maxHeartbeats 4000000 in
theorem jbX6_lastWith_12 {K : KT} {l : Launch} {ad : Nat → Nat} {Q : Int32 → Mem → Prop} (hN : kN K = 4) (C : CtxM K l cX6_lastWith RX6 wsX6_lastWith rmX6_lastWith shM ad (some .int) (pI Q)) : ∀ (n : Nat) (x1 : Int32) (x2 : Int32) (x3 : Int32) (μ : Mem), bkX6_lastWith_12 Q n x1 x2 x3 μ → JW K (0, 0) shM ad μ 12 [(0, .ref (ad 0)), (1, .int x1), (2, .int x2), (3, .int x3)] [] := by
  have hN_3 : 3 < kN K := by rw [hN]; decide
  intro n
  induction n with
  | zero =>
    intro x1 x2 x3 μ h
    exact h.elim
  | succ n ih =>
    intro x1 x2 x3 μ h
    unfold bkX6_lastWith_12 at h
    refine jw_iload_n C.1 dX6_lastWith_12 rfl 3 rfl ?_
    refine jw_if_lt C.1 36 dX6_lastWith_13 (by decide) (fun c => ?_) (fun c => ?_)
    · have h := h.1 c
      refine jw_iload_n C.1 dX6_lastWith_36 rfl 3 rfl ?_
      exact jw_iret (Q := Q) C h dX6_lastWith_37
    · have h := h.2 c
      refine jw_aload_n C.1 dX6_lastWith_16 rfl 0 rfl ?_
      refine jw_iload_n C.1 dX6_lastWith_17 rfl 1 rfl ?_
      refine jw_iload_n C.1 dX6_lastWith_18 rfl 3 rfl ?_
      refine jw_eSI (rest := [.ref _]) C.1 dX6_lastWith_19 (ctX6_place l _ _ _ h _) miX6_place gX6_lastWith_X6_place (by decide) rfl rfl rfl (Nat.le_of_ble_eq_true rfl) ⟨Nat.zero_le _, Nat.zero_le _⟩ (fun r2 h => ?_)
      refine jw_iload_n C.1 dX6_lastWith_22 rfl 2 rfl ?_
      refine jw_iload_n C.1 dX6_lastWith_23 rfl 2 rfl ?_
      refine jw_cVI (rest := []) C.1 dX6_lastWith_24 em_shM_id (ctX6_has l _ _ _ _ _ h) miX6_has shM_0 rfl gX6_lastWith_X6_has rfl (by decide) rfl rfl rfl (Nat.le_of_ble_eq_true rfl) ⟨Nat.zero_le _, Nat.zero_le _⟩ (fun r3 μ4 h => ?_)
      refine jw_if_ne C.1 36 dX6_lastWith_27 (by decide) (fun c => ?_) (fun c => ?_)
      · have h := h.1 c
        refine jw_iload_n C.1 dX6_lastWith_36 rfl 3 rfl ?_
        exact jw_iret (Q := Q) C h dX6_lastWith_37
      · have h := h.2 c
        refine jw_iinc (lw := [(3, .int _), (0, .ref _), (1, .int _), (2, .int _)]) (q := 3) C.1 dX6_lastWith_30 rfl (ai_m1 _) hN_3 rfl ?_
        have h := h _ rfl
        refine jw_goto (tgt := 12) C.1 dX6_lastWith_33 (by decide) ?_
        refine jw_sub [1, 2, 3, 0] rfl ?_
        exact ih _ _ _ _ h
set_option maxRecDepth 100000 in
set_option maxHeartbeats 4000000 in
theorem ctX6_lastWith (l : Launch) (a1 : Int32) (a2 : Int32) (μ : Mem) (Q : Int32 → Mem → Prop) (h : wpX6_lastWith a1 a2 μ Q) : Con l yX6_lastWith wsX6_lastWith rmX6_lastWith shM (fun ad => [.ref (ad 0), .int a1, .int a2]) μ (pI Q) := by
  refine Con.mk (cc := cX6_lastWith) (maxL := 4) (ret := (some .int)) (own := RX6) (by decide) rfl rfl (fun _ => Nat.le_of_ble_eq_true rfl) (fun K ad hN C => ?_)
  show JW K (0, 0) shM ad μ 0 [(0, .ref (ad 0)), (1, .int a1), (2, .int a2)] []
  have hN_3 : 3 < kN K := by rw [hN]; decide
  unfold wpX6_lastWith at h
  refine jw_aload_n C.1 dX6_lastWith_0 rfl 0 rfl ?_
  refine jw_getR C.1 iwX6_lastWith_X6 rfl shM_0 rfl 0 (by decide) rfl (List.mem_of_getElem? (i := 1) rfl) dX6_lastWith_1 ?_
  refine jw_bipush C.1 dX6_lastWith_4 kb_72 ?_
  refine jw_iload_n C.1 dX6_lastWith_6 rfl 1 rfl ?_
  refine jw_iadd C.1 dX6_lastWith_7 ?_
  obtain ⟨hi, h⟩ := h
  refine jw_iald C.1 rfl shM_1 hi dX6_lastWith_8 ?_
  refine jw_iconst C.1 dX6_lastWith_9 ki_2 ?_
  refine jw_isub C.1 dX6_lastWith_10 ?_
  refine jw_istore_n (lw := [(3, .int _), (0, .ref _), (1, .int _), (2, .int _)]) C.1 dX6_lastWith_11 rfl hN_3 rfl ?_
  have h := h _ rfl
  obtain ⟨n, h⟩ := h
  refine jw_sub [1, 2, 3, 0] rfl ?_
  exact jbX6_lastWith_12 hN C n _ _ _ _ h
set_option maxRecDepth 100000 in
set_option maxHeartbeats 4000000 in
theorem jbX6_takeOut_19 {K : KT} {l : Launch} {ad : Nat → Nat} {Q : Mem → Prop} (hN : kN K = 4) (C : CtxM K l cX6_takeOut RX6 wsX6_takeOut rmX6_takeOut shM ad none (pV Q)) : ∀ (n : Nat) (x1 : Int32) (x3 : Int32) (μ : Mem), bkX6_takeOut_19 Q n x1 x3 μ → JW K (0, 0) shM ad μ 19 [(0, .ref (ad 0)), (1, .int x1), (3, .int x3)] [] := by
  have hN_3 : 3 < kN K := by rw [hN]; decide
  intro n
  induction n with
  | zero =>
    intro x1 x3 μ h
    exact h.elim
  | succ n ih =>
    intro x1 x3 μ h
    unfold bkX6_takeOut_19 at h
    refine jw_iload_n C.1 dX6_takeOut_19 rfl 2 rfl ?_
    refine jw_iload_n C.1 dX6_takeOut_20 rfl 1 rfl ?_
    refine jw_aload_n C.1 dX6_takeOut_21 rfl 0 rfl ?_
    refine jw_getR C.1 iwX6_takeOut_X6 rfl shM_0 rfl 0 (by decide) rfl (List.mem_of_getElem? (i := 1) rfl) dX6_takeOut_22 ?_
    refine jw_bipush C.1 dX6_takeOut_25 kb_72 ?_
    refine jw_iload_n C.1 dX6_takeOut_27 rfl 1 rfl ?_
    refine jw_iadd C.1 dX6_takeOut_28 ?_
    obtain ⟨hi, h⟩ := h
    refine jw_iald C.1 rfl shM_1 hi dX6_takeOut_29 ?_
    refine jw_eSI (rest := [.int _]) C.1 dX6_takeOut_30 (ctX6_place l _ _ _ h _) miX6_place gX6_takeOut_X6_place (by decide) rfl rfl rfl (Nat.le_of_ble_eq_true rfl) ⟨Nat.zero_le _, Nat.zero_le _⟩ (fun r3 h => ?_)
    refine jw_icmp_ge C.1 56 dX6_takeOut_33 (by decide) (fun c => ?_) (fun c => ?_)
    · have h := h.1 c
      exact jw_vret C h dX6_takeOut_56
    · have h := h.2 c
      refine jw_aload_n C.1 dX6_takeOut_36 rfl 0 rfl ?_
      refine jw_getR C.1 iwX6_takeOut_X6 rfl shM_0 rfl 0 (by decide) rfl (List.mem_of_getElem? (i := 1) rfl) dX6_takeOut_37 ?_
      refine jw_iload_n C.1 dX6_takeOut_40 rfl 2 rfl ?_
      refine jw_aload_n C.1 dX6_takeOut_41 rfl 0 rfl ?_
      refine jw_getR C.1 iwX6_takeOut_X6 rfl shM_0 rfl 0 (by decide) rfl (List.mem_of_getElem? (i := 1) rfl) dX6_takeOut_42 ?_
      refine jw_iload_n C.1 dX6_takeOut_45 rfl 2 rfl ?_
      refine jw_iconst C.1 dX6_takeOut_46 ki_4 ?_
      refine jw_iadd C.1 dX6_takeOut_47 ?_
      obtain ⟨hi, h⟩ := h
      refine jw_iald C.1 rfl shM_1 hi dX6_takeOut_48 ?_
      obtain ⟨hi, h⟩ := h
      refine jw_iast C.1 rfl shM_1 hi dX6_takeOut_49 ?_
      have h := h _ rfl
      refine jw_iinc (lw := [(3, .int _), (0, .ref _), (1, .int _)]) (q := 2) C.1 dX6_takeOut_50 rfl (ai_1 _) hN_3 rfl ?_
      have h := h _ rfl
      refine jw_goto (tgt := 19) C.1 dX6_takeOut_53 (by decide) ?_
      refine jw_sub [1, 2, 0] rfl ?_
      exact ih _ _ _ h
set_option maxRecDepth 100000 in
set_option maxHeartbeats 4000000 in
theorem ctX6_takeOut (l : Launch) (a1 : Int32) (a2 : Int32) (μ : Mem) (Q : Mem → Prop) (h : wpX6_takeOut a1 a2 μ Q) : Con l yX6_takeOut wsX6_takeOut rmX6_takeOut shM (fun ad => [.ref (ad 0), .int a1, .int a2]) μ (pV Q) := by
  refine Con.mk (cc := cX6_takeOut) (maxL := 4) (ret := none) (own := RX6) (by decide) rfl rfl (fun _ => Nat.le_of_ble_eq_true rfl) (fun K ad hN C => ?_)
  show JW K (0, 0) shM ad μ 0 [(0, .ref (ad 0)), (1, .int a1), (2, .int a2)] []
  have hN_3 : 3 < kN K := by rw [hN]; decide
  unfold wpX6_takeOut at h
  refine jw_aload_n C.1 dX6_takeOut_0 rfl 0 rfl ?_
  refine jw_getR C.1 iwX6_takeOut_X6 rfl shM_0 rfl 0 (by decide) rfl (List.mem_of_getElem? (i := 1) rfl) dX6_takeOut_1 ?_
  refine jw_bipush C.1 dX6_takeOut_4 kb_72 ?_
  refine jw_iload_n C.1 dX6_takeOut_6 rfl 1 rfl ?_
  refine jw_iadd C.1 dX6_takeOut_7 ?_
  refine jw_dup2 C.1 dX6_takeOut_8 rfl rfl ?_
  obtain ⟨hi, h⟩ := h
  refine jw_iald C.1 rfl shM_1 hi dX6_takeOut_9 ?_
  refine jw_iconst C.1 dX6_takeOut_10 ki_1 ?_
  refine jw_isub C.1 dX6_takeOut_11 ?_
  obtain ⟨hi, h⟩ := h
  refine jw_iast C.1 rfl shM_1 hi dX6_takeOut_12 ?_
  have h := h _ rfl
  refine jw_iload_n C.1 dX6_takeOut_13 rfl 1 rfl ?_
  refine jw_iload_n C.1 dX6_takeOut_14 rfl 2 rfl ?_
  refine jw_eSI (rest := []) C.1 dX6_takeOut_15 (ctX6_place l _ _ _ h _) miX6_place gX6_takeOut_X6_place (by decide) rfl rfl rfl (Nat.le_of_ble_eq_true rfl) ⟨Nat.zero_le _, Nat.zero_le _⟩ (fun r2 h => ?_)
  refine jw_istore_n (lw := [(3, .int _), (0, .ref _), (1, .int _), (2, .int _)]) C.1 dX6_takeOut_18 rfl hN_3 rfl ?_
  obtain ⟨n, h⟩ := h
  refine jw_sub [1, 2, 0] rfl ?_
  exact jbX6_takeOut_19 hN C n _ _ _ h
set_option maxRecDepth 100000 in
set_option maxHeartbeats 4000000 in
theorem jbX6_joins_141 {K : KT} {l : Launch} {ad : Nat → Nat} {Q : Mem → Prop} (hN : kN K = 5) (C : CtxM K l cX6_joins RX6 wsX6_joins rmX6_joins shM ad none (pV Q)) (x1 : Int32) (μ : Mem) (h : bkX6_joins_141 Q x1 μ) : JW K (0, 0) shM ad μ 141 [(0, .ref (ad 0)), (1, .int x1)] [] := by
  have hN_2 : 2 < kN K := by rw [hN]; decide
  have hN_3 : 3 < kN K := by rw [hN]; decide
  have hN_4 : 4 < kN K := by rw [hN]; decide
  unfold bkX6_joins_141 at h
  refine jw_aload_n C.1 dX6_joins_141 rfl 0 rfl ?_
  refine jw_getR C.1 iwX6_joins_X6 rfl shM_0 rfl 0 (by decide) rfl (List.mem_of_getElem? (i := 1) rfl) dX6_joins_142 ?_
  refine jw_bipush C.1 dX6_joins_145 kb_72 ?_
  refine jw_iload_n C.1 dX6_joins_147 rfl 1 rfl ?_
  refine jw_iadd C.1 dX6_joins_148 ?_
  refine jw_dup2 C.1 dX6_joins_149 rfl rfl ?_
  obtain ⟨hi, h⟩ := h
  refine jw_iald C.1 rfl shM_1 hi dX6_joins_150 ?_
  refine jw_iconst C.1 dX6_joins_151 ki_1 ?_
  refine jw_isub C.1 dX6_joins_152 ?_
  obtain ⟨hi, h⟩ := h
  refine jw_iast C.1 rfl shM_1 hi dX6_joins_153 ?_
  have h := h _ rfl
  exact jw_vret C h dX6_joins_154
set_option maxRecDepth 100000 in
set_option maxHeartbeats 4000000 in
theorem ctX6_joins (l : Launch) (a1 : Int32) (μ : Mem) (Q : Mem → Prop) (h : wpX6_joins a1 μ Q) : Con l yX6_joins wsX6_joins rmX6_joins shM (fun ad => [.ref (ad 0), .int a1]) μ (pV Q) := by
  refine Con.mk (cc := cX6_joins) (maxL := 5) (ret := none) (own := RX6) (by decide) rfl rfl (fun _ => Nat.le_of_ble_eq_true rfl) (fun K ad hN C => ?_)
  show JW K (0, 0) shM ad μ 0 [(0, .ref (ad 0)), (1, .int a1)] []
  have hN_2 : 2 < kN K := by rw [hN]; decide
  have hN_3 : 3 < kN K := by rw [hN]; decide
  have hN_4 : 4 < kN K := by rw [hN]; decide
  unfold wpX6_joins at h
  refine jw_iload_n C.1 dX6_joins_0 rfl 1 rfl ?_
  refine jw_aload_n C.1 dX6_joins_1 rfl 0 rfl ?_
  refine jw_getR C.1 iwX6_joins_X6 rfl shM_0 rfl 0 (by decide) rfl (List.mem_of_getElem? (i := 1) rfl) dX6_joins_2 ?_
  refine jw_bipush C.1 dX6_joins_5 kb_72 ?_
  refine jw_iload_n C.1 dX6_joins_7 rfl 1 rfl ?_
  refine jw_iadd C.1 dX6_joins_8 ?_
  obtain ⟨hi, h⟩ := h
  refine jw_iald C.1 rfl shM_1 hi dX6_joins_9 ?_
  refine jw_iconst C.1 dX6_joins_10 ki_1 ?_
  refine jw_isub C.1 dX6_joins_11 ?_
  refine jw_eSI (rest := []) C.1 dX6_joins_12 (ctX6_place l _ _ _ h _) miX6_place gX6_joins_X6_place (by decide) rfl rfl rfl (Nat.le_of_ble_eq_true rfl) ⟨Nat.zero_le _, Nat.zero_le _⟩ (fun r1 h => ?_)
  refine jw_istore_n (lw := [(2, .int _), (0, .ref _), (1, .int _)]) C.1 dX6_joins_15 rfl hN_2 rfl ?_
  refine jw_aload_n C.1 dX6_joins_16 rfl 1 rfl ?_
  refine jw_iload_n C.1 dX6_joins_17 rfl 2 rfl ?_
  refine jw_aload_n C.1 dX6_joins_18 rfl 1 rfl ?_
  refine jw_getR C.1 iwX6_joins_X6 rfl shM_0 rfl 0 (by decide) rfl (List.mem_of_getElem? (i := 1) rfl) dX6_joins_19 ?_
  refine jw_iload_n C.1 dX6_joins_22 rfl 0 rfl ?_
  refine jw_iconst C.1 dX6_joins_23 ki_1 ?_
  refine jw_iadd C.1 dX6_joins_24 ?_
  obtain ⟨hi, h⟩ := h
  refine jw_iald C.1 rfl shM_1 hi dX6_joins_25 ?_
  refine jw_cVI (rest := []) C.1 dX6_joins_26 em_shM_id (ctX6_lastWith l _ _ _ _ h) miX6_lastWith shM_0 rfl gX6_joins_X6_lastWith rfl (by decide) rfl rfl rfl (Nat.le_of_ble_eq_true rfl) ⟨Nat.zero_le _, Nat.zero_le _⟩ (fun r2 μ3 h => ?_)
  refine jw_istore_n (lw := [(3, .int _), (2, .int _), (0, .ref _), (1, .int _)]) C.1 dX6_joins_29 rfl hN_3 rfl ?_
  refine jw_iload_n C.1 dX6_joins_30 rfl 0 rfl ?_
  refine jw_if_lt C.1 61 dX6_joins_31 (by decide) (fun c => ?_) (fun c => ?_)
  · have h := h.1 c
    exact jw_vret C h dX6_joins_61
  · have h := h.2 c
    refine jw_aload_n C.1 dX6_joins_34 rfl 2 rfl ?_
    refine jw_getR C.1 iwX6_joins_X6 rfl shM_0 rfl 0 (by decide) rfl (List.mem_of_getElem? (i := 1) rfl) dX6_joins_35 ?_
    refine jw_iload_n C.1 dX6_joins_38 rfl 3 rfl ?_
    refine jw_iload_n C.1 dX6_joins_39 rfl 0 rfl ?_
    refine jw_eSI (rest := [.ref _]) C.1 dX6_joins_40 (ctX6_place l _ _ _ h _) miX6_place gX6_joins_X6_place (by decide) rfl rfl rfl (Nat.le_of_ble_eq_true rfl) ⟨Nat.zero_le _, Nat.zero_le _⟩ (fun r4 h => ?_)
    refine jw_iconst C.1 dX6_joins_43 ki_1 ?_
    refine jw_iadd C.1 dX6_joins_44 ?_
    obtain ⟨hi, h⟩ := h
    refine jw_iald C.1 rfl shM_1 hi dX6_joins_45 ?_
    refine jw_aload_n C.1 dX6_joins_46 rfl 2 rfl ?_
    refine jw_getR C.1 iwX6_joins_X6 rfl shM_0 rfl 0 (by decide) rfl (List.mem_of_getElem? (i := 1) rfl) dX6_joins_47 ?_
    refine jw_iload_n C.1 dX6_joins_50 rfl 3 rfl ?_
    refine jw_iload_n C.1 dX6_joins_51 rfl 0 rfl ?_
    refine jw_eSI (rest := [.ref _, .int _]) C.1 dX6_joins_52 (ctX6_place l _ _ _ h _) miX6_place gX6_joins_X6_place (by decide) rfl rfl rfl (Nat.le_of_ble_eq_true rfl) ⟨Nat.zero_le _, Nat.zero_le _⟩ (fun r5 h => ?_)
    refine jw_iconst C.1 dX6_joins_55 ki_2 ?_
    refine jw_iadd C.1 dX6_joins_56 ?_
    obtain ⟨hi, h⟩ := h
    refine jw_iald C.1 rfl shM_1 hi dX6_joins_57 ?_
    refine jw_icmp_eq C.1 62 dX6_joins_58 (by decide) (fun c => ?_) (fun c => ?_)
    · have h := h.1 c
      refine jw_iload_n C.1 dX6_joins_62 rfl 3 rfl ?_
      refine jw_iload_n C.1 dX6_joins_63 rfl 0 rfl ?_
      refine jw_eSI (rest := []) C.1 dX6_joins_64 (ctX6_place l _ _ _ h _) miX6_place gX6_joins_X6_place (by decide) rfl rfl rfl (Nat.le_of_ble_eq_true rfl) ⟨Nat.zero_le _, Nat.zero_le _⟩ (fun r6 h => ?_)
      refine jw_istore (lw := [(4, .int _), (3, .int _), (2, .int _), (0, .ref _), (1, .int _)]) C.1 dX6_joins_67 hN_4 rfl ?_
      refine jw_aload_n C.1 dX6_joins_69 rfl 3 rfl ?_
      refine jw_getR C.1 iwX6_joins_X6 rfl shM_0 rfl 0 (by decide) rfl (List.mem_of_getElem? (i := 1) rfl) dX6_joins_70 ?_
      refine jw_bipush C.1 dX6_joins_73 kb_59 ?_
      refine jw_iload_n C.1 dX6_joins_75 rfl 4 rfl ?_
      refine jw_iadd C.1 dX6_joins_76 ?_
      refine jw_dup2 C.1 dX6_joins_77 rfl rfl ?_
      obtain ⟨hi, h⟩ := h
      refine jw_iald C.1 rfl shM_1 hi dX6_joins_78 ?_
      refine jw_iconst C.1 dX6_joins_79 ki_1 ?_
      refine jw_iadd C.1 dX6_joins_80 ?_
      obtain ⟨hi, h⟩ := h
      refine jw_iast C.1 rfl shM_1 hi dX6_joins_81 ?_
      have h := h _ rfl
      refine jw_aload_n C.1 dX6_joins_82 rfl 3 rfl ?_
      refine jw_getR C.1 iwX6_joins_X6 rfl shM_0 rfl 0 (by decide) rfl (List.mem_of_getElem? (i := 1) rfl) dX6_joins_83 ?_
      refine jw_iload_n C.1 dX6_joins_86 rfl 2 rfl ?_
      obtain ⟨hi, h⟩ := h
      refine jw_iald C.1 rfl shM_1 hi dX6_joins_87 ?_
      refine jw_iconst C.1 dX6_joins_88 ki_1 ?_
      refine jw_icmp_eq C.1 99 dX6_joins_89 (by decide) (fun c => ?_) (fun c => ?_)
      · have h := h.1 c
        refine jw_aload_n C.1 dX6_joins_99 rfl 3 rfl ?_
        refine jw_getR C.1 iwX6_joins_X6 rfl shM_0 rfl 0 (by decide) rfl (List.mem_of_getElem? (i := 1) rfl) dX6_joins_100 ?_
        refine jw_iload C.1 dX6_joins_103 0 rfl ?_
        obtain ⟨hi, h⟩ := h
        refine jw_iald C.1 rfl shM_1 hi dX6_joins_105 ?_
        refine jw_iconst C.1 dX6_joins_106 ki_2 ?_
        refine jw_icmp_eq C.1 141 dX6_joins_107 (by decide) (fun c => ?_) (fun c => ?_)
        · have h := h.1 c
          refine jw_sub [3, 4] rfl ?_
          exact jbX6_joins_141 hN C _ _ h
        · have h := h.2 c
          refine jw_aload_n C.1 dX6_joins_110 rfl 3 rfl ?_
          refine jw_getR C.1 iwX6_joins_X6 rfl shM_0 rfl 0 (by decide) rfl (List.mem_of_getElem? (i := 1) rfl) dX6_joins_111 ?_
          refine jw_iload C.1 dX6_joins_114 0 rfl ?_
          refine jw_iconst C.1 dX6_joins_116 ki_3 ?_
          refine jw_iadd C.1 dX6_joins_117 ?_
          refine jw_aload_n C.1 dX6_joins_118 rfl 3 rfl ?_
          refine jw_getR C.1 iwX6_joins_X6 rfl shM_0 rfl 0 (by decide) rfl (List.mem_of_getElem? (i := 1) rfl) dX6_joins_119 ?_
          refine jw_iload C.1 dX6_joins_122 0 rfl ?_
          refine jw_iconst C.1 dX6_joins_124 ki_3 ?_
          refine jw_iadd C.1 dX6_joins_125 ?_
          obtain ⟨hi, h⟩ := h
          refine jw_iald C.1 rfl shM_1 hi dX6_joins_126 ?_
          refine jw_aload_n C.1 dX6_joins_127 rfl 3 rfl ?_
          refine jw_getR C.1 iwX6_joins_X6 rfl shM_0 rfl 0 (by decide) rfl (List.mem_of_getElem? (i := 1) rfl) dX6_joins_128 ?_
          refine jw_iload_n C.1 dX6_joins_131 rfl 2 rfl ?_
          refine jw_iconst C.1 dX6_joins_132 ki_3 ?_
          refine jw_iadd C.1 dX6_joins_133 ?_
          obtain ⟨hi, h⟩ := h
          refine jw_iald C.1 rfl shM_1 hi dX6_joins_134 ?_
          refine jw_iadd C.1 dX6_joins_135 ?_
          refine jw_sipush C.1 dX6_joins_136 ks_1000 ?_
          refine jw_irem C.1 dX6_joins_139 (by decide) ?_
          obtain ⟨hi, h⟩ := h
          refine jw_iast C.1 rfl shM_1 hi dX6_joins_140 ?_
          have h := h _ rfl
          refine jw_sub [3, 4] rfl ?_
          exact jbX6_joins_141 hN C _ _ h
      · have h := h.2 c
        refine jw_aload_n C.1 dX6_joins_92 rfl 3 rfl ?_
        refine jw_iload_n C.1 dX6_joins_93 rfl 4 rfl ?_
        refine jw_iload_n C.1 dX6_joins_94 rfl 1 rfl ?_
        refine jw_cVV (rest := []) C.1 dX6_joins_95 em_shM_id (ctX6_takeOut l _ _ _ _ h) miX6_takeOut shM_0 rfl gX6_joins_X6_takeOut rfl (by decide) rfl rfl rfl (Nat.le_of_ble_eq_true rfl) ⟨Nat.zero_le _, Nat.zero_le _⟩ (fun μ10 h => ?_)
        exact jw_vret C h dX6_joins_98
    · have h := h.2 c
      exact jw_vret C h dX6_joins_61
set_option maxRecDepth 100000 in
set_option maxHeartbeats 4000000 in
theorem jbX6_puts_17 {K : KT} {l : Launch} {ad : Nat → Nat} {Q : Mem → Prop} (hN : kN K = 5) (C : CtxM K l cX6_puts RX6 wsX6_puts rmX6_puts shM ad none (pV Q)) : ∀ (n : Nat) (x1 : Int32) (x2 : Int32) (x3 : Int32) (x4 : Int32) (μ : Mem), bkX6_puts_17 Q n x1 x2 x3 x4 μ → JW K (0, 0) shM ad μ 17 [(0, .ref (ad 0)), (1, .int x1), (2, .int x2), (3, .int x3), (4, .int x4)] [] := by
  have hN_3 : 3 < kN K := by rw [hN]; decide
  have hN_4 : 4 < kN K := by rw [hN]; decide
  intro n
  induction n with
  | zero =>
    intro x1 x2 x3 x4 μ h
    exact h.elim
  | succ n ih =>
    intro x1 x2 x3 x4 μ h
    unfold bkX6_puts_17 at h
    refine jw_iload C.1 dX6_puts_17 4 rfl ?_
    refine jw_iconst C.1 dX6_puts_19 ki_4 ?_
    refine jw_icmp_ge C.1 47 dX6_puts_20 (by decide) (fun c => ?_) (fun c => ?_)
    · have h := h.1 c
      refine jw_aload_n C.1 dX6_puts_47 rfl 0 rfl ?_
      refine jw_getR C.1 iwX6_puts_X6 rfl shM_0 rfl 0 (by decide) rfl (List.mem_of_getElem? (i := 1) rfl) dX6_puts_48 ?_
      refine jw_bipush C.1 dX6_puts_51 kb_72 ?_
      refine jw_iload_n C.1 dX6_puts_53 rfl 1 rfl ?_
      refine jw_iadd C.1 dX6_puts_54 ?_
      refine jw_dup2 C.1 dX6_puts_55 rfl rfl ?_
      obtain ⟨hi, h⟩ := h
      refine jw_iald C.1 rfl shM_1 hi dX6_puts_56 ?_
      refine jw_iconst C.1 dX6_puts_57 ki_1 ?_
      refine jw_iadd C.1 dX6_puts_58 ?_
      obtain ⟨hi, h⟩ := h
      refine jw_iast C.1 rfl shM_1 hi dX6_puts_59 ?_
      have h := h _ rfl
      refine jw_aload_n C.1 dX6_puts_60 rfl 0 rfl ?_
      refine jw_getR C.1 iwX6_puts_X6 rfl shM_0 rfl 0 (by decide) rfl (List.mem_of_getElem? (i := 1) rfl) dX6_puts_61 ?_
      refine jw_iconst C.1 dX6_puts_64 ki_1 ?_
      obtain ⟨hi, h⟩ := h
      refine jw_iald C.1 rfl shM_1 hi dX6_puts_65 ?_
      refine jw_iconst C.1 dX6_puts_66 ki_1 ?_
      refine jw_icmp_ne C.1 94 dX6_puts_67 (by decide) (fun c => ?_) (fun c => ?_)
      · have h := h.1 c
        exact jw_vret C h dX6_puts_94
      · have h := h.2 c
        refine jw_aload_n C.1 dX6_puts_70 rfl 0 rfl ?_
        refine jw_getR C.1 iwX6_puts_X6 rfl shM_0 rfl 0 (by decide) rfl (List.mem_of_getElem? (i := 1) rfl) dX6_puts_71 ?_
        refine jw_iload_n C.1 dX6_puts_74 rfl 3 rfl ?_
        refine jw_iconst C.1 dX6_puts_75 ki_1 ?_
        refine jw_iadd C.1 dX6_puts_76 ?_
        obtain ⟨hi, h⟩ := h
        refine jw_iald C.1 rfl shM_1 hi dX6_puts_77 ?_
        refine jw_aload_n C.1 dX6_puts_78 rfl 0 rfl ?_
        refine jw_getR C.1 iwX6_puts_X6 rfl shM_0 rfl 0 (by decide) rfl (List.mem_of_getElem? (i := 1) rfl) dX6_puts_79 ?_
        refine jw_iload_n C.1 dX6_puts_82 rfl 3 rfl ?_
        refine jw_iconst C.1 dX6_puts_83 ki_2 ?_
        refine jw_iadd C.1 dX6_puts_84 ?_
        obtain ⟨hi, h⟩ := h
        refine jw_iald C.1 rfl shM_1 hi dX6_puts_85 ?_
        refine jw_icmp_ne C.1 94 dX6_puts_86 (by decide) (fun c => ?_) (fun c => ?_)
        · have h := h.1 c
          exact jw_vret C h dX6_puts_94
        · have h := h.2 c
          refine jw_aload_n C.1 dX6_puts_89 rfl 0 rfl ?_
          refine jw_iload_n C.1 dX6_puts_90 rfl 1 rfl ?_
          refine jw_cVV (rest := []) C.1 dX6_puts_91 em_shM_id (ctX6_joins l _ _ _ h) miX6_joins shM_0 rfl gX6_puts_X6_joins rfl (by decide) rfl rfl rfl (Nat.le_of_ble_eq_true rfl) ⟨Nat.zero_le _, Nat.zero_le _⟩ (fun μ4 h => ?_)
          exact jw_vret C h dX6_puts_94
    · have h := h.2 c
      refine jw_aload_n C.1 dX6_puts_23 rfl 0 rfl ?_
      refine jw_getR C.1 iwX6_puts_X6 rfl shM_0 rfl 0 (by decide) rfl (List.mem_of_getElem? (i := 1) rfl) dX6_puts_24 ?_
      refine jw_iload_n C.1 dX6_puts_27 rfl 3 rfl ?_
      refine jw_iload C.1 dX6_puts_28 4 rfl ?_
      refine jw_iadd C.1 dX6_puts_30 ?_
      refine jw_aload_n C.1 dX6_puts_31 rfl 0 rfl ?_
      refine jw_getR C.1 iwX6_puts_X6 rfl shM_0 rfl 6 (by decide) rfl (List.mem_of_getElem? (i := 2) rfl) dX6_puts_32 ?_
      refine jw_iload_n C.1 dX6_puts_35 rfl 2 rfl ?_
      refine jw_iload C.1 dX6_puts_36 4 rfl ?_
      refine jw_iadd C.1 dX6_puts_38 ?_
      obtain ⟨hi, h⟩ := h
      refine jw_iald C.1 rfl shM_6 hi dX6_puts_39 ?_
      obtain ⟨hi, h⟩ := h
      refine jw_iast C.1 rfl shM_1 hi dX6_puts_40 ?_
      have h := h _ rfl
      refine jw_iinc (lw := [(4, .int _), (0, .ref _), (1, .int _), (2, .int _), (3, .int _)]) (q := 4) C.1 dX6_puts_41 rfl (ai_1 _) hN_4 rfl ?_
      have h := h _ rfl
      refine jw_goto (tgt := 17) C.1 dX6_puts_44 (by decide) ?_
      refine jw_sub [1, 2, 3, 4, 0] rfl ?_
      exact ih _ _ _ _ _ h
set_option maxRecDepth 100000 in
set_option maxHeartbeats 4000000 in
theorem ctX6_puts (l : Launch) (a1 : Int32) (a2 : Int32) (μ : Mem) (Q : Mem → Prop) (h : wpX6_puts a1 a2 μ Q) : Con l yX6_puts wsX6_puts rmX6_puts shM (fun ad => [.ref (ad 0), .int a1, .int a2]) μ (pV Q) := by
  refine Con.mk (cc := cX6_puts) (maxL := 5) (ret := none) (own := RX6) (by decide) rfl rfl (fun _ => Nat.le_of_ble_eq_true rfl) (fun K ad hN C => ?_)
  show JW K (0, 0) shM ad μ 0 [(0, .ref (ad 0)), (1, .int a1), (2, .int a2)] []
  have hN_3 : 3 < kN K := by rw [hN]; decide
  have hN_4 : 4 < kN K := by rw [hN]; decide
  unfold wpX6_puts at h
  refine jw_iload_n C.1 dX6_puts_0 rfl 1 rfl ?_
  refine jw_aload_n C.1 dX6_puts_1 rfl 0 rfl ?_
  refine jw_getR C.1 iwX6_puts_X6 rfl shM_0 rfl 0 (by decide) rfl (List.mem_of_getElem? (i := 1) rfl) dX6_puts_2 ?_
  refine jw_bipush C.1 dX6_puts_5 kb_72 ?_
  refine jw_iload_n C.1 dX6_puts_7 rfl 1 rfl ?_
  refine jw_iadd C.1 dX6_puts_8 ?_
  obtain ⟨hi, h⟩ := h
  refine jw_iald C.1 rfl shM_1 hi dX6_puts_9 ?_
  refine jw_eSI (rest := []) C.1 dX6_puts_10 (ctX6_place l _ _ _ h _) miX6_place gX6_puts_X6_place (by decide) rfl rfl rfl (Nat.le_of_ble_eq_true rfl) ⟨Nat.zero_le _, Nat.zero_le _⟩ (fun r1 h => ?_)
  refine jw_istore_n (lw := [(3, .int _), (0, .ref _), (1, .int _), (2, .int _)]) C.1 dX6_puts_13 rfl hN_3 rfl ?_
  refine jw_iconst C.1 dX6_puts_14 ki_0 ?_
  refine jw_istore (lw := [(4, .int _), (3, .int _), (0, .ref _), (1, .int _), (2, .int _)]) C.1 dX6_puts_15 hN_4 rfl ?_
  obtain ⟨n, h⟩ := h
  refine jw_sub [2, 3, 4, 1, 0] rfl ?_
  exact jbX6_puts_17 hN C n _ _ _ _ _ h
set_option maxRecDepth 100000 in
set_option maxHeartbeats 4000000 in
theorem ctX6_childOf (l : Launch) (a1 : Int32) (a2 : Int32) (Q : Int32 → Prop) (h : wpX6_childOf a1 a2 Q) (μ : Mem) : Con l yX6_childOf wsX6_childOf rmX6_childOf [] (fun _ => [.int a1, .int a2]) μ (pI (fun r _ => Q r)) := by
  refine Con.mk (cc := cX6_childOf) (maxL := 2) (ret := (some .int)) (own := RX6) (by decide) rfl rfl (fun _ => Nat.le_of_ble_eq_true rfl) (fun K ad hN C => ?_)
  show JW K (0, 0) [] ad μ 0 [(0, .int a1), (1, .int a2)] []
  unfold wpX6_childOf at h
  refine jw_iload_n C.1 dX6_childOf_0 rfl 0 rfl ?_
  refine jw_if_ne C.1 10 dX6_childOf_1 (by decide) (fun c => ?_) (fun c => ?_)
  · have h := h.1 c
    refine jw_iload_n C.1 dX6_childOf_10 rfl 0 rfl ?_
    refine jw_iconst C.1 dX6_childOf_11 ki_4 ?_
    refine jw_icmp_ge C.1 25 dX6_childOf_12 (by decide) (fun c => ?_) (fun c => ?_)
    · have h := h.1 c
      refine jw_iconst C.1 dX6_childOf_25 ki_3 ?_
      refine jw_iload_n C.1 dX6_childOf_26 rfl 0 rfl ?_
      refine jw_iconst C.1 dX6_childOf_27 ki_4 ?_
      refine jw_isub C.1 dX6_childOf_28 ?_
      refine jw_imul C.1 dX6_childOf_29 ?_
      refine jw_iload_n C.1 dX6_childOf_30 rfl 1 rfl ?_
      refine jw_iadd C.1 dX6_childOf_31 ?_
      exact jw_iret (Q := fun r _ => Q r) C h dX6_childOf_32
    · have h := h.2 c
      refine jw_iconst C.1 dX6_childOf_15 ki_1 ?_
      refine jw_iconst C.1 dX6_childOf_16 ki_3 ?_
      refine jw_iload_n C.1 dX6_childOf_17 rfl 0 rfl ?_
      refine jw_imul C.1 dX6_childOf_18 ?_
      refine jw_iadd C.1 dX6_childOf_19 ?_
      refine jw_iload_n C.1 dX6_childOf_20 rfl 1 rfl ?_
      refine jw_iadd C.1 dX6_childOf_21 ?_
      refine jw_goto (tgt := 32) C.1 dX6_childOf_22 (by decide) ?_
      exact jw_iret (Q := fun r _ => Q r) C h dX6_childOf_32
  · have h := h.2 c
    refine jw_iconst C.1 dX6_childOf_4 ki_1 ?_
    refine jw_iload_n C.1 dX6_childOf_5 rfl 1 rfl ?_
    refine jw_iadd C.1 dX6_childOf_6 ?_
    refine jw_goto (tgt := 32) C.1 dX6_childOf_7 (by decide) ?_
    exact jw_iret (Q := fun r _ => Q r) C h dX6_childOf_32
set_option maxRecDepth 100000 in
set_option maxHeartbeats 4000000 in
theorem ctX6_goes (l : Launch) (a1 : Int32) (a2 : Int32) (a3 : Int32) (a4 : Int32) (μ : Mem) (Q : Mem → Prop) (h : wpX6_goes a1 a2 a3 a4 μ Q) : Con l yX6_goes wsX6_goes rmX6_goes shM (fun ad => [.ref (ad 0), .int a1, .int a2, .int a3, .int a4]) μ (pV Q) := by
  refine Con.mk (cc := cX6_goes) (maxL := 5) (ret := none) (own := RX6) (by decide) rfl rfl (fun _ => Nat.le_of_ble_eq_true rfl) (fun K ad hN C => ?_)
  show JW K (0, 0) shM ad μ 0 [(0, .ref (ad 0)), (1, .int a1), (2, .int a2), (3, .int a3), (4, .int a4)] []
  unfold wpX6_goes at h
  refine jw_aload_n C.1 dX6_goes_0 rfl 0 rfl ?_
  refine jw_getR C.1 iwX6_goes_X6 rfl shM_0 rfl 6 (by decide) rfl (List.mem_of_getElem? (i := 1) rfl) dX6_goes_1 ?_
  refine jw_iload C.1 dX6_goes_4 4 rfl ?_
  refine jw_aload_n C.1 dX6_goes_6 rfl 0 rfl ?_
  refine jw_getR C.1 iwX6_goes_X6 rfl shM_0 rfl 0 (by decide) rfl (List.mem_of_getElem? (i := 2) rfl) dX6_goes_7 ?_
  refine jw_iload_n C.1 dX6_goes_10 rfl 1 rfl ?_
  obtain ⟨hi, h⟩ := h
  refine jw_iald C.1 rfl shM_1 hi dX6_goes_11 ?_
  obtain ⟨hi, h⟩ := h
  refine jw_iast C.1 rfl shM_6 hi dX6_goes_12 ?_
  have h := h _ rfl
  refine jw_aload_n C.1 dX6_goes_13 rfl 0 rfl ?_
  refine jw_getR C.1 iwX6_goes_X6 rfl shM_0 rfl 6 (by decide) rfl (List.mem_of_getElem? (i := 1) rfl) dX6_goes_14 ?_
  refine jw_iload C.1 dX6_goes_17 4 rfl ?_
  refine jw_iconst C.1 dX6_goes_19 ki_1 ?_
  refine jw_iadd C.1 dX6_goes_20 ?_
  refine jw_iload_n C.1 dX6_goes_21 rfl 2 rfl ?_
  obtain ⟨hi, h⟩ := h
  refine jw_iast C.1 rfl shM_6 hi dX6_goes_22 ?_
  have h := h _ rfl
  refine jw_aload_n C.1 dX6_goes_23 rfl 0 rfl ?_
  refine jw_getR C.1 iwX6_goes_X6 rfl shM_0 rfl 6 (by decide) rfl (List.mem_of_getElem? (i := 1) rfl) dX6_goes_24 ?_
  refine jw_iload C.1 dX6_goes_27 4 rfl ?_
  refine jw_iconst C.1 dX6_goes_29 ki_2 ?_
  refine jw_iadd C.1 dX6_goes_30 ?_
  refine jw_iload_n C.1 dX6_goes_31 rfl 3 rfl ?_
  obtain ⟨hi, h⟩ := h
  refine jw_iast C.1 rfl shM_6 hi dX6_goes_32 ?_
  have h := h _ rfl
  refine jw_aload_n C.1 dX6_goes_33 rfl 0 rfl ?_
  refine jw_getR C.1 iwX6_goes_X6 rfl shM_0 rfl 6 (by decide) rfl (List.mem_of_getElem? (i := 1) rfl) dX6_goes_34 ?_
  refine jw_iload C.1 dX6_goes_37 4 rfl ?_
  refine jw_iconst C.1 dX6_goes_39 ki_3 ?_
  refine jw_iadd C.1 dX6_goes_40 ?_
  refine jw_aload_n C.1 dX6_goes_41 rfl 0 rfl ?_
  refine jw_getR C.1 iwX6_goes_X6 rfl shM_0 rfl 0 (by decide) rfl (List.mem_of_getElem? (i := 2) rfl) dX6_goes_42 ?_
  refine jw_iload_n C.1 dX6_goes_45 rfl 1 rfl ?_
  refine jw_iconst C.1 dX6_goes_46 ki_3 ?_
  refine jw_iadd C.1 dX6_goes_47 ?_
  obtain ⟨hi, h⟩ := h
  refine jw_iald C.1 rfl shM_1 hi dX6_goes_48 ?_
  obtain ⟨hi, h⟩ := h
  refine jw_iast C.1 rfl shM_6 hi dX6_goes_49 ?_
  have h := h _ rfl
  exact jw_vret C h dX6_goes_50
set_option maxRecDepth 100000 in
set_option maxHeartbeats 4000000 in
theorem ctX6_leaves (l : Launch) (a1 : Int32) (a2 : Int32) (a3 : Int32) (μ : Mem) (Q : Mem → Prop) (h : wpX6_leaves a1 a2 a3 μ Q) : Con l yX6_leaves wsX6_leaves rmX6_leaves shM (fun ad => [.ref (ad 0), .int a1, .int a2, .int a3]) μ (pV Q) := by
  refine Con.mk (cc := cX6_leaves) (maxL := 4) (ret := none) (own := RX6) (by decide) rfl rfl (fun _ => Nat.le_of_ble_eq_true rfl) (fun K ad hN C => ?_)
  show JW K (0, 0) shM ad μ 0 [(0, .ref (ad 0)), (1, .int a1), (2, .int a2), (3, .int a3)] []
  unfold wpX6_leaves at h
  refine jw_aload_n C.1 dX6_leaves_0 rfl 0 rfl ?_
  refine jw_getR C.1 iwX6_leaves_X6 rfl shM_0 rfl 7 (by decide) rfl (List.mem_of_getElem? (i := 1) rfl) dX6_leaves_1 ?_
  refine jw_iconst C.1 dX6_leaves_4 ki_4 ?_
  refine jw_aload_n C.1 dX6_leaves_5 rfl 0 rfl ?_
  refine jw_getI C.1 iwX6_leaves_X6 rfl shM_0 rfl 10 (by decide) rfl (List.mem_of_getElem? (i := 2) rfl) dX6_leaves_6 ?_
  refine jw_imul C.1 dX6_leaves_9 ?_
  refine jw_aload_n C.1 dX6_leaves_10 rfl 0 rfl ?_
  refine jw_getR C.1 iwX6_leaves_X6 rfl shM_0 rfl 0 (by decide) rfl (List.mem_of_getElem? (i := 3) rfl) dX6_leaves_11 ?_
  refine jw_iload_n C.1 dX6_leaves_14 rfl 1 rfl ?_
  obtain ⟨hi, h⟩ := h
  refine jw_iald C.1 rfl shM_1 hi dX6_leaves_15 ?_
  obtain ⟨hi, h⟩ := h
  refine jw_iast C.1 rfl shM_7 hi dX6_leaves_16 ?_
  have h := h _ rfl
  refine jw_aload_n C.1 dX6_leaves_17 rfl 0 rfl ?_
  refine jw_getR C.1 iwX6_leaves_X6 rfl shM_0 rfl 7 (by decide) rfl (List.mem_of_getElem? (i := 1) rfl) dX6_leaves_18 ?_
  refine jw_iconst C.1 dX6_leaves_21 ki_4 ?_
  refine jw_aload_n C.1 dX6_leaves_22 rfl 0 rfl ?_
  refine jw_getI C.1 iwX6_leaves_X6 rfl shM_0 rfl 10 (by decide) rfl (List.mem_of_getElem? (i := 2) rfl) dX6_leaves_23 ?_
  refine jw_imul C.1 dX6_leaves_26 ?_
  refine jw_iconst C.1 dX6_leaves_27 ki_1 ?_
  refine jw_iadd C.1 dX6_leaves_28 ?_
  refine jw_iload_n C.1 dX6_leaves_29 rfl 2 rfl ?_
  obtain ⟨hi, h⟩ := h
  refine jw_iast C.1 rfl shM_7 hi dX6_leaves_30 ?_
  have h := h _ rfl
  refine jw_aload_n C.1 dX6_leaves_31 rfl 0 rfl ?_
  refine jw_getR C.1 iwX6_leaves_X6 rfl shM_0 rfl 7 (by decide) rfl (List.mem_of_getElem? (i := 1) rfl) dX6_leaves_32 ?_
  refine jw_iconst C.1 dX6_leaves_35 ki_4 ?_
  refine jw_aload_n C.1 dX6_leaves_36 rfl 0 rfl ?_
  refine jw_getI C.1 iwX6_leaves_X6 rfl shM_0 rfl 10 (by decide) rfl (List.mem_of_getElem? (i := 2) rfl) dX6_leaves_37 ?_
  refine jw_imul C.1 dX6_leaves_40 ?_
  refine jw_iconst C.1 dX6_leaves_41 ki_2 ?_
  refine jw_iadd C.1 dX6_leaves_42 ?_
  refine jw_iload_n C.1 dX6_leaves_43 rfl 3 rfl ?_
  obtain ⟨hi, h⟩ := h
  refine jw_iast C.1 rfl shM_7 hi dX6_leaves_44 ?_
  have h := h _ rfl
  refine jw_aload_n C.1 dX6_leaves_45 rfl 0 rfl ?_
  refine jw_getR C.1 iwX6_leaves_X6 rfl shM_0 rfl 7 (by decide) rfl (List.mem_of_getElem? (i := 1) rfl) dX6_leaves_46 ?_
  refine jw_iconst C.1 dX6_leaves_49 ki_4 ?_
  refine jw_aload_n C.1 dX6_leaves_50 rfl 0 rfl ?_
  refine jw_getI C.1 iwX6_leaves_X6 rfl shM_0 rfl 10 (by decide) rfl (List.mem_of_getElem? (i := 2) rfl) dX6_leaves_51 ?_
  refine jw_imul C.1 dX6_leaves_54 ?_
  refine jw_iconst C.1 dX6_leaves_55 ki_3 ?_
  refine jw_iadd C.1 dX6_leaves_56 ?_
  refine jw_aload_n C.1 dX6_leaves_57 rfl 0 rfl ?_
  refine jw_getR C.1 iwX6_leaves_X6 rfl shM_0 rfl 0 (by decide) rfl (List.mem_of_getElem? (i := 3) rfl) dX6_leaves_58 ?_
  refine jw_iload_n C.1 dX6_leaves_61 rfl 1 rfl ?_
  refine jw_iconst C.1 dX6_leaves_62 ki_3 ?_
  refine jw_iadd C.1 dX6_leaves_63 ?_
  obtain ⟨hi, h⟩ := h
  refine jw_iald C.1 rfl shM_1 hi dX6_leaves_64 ?_
  obtain ⟨hi, h⟩ := h
  refine jw_iast C.1 rfl shM_7 hi dX6_leaves_65 ?_
  have h := h _ rfl
  refine jw_aload_n C.1 dX6_leaves_66 rfl 0 rfl ?_
  refine jw_dup C.1 dX6_leaves_67 rfl ?_
  refine jw_getI C.1 iwX6_leaves_X6 rfl shM_0 rfl 10 (by decide) rfl (List.mem_of_getElem? (i := 2) rfl) dX6_leaves_68 ?_
  refine jw_iconst C.1 dX6_leaves_71 ki_1 ?_
  refine jw_iadd C.1 dX6_leaves_72 ?_
  refine jw_putI C.1 iwX6_leaves_X6 rfl shM_0 rfl 10 (by decide) tyX6 tyX6_ok nmX6 (j := 2) rfl fuX6_10 (List.mem_of_getElem? (i := 2) rfl) rfl (ty := .int) (by decide +kernel) rfl rfl dX6_leaves_73 ?_
  have h := h _ rfl
  exact jw_vret C h dX6_leaves_76
set_option maxRecDepth 100000 in
set_option maxHeartbeats 4000000 in
theorem ctX6_level (l : Launch) (a1 : Int32) (Q : Int32 → Prop) (h : wpX6_level a1 Q) (μ : Mem) : Con l yX6_level wsX6_level rmX6_level [] (fun _ => [.int a1]) μ (pI (fun r _ => Q r)) := by
  refine Con.mk (cc := cX6_level) (maxL := 1) (ret := (some .int)) (own := RX6) (by decide) rfl rfl (fun _ => Nat.le_of_ble_eq_true rfl) (fun K ad hN C => ?_)
  show JW K (0, 0) [] ad μ 0 [(0, .int a1)] []
  unfold wpX6_level at h
  refine jw_iload_n C.1 dX6_level_0 rfl 0 rfl ?_
  refine jw_if_ne C.1 8 dX6_level_1 (by decide) (fun c => ?_) (fun c => ?_)
  · have h := h.1 c
    refine jw_iload_n C.1 dX6_level_8 rfl 0 rfl ?_
    refine jw_iconst C.1 dX6_level_9 ki_4 ?_
    refine jw_icmp_ge C.1 18 dX6_level_10 (by decide) (fun c => ?_) (fun c => ?_)
    · have h := h.1 c
      refine jw_sipush C.1 dX6_level_18 ks_192 ?_
      exact jw_iret (Q := fun r _ => Q r) C h dX6_level_21
    · have h := h.2 c
      refine jw_bipush C.1 dX6_level_13 kb_96 ?_
      refine jw_goto (tgt := 21) C.1 dX6_level_15 (by decide) ?_
      exact jw_iret (Q := fun r _ => Q r) C h dX6_level_21
  · have h := h.2 c
    refine jw_iconst C.1 dX6_level_4 ki_0 ?_
    refine jw_goto (tgt := 21) C.1 dX6_level_5 (by decide) ?_
    exact jw_iret (Q := fun r _ => Q r) C h dX6_level_21
set_option maxRecDepth 100000 in
set_option maxHeartbeats 4000000 in
theorem jbX6_takes_163 {K : KT} {l : Launch} {ad : Nat → Nat} {Q : Int32 → Mem → Prop} (hN : kN K = 10) (C : CtxM K l cX6_takes RX6 wsX6_takes rmX6_takes shM ad (some .int) (pI Q)) (L33 : Int32 → Int32 → Int32 → Int32 → Int32 → Mem → Prop) (hL33 : ∀ (x1 : Int32) (x3 : Int32) (x4 : Int32) (x5 : Int32) (x6 : Int32) (μ : Mem), L33 x1 x3 x4 x5 x6 μ → JW K (0, 0) shM ad μ 33 [(0, .ref (ad 0)), (1, .int x1), (3, .int x3), (4, .int x4), (5, .int x5), (6, .int x6)] []) (x1 : Int32) (x3 : Int32) (x4 : Int32) (x5 : Int32) (x6 : Int32) (x7 : Int32) (x9 : Int32) (μ : Mem) (h : bkX6_takes_163 Q L33 x1 x3 x4 x5 x6 x7 x9 μ) : JW K (0, 0) shM ad μ 163 [(0, .ref (ad 0)), (1, .int x1), (3, .int x3), (4, .int x4), (5, .int x5), (6, .int x6), (7, .int x7), (9, .int x9)] [] := by
  have hN_3 : 3 < kN K := by rw [hN]; decide
  have hN_4 : 4 < kN K := by rw [hN]; decide
  have hN_5 : 5 < kN K := by rw [hN]; decide
  have hN_6 : 6 < kN K := by rw [hN]; decide
  have hN_7 : 7 < kN K := by rw [hN]; decide
  have hN_8 : 8 < kN K := by rw [hN]; decide
  have hN_9 : 9 < kN K := by rw [hN]; decide
  unfold bkX6_takes_163 at h
  refine jw_iload C.1 dX6_takes_163 7 rfl ?_
  refine jw_iload C.1 dX6_takes_165 3 rfl ?_
  refine jw_icmp_le C.1 182 dX6_takes_167 (by decide) (fun c => ?_) (fun c => ?_)
  · have h := h.1 c
    refine jw_iinc (lw := [(6, .int _), (0, .ref _), (1, .int _), (3, .int _), (4, .int _), (5, .int _), (7, .int _), (9, .int _)]) (q := 5) C.1 dX6_takes_182 rfl (ai_1 _) hN_6 rfl ?_
    have h := h _ rfl
    refine jw_goto (tgt := 33) C.1 dX6_takes_185 (by decide) ?_
    refine jw_sub [1, 2, 3, 4, 5, 0] rfl ?_
    exact hL33 _ _ _ _ _ _ h
  · have h := h.2 c
    refine jw_aload_n C.1 dX6_takes_170 rfl 0 rfl ?_
    refine jw_iload C.1 dX6_takes_171 6 rfl ?_
    refine jw_iload C.1 dX6_takes_173 3 rfl ?_
    refine jw_iconst C.1 dX6_takes_175 ki_1 ?_
    refine jw_iadd C.1 dX6_takes_176 ?_
    refine jw_iload C.1 dX6_takes_177 7 rfl ?_
    refine jw_cVV (rest := []) C.1 dX6_takes_179 em_shM_id (ctX6_leaves l _ _ _ _ _ h) miX6_leaves shM_0 rfl gX6_takes_X6_leaves rfl (by decide) rfl rfl rfl (Nat.le_of_ble_eq_true rfl) ⟨Nat.zero_le _, Nat.zero_le _⟩ (fun μ30 h => ?_)
    refine jw_iinc (lw := [(6, .int _), (0, .ref _), (1, .int _), (3, .int _), (4, .int _), (5, .int _), (7, .int _), (9, .int _)]) (q := 5) C.1 dX6_takes_182 rfl (ai_1 _) hN_6 rfl ?_
    have h := h _ rfl
    refine jw_goto (tgt := 33) C.1 dX6_takes_185 (by decide) ?_
    refine jw_sub [1, 2, 3, 4, 5, 0] rfl ?_
    exact hL33 _ _ _ _ _ _ h
set_option maxRecDepth 100000 in
set_option maxHeartbeats 4000000 in
theorem jbX6_takes_131 {K : KT} {l : Launch} {ad : Nat → Nat} {Q : Int32 → Mem → Prop} (hN : kN K = 10) (C : CtxM K l cX6_takes RX6 wsX6_takes rmX6_takes shM ad (some .int) (pI Q)) (L33 : Int32 → Int32 → Int32 → Int32 → Int32 → Mem → Prop) (hL33 : ∀ (x1 : Int32) (x3 : Int32) (x4 : Int32) (x5 : Int32) (x6 : Int32) (μ : Mem), L33 x1 x3 x4 x5 x6 μ → JW K (0, 0) shM ad μ 33 [(0, .ref (ad 0)), (1, .int x1), (3, .int x3), (4, .int x4), (5, .int x5), (6, .int x6)] []) (x1 : Int32) (x3 : Int32) (x4 : Int32) (x5 : Int32) (x6 : Int32) (x7 : Int32) (x8 : Int32) (x9 : Int32) (s0 : Int32) (s1 : Int32) (s2 : Int32) (μ : Mem) (h : bkX6_takes_131 Q L33 x1 x3 x4 x5 x6 x7 x8 x9 s0 s1 s2 μ) : JW K (0, 0) shM ad μ 131 [(0, .ref (ad 0)), (1, .int x1), (3, .int x3), (4, .int x4), (5, .int x5), (6, .int x6), (7, .int x7), (8, .int x8), (9, .int x9)] [.int s0, .int s1, .int s2, .ref (ad 0)] := by
  have hN_3 : 3 < kN K := by rw [hN]; decide
  have hN_4 : 4 < kN K := by rw [hN]; decide
  have hN_5 : 5 < kN K := by rw [hN]; decide
  have hN_6 : 6 < kN K := by rw [hN]; decide
  have hN_7 : 7 < kN K := by rw [hN]; decide
  have hN_8 : 8 < kN K := by rw [hN]; decide
  have hN_9 : 9 < kN K := by rw [hN]; decide
  unfold bkX6_takes_131 at h
  refine jw_iload_n C.1 dX6_takes_131 rfl 1 rfl ?_
  refine jw_eSI (rest := [.int _, .int _, .int _, .ref _]) C.1 dX6_takes_132 (ctX6_level l _ _ h _) miX6_level gX6_takes_X6_level (by decide) rfl rfl rfl (Nat.le_of_ble_eq_true rfl) ⟨Nat.zero_le _, Nat.zero_le _⟩ (fun r22 h => ?_)
  refine jw_iconst C.1 dX6_takes_135 ki_4 ?_
  refine jw_iload C.1 dX6_takes_136 4 rfl ?_
  refine jw_imul C.1 dX6_takes_138 ?_
  refine jw_iadd C.1 dX6_takes_139 ?_
  refine jw_cVV (rest := []) C.1 dX6_takes_140 em_shM_id (ctX6_goes l _ _ _ _ _ _ h) miX6_goes shM_0 rfl gX6_takes_X6_goes rfl (by decide) rfl rfl rfl (Nat.le_of_ble_eq_true rfl) ⟨Nat.zero_le _, Nat.zero_le _⟩ (fun μ24 h => ?_)
  refine jw_iinc (lw := [(5, .int _), (0, .ref _), (1, .int _), (3, .int _), (4, .int _), (6, .int _), (7, .int _), (8, .int _), (9, .int _)]) (q := 4) C.1 dX6_takes_143 rfl (ai_1 _) hN_5 rfl ?_
  have h := h _ rfl
  refine jw_iload C.1 dX6_takes_146 7 rfl ?_
  refine jw_iload_n C.1 dX6_takes_148 rfl 3 rfl ?_
  refine jw_icmp_ge C.1 163 dX6_takes_149 (by decide) (fun c => ?_) (fun c => ?_)
  · have h := h.1 c
    refine jw_sub [1, 2, 3, 4, 0, 5, 6, 8] rfl ?_
    exact jbX6_takes_163 hN C _ hL33 _ _ _ _ _ _ _ _ h
  · have h := h.2 c
    refine jw_aload_n C.1 dX6_takes_152 rfl 1 rfl ?_
    refine jw_iload C.1 dX6_takes_153 6 rfl ?_
    refine jw_iload C.1 dX6_takes_155 7 rfl ?_
    refine jw_iload_n C.1 dX6_takes_157 rfl 3 rfl ?_
    refine jw_iconst C.1 dX6_takes_158 ki_1 ?_
    refine jw_isub C.1 dX6_takes_159 ?_
    refine jw_cVV (rest := []) C.1 dX6_takes_160 em_shM_id (ctX6_leaves l _ _ _ _ _ h) miX6_leaves shM_0 rfl gX6_takes_X6_leaves rfl (by decide) rfl rfl rfl (Nat.le_of_ble_eq_true rfl) ⟨Nat.zero_le _, Nat.zero_le _⟩ (fun μ27 h => ?_)
    refine jw_sub [1, 2, 3, 4, 0, 5, 6, 8] rfl ?_
    exact jbX6_takes_163 hN C _ hL33 _ _ _ _ _ _ _ _ h
set_option maxRecDepth 100000 in
set_option maxHeartbeats 4000000 in
theorem jbX6_takes_117 {K : KT} {l : Launch} {ad : Nat → Nat} {Q : Int32 → Mem → Prop} (hN : kN K = 10) (C : CtxM K l cX6_takes RX6 wsX6_takes rmX6_takes shM ad (some .int) (pI Q)) (L33 : Int32 → Int32 → Int32 → Int32 → Int32 → Mem → Prop) (hL33 : ∀ (x1 : Int32) (x3 : Int32) (x4 : Int32) (x5 : Int32) (x6 : Int32) (μ : Mem), L33 x1 x3 x4 x5 x6 μ → JW K (0, 0) shM ad μ 33 [(0, .ref (ad 0)), (1, .int x1), (3, .int x3), (4, .int x4), (5, .int x5), (6, .int x6)] []) (x1 : Int32) (x3 : Int32) (x4 : Int32) (x5 : Int32) (x6 : Int32) (x7 : Int32) (x8 : Int32) (x9 : Int32) (s0 : Int32) (s1 : Int32) (μ : Mem) (h : bkX6_takes_117 Q L33 x1 x3 x4 x5 x6 x7 x8 x9 s0 s1 μ) : JW K (0, 0) shM ad μ 117 [(0, .ref (ad 0)), (1, .int x1), (3, .int x3), (4, .int x4), (5, .int x5), (6, .int x6), (7, .int x7), (8, .int x8), (9, .int x9)] [.int s0, .int s1, .ref (ad 0)] := by
  have hN_3 : 3 < kN K := by rw [hN]; decide
  have hN_4 : 4 < kN K := by rw [hN]; decide
  have hN_5 : 5 < kN K := by rw [hN]; decide
  have hN_6 : 6 < kN K := by rw [hN]; decide
  have hN_7 : 7 < kN K := by rw [hN]; decide
  have hN_8 : 8 < kN K := by rw [hN]; decide
  have hN_9 : 9 < kN K := by rw [hN]; decide
  unfold bkX6_takes_117 at h
  refine jw_iload C.1 dX6_takes_117 8 rfl ?_
  refine jw_iload C.1 dX6_takes_119 3 rfl ?_
  refine jw_icmp_le C.1 129 dX6_takes_121 (by decide) (fun c => ?_) (fun c => ?_)
  · have h := h.1 c
    refine jw_iload C.1 dX6_takes_129 8 rfl ?_
    exact jbX6_takes_131 hN C _ hL33 _ _ _ _ _ _ _ _ _ _ _ _ h
  · have h := h.2 c
    refine jw_iload C.1 dX6_takes_124 3 rfl ?_
    refine jw_goto (tgt := 131) C.1 dX6_takes_126 (by decide) ?_
    exact jbX6_takes_131 hN C _ hL33 _ _ _ _ _ _ _ _ _ _ _ _ h
set_option maxRecDepth 100000 in
set_option maxHeartbeats 4000000 in
theorem jbX6_takes_261 {K : KT} {l : Launch} {ad : Nat → Nat} {Q : Int32 → Mem → Prop} (hN : kN K = 10) (C : CtxM K l cX6_takes RX6 wsX6_takes rmX6_takes shM ad (some .int) (pI Q)) (x1 : Int32) (x5 : Int32) (s0 : Int32) (s1 : Int32) (s2 : Int32) (μ : Mem) (h : bkX6_takes_261 Q x1 x5 s0 s1 s2 μ) : JW K (0, 0) shM ad μ 261 [(0, .ref (ad 0)), (1, .int x1), (5, .int x5)] [.int s0, .int s1, .int s2, .ref (ad 1)] := by
  have hN_3 : 3 < kN K := by rw [hN]; decide
  have hN_4 : 4 < kN K := by rw [hN]; decide
  have hN_5 : 5 < kN K := by rw [hN]; decide
  have hN_6 : 6 < kN K := by rw [hN]; decide
  have hN_7 : 7 < kN K := by rw [hN]; decide
  have hN_8 : 8 < kN K := by rw [hN]; decide
  have hN_9 : 9 < kN K := by rw [hN]; decide
  unfold bkX6_takes_261 at h
  refine jw_iadd C.1 dX6_takes_261 ?_
  obtain ⟨hi, h⟩ := h
  refine jw_iast C.1 rfl shM_1 hi dX6_takes_262 ?_
  have h := h _ rfl
  refine jw_aload_n C.1 dX6_takes_263 rfl 0 rfl ?_
  refine jw_getR C.1 iwX6_takes_X6 rfl shM_0 rfl 0 (by decide) rfl (List.mem_of_getElem? (i := 2) rfl) dX6_takes_264 ?_
  refine jw_bipush C.1 dX6_takes_267 kb_46 ?_
  refine jw_iload_n C.1 dX6_takes_269 rfl 1 rfl ?_
  refine jw_iadd C.1 dX6_takes_270 ?_
  refine jw_dup2 C.1 dX6_takes_271 rfl rfl ?_
  obtain ⟨hi, h⟩ := h
  refine jw_iald C.1 rfl shM_1 hi dX6_takes_272 ?_
  refine jw_iload C.1 dX6_takes_273 2 rfl ?_
  refine jw_iadd C.1 dX6_takes_275 ?_
  obtain ⟨hi, h⟩ := h
  refine jw_iast C.1 rfl shM_1 hi dX6_takes_276 ?_
  have h := h _ rfl
  refine jw_aload_n C.1 dX6_takes_277 rfl 0 rfl ?_
  refine jw_getR C.1 iwX6_takes_X6 rfl shM_0 rfl 0 (by decide) rfl (List.mem_of_getElem? (i := 2) rfl) dX6_takes_278 ?_
  refine jw_iconst C.1 dX6_takes_281 ki_3 ?_
  refine jw_dup2 C.1 dX6_takes_282 rfl rfl ?_
  obtain ⟨hi, h⟩ := h
  refine jw_iald C.1 rfl shM_1 hi dX6_takes_283 ?_
  refine jw_iload C.1 dX6_takes_284 2 rfl ?_
  refine jw_iadd C.1 dX6_takes_286 ?_
  obtain ⟨hi, h⟩ := h
  refine jw_iast C.1 rfl shM_1 hi dX6_takes_287 ?_
  have h := h _ rfl
  refine jw_iload C.1 dX6_takes_288 2 rfl ?_
  exact jw_iret (Q := Q) C h dX6_takes_290
set_option maxRecDepth 100000 in
set_option maxHeartbeats 4000000 in
theorem jbX6_takes_191 {K : KT} {l : Launch} {ad : Nat → Nat} {Q : Int32 → Mem → Prop} (hN : kN K = 10) (C : CtxM K l cX6_takes RX6 wsX6_takes rmX6_takes shM ad (some .int) (pI Q)) : ∀ (n : Nat) (x1 : Int32) (x5 : Int32) (x6 : Int32) (μ : Mem), bkX6_takes_191 Q n x1 x5 x6 μ → JW K (0, 0) shM ad μ 191 [(0, .ref (ad 0)), (1, .int x1), (5, .int x5), (6, .int x6)] [] := by
  have hN_3 : 3 < kN K := by rw [hN]; decide
  have hN_4 : 4 < kN K := by rw [hN]; decide
  have hN_5 : 5 < kN K := by rw [hN]; decide
  have hN_6 : 6 < kN K := by rw [hN]; decide
  have hN_7 : 7 < kN K := by rw [hN]; decide
  have hN_8 : 8 < kN K := by rw [hN]; decide
  have hN_9 : 9 < kN K := by rw [hN]; decide
  intro n
  induction n with
  | zero =>
    intro x1 x5 x6 μ h
    exact h.elim
  | succ n ih =>
    intro x1 x5 x6 μ h
    unfold bkX6_takes_191 at h
    refine jw_iload C.1 dX6_takes_191 3 rfl ?_
    refine jw_iconst C.1 dX6_takes_193 ki_4 ?_
    refine jw_aload_n C.1 dX6_takes_194 rfl 0 rfl ?_
    refine jw_getI C.1 iwX6_takes_X6 rfl shM_0 rfl 10 (by decide) rfl (List.mem_of_getElem? (i := 1) rfl) dX6_takes_195 ?_
    refine jw_imul C.1 dX6_takes_198 ?_
    refine jw_icmp_ge C.1 228 dX6_takes_199 (by decide) (fun c => ?_) (fun c => ?_)
    · have h := h.1 c
      refine jw_aload_n C.1 dX6_takes_228 rfl 0 rfl ?_
      refine jw_getR C.1 iwX6_takes_X6 rfl shM_0 rfl 0 (by decide) rfl (List.mem_of_getElem? (i := 2) rfl) dX6_takes_229 ?_
      refine jw_bipush C.1 dX6_takes_232 kb_72 ?_
      refine jw_iload_n C.1 dX6_takes_234 rfl 1 rfl ?_
      refine jw_iadd C.1 dX6_takes_235 ?_
      refine jw_aload_n C.1 dX6_takes_236 rfl 0 rfl ?_
      refine jw_getI C.1 iwX6_takes_X6 rfl shM_0 rfl 10 (by decide) rfl (List.mem_of_getElem? (i := 1) rfl) dX6_takes_237 ?_
      obtain ⟨hi, h⟩ := h
      refine jw_iast C.1 rfl shM_1 hi dX6_takes_240 ?_
      have h := h _ rfl
      refine jw_aload_n C.1 dX6_takes_241 rfl 0 rfl ?_
      refine jw_getR C.1 iwX6_takes_X6 rfl shM_0 rfl 0 (by decide) rfl (List.mem_of_getElem? (i := 2) rfl) dX6_takes_242 ?_
      refine jw_bipush C.1 dX6_takes_245 kb_33 ?_
      refine jw_iload_n C.1 dX6_takes_247 rfl 1 rfl ?_
      refine jw_iadd C.1 dX6_takes_248 ?_
      refine jw_dup2 C.1 dX6_takes_249 rfl rfl ?_
      obtain ⟨hi, h⟩ := h
      refine jw_iald C.1 rfl shM_1 hi dX6_takes_250 ?_
      refine jw_iload C.1 dX6_takes_251 2 rfl ?_
      refine jw_if_le C.1 260 dX6_takes_253 (by decide) (fun c => ?_) (fun c => ?_)
      · have h := h.1 c
        refine jw_iconst C.1 dX6_takes_260 ki_0 ?_
        refine jw_sub [0, 1, 2] rfl ?_
        exact jbX6_takes_261 hN C _ _ _ _ _ _ h
      · have h := h.2 c
        refine jw_iconst C.1 dX6_takes_256 ki_1 ?_
        refine jw_goto (tgt := 261) C.1 dX6_takes_257 (by decide) ?_
        refine jw_sub [0, 1, 2] rfl ?_
        exact jbX6_takes_261 hN C _ _ _ _ _ _ h
    · have h := h.2 c
      refine jw_aload_n C.1 dX6_takes_202 rfl 0 rfl ?_
      refine jw_getR C.1 iwX6_takes_X6 rfl shM_0 rfl 0 (by decide) rfl (List.mem_of_getElem? (i := 2) rfl) dX6_takes_203 ?_
      refine jw_iload_n C.1 dX6_takes_206 rfl 1 rfl ?_
      refine jw_iconst C.1 dX6_takes_207 ki_0 ?_
      refine jw_eSI (rest := [.ref _]) C.1 dX6_takes_208 (ctX6_place l _ _ _ h _) miX6_place gX6_takes_X6_place (by decide) rfl rfl rfl (Nat.le_of_ble_eq_true rfl) ⟨Nat.zero_le _, Nat.zero_le _⟩ (fun r16 h => ?_)
      refine jw_iload C.1 dX6_takes_211 3 rfl ?_
      refine jw_iadd C.1 dX6_takes_213 ?_
      refine jw_aload_n C.1 dX6_takes_214 rfl 0 rfl ?_
      refine jw_getR C.1 iwX6_takes_X6 rfl shM_0 rfl 7 (by decide) rfl (List.mem_of_getElem? (i := 3) rfl) dX6_takes_215 ?_
      refine jw_iload C.1 dX6_takes_218 3 rfl ?_
      obtain ⟨hi, h⟩ := h
      refine jw_iald C.1 rfl shM_7 hi dX6_takes_220 ?_
      obtain ⟨hi, h⟩ := h
      refine jw_iast C.1 rfl shM_1 hi dX6_takes_221 ?_
      have h := h _ rfl
      refine jw_iinc (lw := [(6, .int _), (0, .ref _), (1, .int _), (5, .int _)]) (q := 3) C.1 dX6_takes_222 rfl (ai_1 _) hN_6 rfl ?_
      have h := h _ rfl
      refine jw_goto (tgt := 191) C.1 dX6_takes_225 (by decide) ?_
      refine jw_sub [1, 2, 3, 0] rfl ?_
      exact ih _ _ _ _ h
set_option maxRecDepth 100000 in
set_option maxHeartbeats 4000000 in
theorem jbX6_takes_33 {K : KT} {l : Launch} {ad : Nat → Nat} {Q : Int32 → Mem → Prop} (hN : kN K = 10) (C : CtxM K l cX6_takes RX6 wsX6_takes rmX6_takes shM ad (some .int) (pI Q)) : ∀ (n : Nat) (x1 : Int32) (x3 : Int32) (x4 : Int32) (x5 : Int32) (x6 : Int32) (μ : Mem), bkX6_takes_33 Q n x1 x3 x4 x5 x6 μ → JW K (0, 0) shM ad μ 33 [(0, .ref (ad 0)), (1, .int x1), (3, .int x3), (4, .int x4), (5, .int x5), (6, .int x6)] [] := by
  have hN_3 : 3 < kN K := by rw [hN]; decide
  have hN_4 : 4 < kN K := by rw [hN]; decide
  have hN_5 : 5 < kN K := by rw [hN]; decide
  have hN_6 : 6 < kN K := by rw [hN]; decide
  have hN_7 : 7 < kN K := by rw [hN]; decide
  have hN_8 : 8 < kN K := by rw [hN]; decide
  have hN_9 : 9 < kN K := by rw [hN]; decide
  intro n
  induction n with
  | zero =>
    intro x1 x3 x4 x5 x6 μ h
    exact h.elim
  | succ n ih =>
    intro x1 x3 x4 x5 x6 μ h
    unfold bkX6_takes_33 at h
    refine jw_iload C.1 dX6_takes_33 5 rfl ?_
    refine jw_aload_n C.1 dX6_takes_35 rfl 0 rfl ?_
    refine jw_getR C.1 iwX6_takes_X6 rfl shM_0 rfl 0 (by decide) rfl (List.mem_of_getElem? (i := 2) rfl) dX6_takes_36 ?_
    refine jw_bipush C.1 dX6_takes_39 kb_72 ?_
    refine jw_iload_n C.1 dX6_takes_41 rfl 1 rfl ?_
    refine jw_iadd C.1 dX6_takes_42 ?_
    obtain ⟨hi, h⟩ := h
    refine jw_iald C.1 rfl shM_1 hi dX6_takes_43 ?_
    refine jw_icmp_ge C.1 188 dX6_takes_44 (by decide) (fun c => ?_) (fun c => ?_)
    · have h := h.1 c
      refine jw_iconst C.1 dX6_takes_188 ki_0 ?_
      refine jw_istore (lw := [(6, .int _), (0, .ref _), (1, .int _), (3, .int _), (4, .int _), (5, .int _)]) C.1 dX6_takes_189 hN_6 rfl ?_
      obtain ⟨n, h⟩ := h
      refine jw_sub [1, 2, 5, 0] rfl ?_
      exact jbX6_takes_191 hN C n _ _ _ _ h
    · have h := h.2 c
      refine jw_iload_n C.1 dX6_takes_47 rfl 1 rfl ?_
      refine jw_iload C.1 dX6_takes_48 5 rfl ?_
      refine jw_eSI (rest := []) C.1 dX6_takes_50 (ctX6_place l _ _ _ h _) miX6_place gX6_takes_X6_place (by decide) rfl rfl rfl (Nat.le_of_ble_eq_true rfl) ⟨Nat.zero_le _, Nat.zero_le _⟩ (fun r7 h => ?_)
      refine jw_istore (lw := [(7, .int _), (0, .ref _), (1, .int _), (3, .int _), (4, .int _), (5, .int _), (6, .int _)]) C.1 dX6_takes_53 hN_7 rfl ?_
      refine jw_aload_n C.1 dX6_takes_55 rfl 1 rfl ?_
      refine jw_getR C.1 iwX6_takes_X6 rfl shM_0 rfl 0 (by decide) rfl (List.mem_of_getElem? (i := 2) rfl) dX6_takes_56 ?_
      refine jw_iload C.1 dX6_takes_59 0 rfl ?_
      refine jw_iconst C.1 dX6_takes_61 ki_1 ?_
      refine jw_iadd C.1 dX6_takes_62 ?_
      obtain ⟨hi, h⟩ := h
      refine jw_iald C.1 rfl shM_1 hi dX6_takes_63 ?_
      refine jw_istore (lw := [(8, .int _), (7, .int _), (0, .ref _), (1, .int _), (3, .int _), (4, .int _), (5, .int _), (6, .int _)]) C.1 dX6_takes_64 hN_8 rfl ?_
      have h := h _ rfl
      refine jw_aload_n C.1 dX6_takes_66 rfl 2 rfl ?_
      refine jw_getR C.1 iwX6_takes_X6 rfl shM_0 rfl 0 (by decide) rfl (List.mem_of_getElem? (i := 2) rfl) dX6_takes_67 ?_
      refine jw_iload C.1 dX6_takes_70 1 rfl ?_
      refine jw_iconst C.1 dX6_takes_72 ki_2 ?_
      refine jw_iadd C.1 dX6_takes_73 ?_
      obtain ⟨hi, h⟩ := h
      refine jw_iald C.1 rfl shM_1 hi dX6_takes_74 ?_
      refine jw_istore (lw := [(9, .int _), (8, .int _), (7, .int _), (0, .ref _), (1, .int _), (3, .int _), (4, .int _), (5, .int _), (6, .int _)]) C.1 dX6_takes_75 hN_9 rfl ?_
      have h := h _ rfl
      refine jw_aload_n C.1 dX6_takes_77 rfl 3 rfl ?_
      refine jw_iload C.1 dX6_takes_78 2 rfl ?_
      refine jw_iload_n C.1 dX6_takes_80 rfl 5 rfl ?_
      refine jw_iload C.1 dX6_takes_81 6 rfl ?_
      refine jw_cVI (rest := []) C.1 dX6_takes_83 em_shM_id (ctX6_has l _ _ _ _ _ h) miX6_has shM_0 rfl gX6_takes_X6_has rfl (by decide) rfl rfl rfl (Nat.le_of_ble_eq_true rfl) ⟨Nat.zero_le _, Nat.zero_le _⟩ (fun r10 μ11 h => ?_)
      refine jw_if_ne C.1 102 dX6_takes_86 (by decide) (fun c => ?_) (fun c => ?_)
      · have h := h.1 c
        refine jw_aload_n C.1 dX6_takes_102 rfl 3 rfl ?_
        refine jw_iload C.1 dX6_takes_103 2 rfl ?_
        refine jw_iload C.1 dX6_takes_105 1 rfl ?_
        refine jw_iload_n C.1 dX6_takes_107 rfl 5 rfl ?_
        refine jw_icmp_ge C.1 115 dX6_takes_108 (by decide) (fun c => ?_) (fun c => ?_)
        · have h := h.1 c
          refine jw_iload C.1 dX6_takes_115 1 rfl ?_
          refine jw_sub [3, 4, 5, 6, 7, 8, 2, 1, 0] rfl ?_
          exact jbX6_takes_117 hN C _ ih _ _ _ _ _ _ _ _ _ _ _ h
        · have h := h.2 c
          refine jw_iload_n C.1 dX6_takes_111 rfl 5 rfl ?_
          refine jw_goto (tgt := 117) C.1 dX6_takes_112 (by decide) ?_
          refine jw_sub [3, 4, 5, 6, 7, 8, 2, 1, 0] rfl ?_
          exact jbX6_takes_117 hN C _ ih _ _ _ _ _ _ _ _ _ _ _ h
      · have h := h.2 c
        refine jw_aload_n C.1 dX6_takes_89 rfl 3 rfl ?_
        refine jw_iload C.1 dX6_takes_90 2 rfl ?_
        refine jw_iload C.1 dX6_takes_92 1 rfl ?_
        refine jw_iload C.1 dX6_takes_94 0 rfl ?_
        refine jw_cVV (rest := []) C.1 dX6_takes_96 em_shM_id (ctX6_leaves l _ _ _ _ _ h) miX6_leaves shM_0 rfl gX6_takes_X6_leaves rfl (by decide) rfl rfl rfl (Nat.le_of_ble_eq_true rfl) ⟨Nat.zero_le _, Nat.zero_le _⟩ (fun μ13 h => ?_)
        refine jw_goto (tgt := 182) C.1 dX6_takes_99 (by decide) ?_
        refine jw_iinc (lw := [(6, .int _), (9, .int _), (8, .int _), (7, .int _), (0, .ref _), (1, .int _), (3, .int _), (4, .int _), (5, .int _)]) (q := 8) C.1 dX6_takes_182 rfl (ai_1 _) hN_6 rfl ?_
        have h := h _ rfl
        refine jw_goto (tgt := 33) C.1 dX6_takes_185 (by decide) ?_
        refine jw_sub [4, 5, 6, 7, 8, 0] rfl ?_
        exact ih _ _ _ _ _ _ h
set_option maxRecDepth 100000 in
set_option maxHeartbeats 4000000 in
theorem ctX6_takes (l : Launch) (a1 : Int32) (a2 : Int32) (μ : Mem) (Q : Int32 → Mem → Prop) (h : wpX6_takes a1 a2 μ Q) : Con l yX6_takes wsX6_takes rmX6_takes shM (fun ad => [.ref (ad 0), .int a1, .int a2]) μ (pI Q) := by
  refine Con.mk (cc := cX6_takes) (maxL := 10) (ret := (some .int)) (own := RX6) (by decide) rfl rfl (fun _ => Nat.le_of_ble_eq_true rfl) (fun K ad hN C => ?_)
  show JW K (0, 0) shM ad μ 0 [(0, .ref (ad 0)), (1, .int a1), (2, .int a2)] []
  have hN_3 : 3 < kN K := by rw [hN]; decide
  have hN_4 : 4 < kN K := by rw [hN]; decide
  have hN_5 : 5 < kN K := by rw [hN]; decide
  have hN_6 : 6 < kN K := by rw [hN]; decide
  have hN_7 : 7 < kN K := by rw [hN]; decide
  have hN_8 : 8 < kN K := by rw [hN]; decide
  have hN_9 : 9 < kN K := by rw [hN]; decide
  unfold wpX6_takes at h
  refine jw_iload_n C.1 dX6_takes_0 rfl 1 rfl ?_
  refine jw_eSI (rest := []) C.1 dX6_takes_1 (ctX6_firstOf l _ _ h _) miX6_firstOf gX6_takes_X6_firstOf (by decide) rfl rfl rfl (Nat.le_of_ble_eq_true rfl) ⟨Nat.zero_le _, Nat.zero_le _⟩ (fun r1 h => ?_)
  refine jw_iload_n C.1 dX6_takes_4 rfl 1 rfl ?_
  refine jw_eSI (rest := [.int _]) C.1 dX6_takes_5 (ctX6_part l _ _ h _) miX6_part gX6_takes_X6_part (by decide) rfl rfl rfl (Nat.le_of_ble_eq_true rfl) ⟨Nat.zero_le _, Nat.zero_le _⟩ (fun r2 h => ?_)
  refine jw_iload_n C.1 dX6_takes_8 rfl 2 rfl ?_
  refine jw_imul C.1 dX6_takes_9 ?_
  refine jw_iadd C.1 dX6_takes_10 ?_
  refine jw_istore_n (lw := [(3, .int _), (0, .ref _), (1, .int _), (2, .int _)]) C.1 dX6_takes_11 rfl hN_3 rfl ?_
  have h := h _ rfl
  refine jw_iload_n C.1 dX6_takes_12 rfl 0 rfl ?_
  refine jw_iload_n C.1 dX6_takes_13 rfl 2 rfl ?_
  refine jw_eSI (rest := [.int _]) C.1 dX6_takes_14 (ctX6_part l _ _ h _) miX6_part gX6_takes_X6_part (by decide) rfl rfl rfl (Nat.le_of_ble_eq_true rfl) ⟨Nat.zero_le _, Nat.zero_le _⟩ (fun r4 h => ?_)
  refine jw_iadd C.1 dX6_takes_17 ?_
  refine jw_iconst C.1 dX6_takes_18 ki_1 ?_
  refine jw_isub C.1 dX6_takes_19 ?_
  refine jw_istore (lw := [(4, .int _), (3, .int _), (0, .ref _), (1, .int _), (2, .int _)]) C.1 dX6_takes_20 hN_4 rfl ?_
  have h := h _ rfl
  refine jw_iconst C.1 dX6_takes_22 ki_0 ?_
  refine jw_istore (lw := [(5, .int _), (4, .int _), (3, .int _), (0, .ref _), (1, .int _), (2, .int _)]) C.1 dX6_takes_23 hN_5 rfl ?_
  refine jw_aload_n C.1 dX6_takes_25 rfl 3 rfl ?_
  refine jw_iconst C.1 dX6_takes_26 ki_0 ?_
  refine jw_putI C.1 iwX6_takes_X6 rfl shM_0 rfl 10 (by decide) tyX6 tyX6_ok nmX6 (j := 2) rfl fuX6_10 (List.mem_of_getElem? (i := 1) rfl) rfl (ty := .int) (by decide +kernel) rfl rfl dX6_takes_27 ?_
  have h := h _ rfl
  refine jw_iconst C.1 dX6_takes_30 ki_0 ?_
  refine jw_istore (lw := [(6, .int _), (5, .int _), (4, .int _), (3, .int _), (0, .ref _), (1, .int _), (2, .int _)]) C.1 dX6_takes_31 hN_6 rfl ?_
  obtain ⟨n, h⟩ := h
  refine jw_sub [4, 5, 3, 2, 1, 0] rfl ?_
  exact jbX6_takes_33 hN C n _ _ _ _ _ _ h
set_option maxRecDepth 100000 in
set_option maxHeartbeats 4000000 in
theorem jbX6_sinksLow_17 {K : KT} {l : Launch} {ad : Nat → Nat} {Q : Mem → Prop} (hN : kN K = 7) (C : CtxM K l cX6_sinksLow RX6 wsX6_sinksLow rmX6_sinksLow shM ad none (pV Q)) : ∀ (n : Nat) (x3 : Int32) (x4 : Int32) (x5 : Int32) (μ : Mem), bkX6_sinksLow_17 Q n x3 x4 x5 μ → JW K (0, 0) shM ad μ 17 [(0, .ref (ad 0)), (3, .int x3), (4, .int x4), (5, .int x5)] [] := by
  have hN_3 : 3 < kN K := by rw [hN]; decide
  have hN_4 : 4 < kN K := by rw [hN]; decide
  have hN_5 : 5 < kN K := by rw [hN]; decide
  have hN_6 : 6 < kN K := by rw [hN]; decide
  intro n
  induction n with
  | zero =>
    intro x3 x4 x5 μ h
    exact h.elim
  | succ n ih =>
    intro x3 x4 x5 μ h
    unfold bkX6_sinksLow_17 at h
    refine jw_iload C.1 dX6_sinksLow_17 3 rfl ?_
    refine jw_iload_n C.1 dX6_sinksLow_19 rfl 1 rfl ?_
    refine jw_icmp_ge C.1 88 dX6_sinksLow_20 (by decide) (fun c => ?_) (fun c => ?_)
    · have h := h.1 c
      exact jw_vret C h dX6_sinksLow_88
    · have h := h.2 c
      refine jw_sipush C.1 dX6_sinksLow_23 ks_192 ?_
      refine jw_iconst C.1 dX6_sinksLow_26 ki_4 ?_
      refine jw_iload C.1 dX6_sinksLow_27 3 rfl ?_
      refine jw_imul C.1 dX6_sinksLow_29 ?_
      refine jw_iadd C.1 dX6_sinksLow_30 ?_
      refine jw_istore (lw := [(6, .int _), (0, .ref _), (3, .int _), (4, .int _), (5, .int _)]) C.1 dX6_sinksLow_31 hN_6 rfl ?_
      have h := h _ rfl
      refine jw_aload_n C.1 dX6_sinksLow_33 rfl 1 rfl ?_
      refine jw_getR C.1 iwX6_sinksLow_X6 rfl shM_0 rfl 0 (by decide) rfl (List.mem_of_getElem? (i := 1) rfl) dX6_sinksLow_34 ?_
      refine jw_bipush C.1 dX6_sinksLow_37 kb_6 ?_
      refine jw_iload C.1 dX6_sinksLow_39 3 rfl ?_
      refine jw_iadd C.1 dX6_sinksLow_41 ?_
      refine jw_aload_n C.1 dX6_sinksLow_42 rfl 1 rfl ?_
      refine jw_getR C.1 iwX6_sinksLow_X6 rfl shM_0 rfl 0 (by decide) rfl (List.mem_of_getElem? (i := 1) rfl) dX6_sinksLow_43 ?_
      refine jw_bipush C.1 dX6_sinksLow_46 kb_6 ?_
      refine jw_iload C.1 dX6_sinksLow_48 3 rfl ?_
      refine jw_iadd C.1 dX6_sinksLow_50 ?_
      obtain ⟨hi, h⟩ := h
      refine jw_iald C.1 rfl shM_1 hi dX6_sinksLow_51 ?_
      refine jw_aload_n C.1 dX6_sinksLow_52 rfl 1 rfl ?_
      refine jw_getR C.1 iwX6_sinksLow_X6 rfl shM_0 rfl 6 (by decide) rfl (List.mem_of_getElem? (i := 2) rfl) dX6_sinksLow_53 ?_
      refine jw_iload C.1 dX6_sinksLow_56 0 rfl ?_
      obtain ⟨hi, h⟩ := h
      refine jw_iald C.1 rfl shM_6 hi dX6_sinksLow_58 ?_
      refine jw_aload_n C.1 dX6_sinksLow_59 rfl 1 rfl ?_
      refine jw_getR C.1 iwX6_sinksLow_X6 rfl shM_0 rfl 6 (by decide) rfl (List.mem_of_getElem? (i := 2) rfl) dX6_sinksLow_60 ?_
      refine jw_iload C.1 dX6_sinksLow_63 0 rfl ?_
      refine jw_iconst C.1 dX6_sinksLow_65 ki_3 ?_
      refine jw_iadd C.1 dX6_sinksLow_66 ?_
      obtain ⟨hi, h⟩ := h
      refine jw_iald C.1 rfl shM_6 hi dX6_sinksLow_67 ?_
      refine jw_eSI (rest := [.int _, .ref _]) C.1 dX6_sinksLow_68 (ctX6_applied l _ _ _ _ h _) miX6_applied gX6_sinksLow_X6_applied (by decide) rfl rfl rfl (Nat.le_of_ble_eq_true rfl) ⟨Nat.zero_le _, Nat.zero_le _⟩ (fun r5 h => ?_)
      obtain ⟨hi, h⟩ := h
      refine jw_iast C.1 rfl shM_1 hi dX6_sinksLow_71 ?_
      have h := h _ rfl
      refine jw_aload_n C.1 dX6_sinksLow_72 rfl 1 rfl ?_
      refine jw_getR C.1 iwX6_sinksLow_X6 rfl shM_0 rfl 0 (by decide) rfl (List.mem_of_getElem? (i := 1) rfl) dX6_sinksLow_73 ?_
      refine jw_iconst C.1 dX6_sinksLow_76 ki_4 ?_
      refine jw_dup2 C.1 dX6_sinksLow_77 rfl rfl ?_
      obtain ⟨hi, h⟩ := h
      refine jw_iald C.1 rfl shM_1 hi dX6_sinksLow_78 ?_
      refine jw_iconst C.1 dX6_sinksLow_79 ki_1 ?_
      refine jw_iadd C.1 dX6_sinksLow_80 ?_
      obtain ⟨hi, h⟩ := h
      refine jw_iast C.1 rfl shM_1 hi dX6_sinksLow_81 ?_
      have h := h _ rfl
      refine jw_iinc (lw := [(5, .int _), (6, .int _), (0, .ref _), (3, .int _), (4, .int _)]) (q := 4) C.1 dX6_sinksLow_82 rfl (ai_1 _) hN_5 rfl ?_
      have h := h _ rfl
      refine jw_goto (tgt := 17) C.1 dX6_sinksLow_85 (by decide) ?_
      refine jw_sub [2, 3, 4, 0] rfl ?_
      exact ih _ _ _ _ h
set_option maxRecDepth 100000 in
set_option maxHeartbeats 4000000 in
theorem ctX6_sinksLow (l : Launch) (a1 : Int32) (a2 : Int32) (μ : Mem) (Q : Mem → Prop) (h : wpX6_sinksLow a1 a2 μ Q) : Con l yX6_sinksLow wsX6_sinksLow rmX6_sinksLow shM (fun ad => [.ref (ad 0), .int a1, .int a2]) μ (pV Q) := by
  refine Con.mk (cc := cX6_sinksLow) (maxL := 7) (ret := none) (own := RX6) (by decide) rfl rfl (fun _ => Nat.le_of_ble_eq_true rfl) (fun K ad hN C => ?_)
  show JW K (0, 0) shM ad μ 0 [(0, .ref (ad 0)), (1, .int a1), (2, .int a2)] []
  have hN_3 : 3 < kN K := by rw [hN]; decide
  have hN_4 : 4 < kN K := by rw [hN]; decide
  have hN_5 : 5 < kN K := by rw [hN]; decide
  have hN_6 : 6 < kN K := by rw [hN]; decide
  unfold wpX6_sinksLow at h
  refine jw_aload_n C.1 dX6_sinksLow_0 rfl 0 rfl ?_
  refine jw_iload_n C.1 dX6_sinksLow_1 rfl 1 rfl ?_
  refine jw_iload_n C.1 dX6_sinksLow_2 rfl 2 rfl ?_
  refine jw_cVI (rest := []) C.1 dX6_sinksLow_3 em_shM_id (ctX6_takes l _ _ _ _ h) miX6_takes shM_0 rfl gX6_sinksLow_X6_takes rfl (by decide) rfl rfl rfl (Nat.le_of_ble_eq_true rfl) ⟨Nat.zero_le _, Nat.zero_le _⟩ (fun r1 μ2 h => ?_)
  refine jw_istore_n (lw := [(3, .int _), (0, .ref _), (1, .int _), (2, .int _)]) C.1 dX6_sinksLow_6 rfl hN_3 rfl ?_
  refine jw_iload_n C.1 dX6_sinksLow_7 rfl 2 rfl ?_
  refine jw_iload_n C.1 dX6_sinksLow_8 rfl 3 rfl ?_
  refine jw_eSI (rest := []) C.1 dX6_sinksLow_9 (ctX6_childOf l _ _ _ h _) miX6_childOf gX6_sinksLow_X6_childOf (by decide) rfl rfl rfl (Nat.le_of_ble_eq_true rfl) ⟨Nat.zero_le _, Nat.zero_le _⟩ (fun r3 h => ?_)
  refine jw_istore (lw := [(4, .int _), (3, .int _), (0, .ref _), (1, .int _), (2, .int _)]) C.1 dX6_sinksLow_12 hN_4 rfl ?_
  refine jw_iconst C.1 dX6_sinksLow_14 ki_0 ?_
  refine jw_istore (lw := [(5, .int _), (4, .int _), (3, .int _), (0, .ref _), (1, .int _), (2, .int _)]) C.1 dX6_sinksLow_15 hN_5 rfl ?_
  obtain ⟨n, h⟩ := h
  refine jw_sub [3, 2, 1, 0] rfl ?_
  exact jbX6_sinksLow_17 hN C n _ _ _ _ h
set_option maxRecDepth 100000 in
set_option maxHeartbeats 4000000 in
theorem jbX6_comesLow_6 {K : KT} {l : Launch} {ad : Nat → Nat} {Q : Mem → Prop} (hN : kN K = 3) (C : CtxM K l cX6_comesLow RX6 wsX6_comesLow rmX6_comesLow shM ad none (pV Q)) : ∀ (n : Nat) (x1 : Int32) (μ : Mem), bkX6_comesLow_6 Q n x1 μ → JW K (0, 0) shM ad μ 6 [(0, .ref (ad 0)), (1, .int x1)] [] := by
  intro n
  induction n with
  | zero =>
    intro x1 μ h
    exact h.elim
  | succ n ih =>
    intro x1 μ h
    unfold bkX6_comesLow_6 at h
    refine jw_aload_n C.1 dX6_comesLow_6 rfl 0 rfl ?_
    refine jw_iload_n C.1 dX6_comesLow_7 rfl 1 rfl ?_
    refine jw_cVI (rest := []) C.1 dX6_comesLow_8 em_shM_id (ctX6_isTooFull l _ _ _ h) miX6_isTooFull shM_0 rfl gX6_comesLow_X6_isTooFull rfl (by decide) rfl rfl rfl (Nat.le_of_ble_eq_true rfl) ⟨Nat.zero_le _, Nat.zero_le _⟩ (fun r3 μ4 h => ?_)
    refine jw_if_eq C.1 27 dX6_comesLow_11 (by decide) (fun c => ?_) (fun c => ?_)
    · have h := h.1 c
      exact jw_vret C h dX6_comesLow_27
    · have h := h.2 c
      refine jw_aload_n C.1 dX6_comesLow_14 rfl 0 rfl ?_
      refine jw_iload_n C.1 dX6_comesLow_15 rfl 1 rfl ?_
      refine jw_aload_n C.1 dX6_comesLow_16 rfl 0 rfl ?_
      refine jw_iload_n C.1 dX6_comesLow_17 rfl 1 rfl ?_
      refine jw_cVI (rest := [.int _, .ref _]) C.1 dX6_comesLow_18 em_shM_id (ctX6_chosen l _ _ _ h) miX6_chosen shM_0 rfl gX6_comesLow_X6_chosen rfl (by decide) rfl rfl rfl (Nat.le_of_ble_eq_true rfl) ⟨Nat.zero_le _, Nat.zero_le _⟩ (fun r5 μ6 h => ?_)
      refine jw_cVV (rest := []) C.1 dX6_comesLow_21 em_shM_id (ctX6_sinksLow l _ _ _ _ h) miX6_sinksLow shM_0 rfl gX6_comesLow_X6_sinksLow rfl (by decide) rfl rfl rfl (Nat.le_of_ble_eq_true rfl) ⟨Nat.zero_le _, Nat.zero_le _⟩ (fun μ8 h => ?_)
      refine jw_goto (tgt := 6) C.1 dX6_comesLow_24 (by decide) ?_
      exact ih _ _ h
set_option maxRecDepth 100000 in
set_option maxHeartbeats 4000000 in
theorem ctX6_comesLow (l : Launch) (a1 : Int32) (a2 : Int32) (μ : Mem) (Q : Mem → Prop) (h : wpX6_comesLow a1 a2 μ Q) : Con l yX6_comesLow wsX6_comesLow rmX6_comesLow shM (fun ad => [.ref (ad 0), .int a1, .int a2]) μ (pV Q) := by
  refine Con.mk (cc := cX6_comesLow) (maxL := 3) (ret := none) (own := RX6) (by decide) rfl rfl (fun _ => Nat.le_of_ble_eq_true rfl) (fun K ad hN C => ?_)
  show JW K (0, 0) shM ad μ 0 [(0, .ref (ad 0)), (1, .int a1), (2, .int a2)] []
  unfold wpX6_comesLow at h
  refine jw_aload_n C.1 dX6_comesLow_0 rfl 0 rfl ?_
  refine jw_iload_n C.1 dX6_comesLow_1 rfl 1 rfl ?_
  refine jw_iload_n C.1 dX6_comesLow_2 rfl 2 rfl ?_
  refine jw_cVV (rest := []) C.1 dX6_comesLow_3 em_shM_id (ctX6_puts l _ _ _ _ h) miX6_puts shM_0 rfl gX6_comesLow_X6_puts rfl (by decide) rfl rfl rfl (Nat.le_of_ble_eq_true rfl) ⟨Nat.zero_le _, Nat.zero_le _⟩ (fun μ2 h => ?_)
  obtain ⟨n, h⟩ := h
  refine jw_sub [0, 1] rfl ?_
  exact jbX6_comesLow_6 hN C n _ _ h
set_option maxRecDepth 100000 in
set_option maxHeartbeats 4000000 in
theorem jbX6_sinksMiddle_10 {K : KT} {l : Launch} {ad : Nat → Nat} {Q : Mem → Prop} (hN : kN K = 5) (C : CtxM K l cX6_sinksMiddle RX6 wsX6_sinksMiddle rmX6_sinksMiddle shM ad none (pV Q)) : ∀ (n : Nat) (x1 : Int32) (x2 : Int32) (x3 : Int32) (x4 : Int32) (μ : Mem), bkX6_sinksMiddle_10 Q n x1 x2 x3 x4 μ → JW K (0, 0) shM ad μ 10 [(0, .ref (ad 0)), (1, .int x1), (2, .int x2), (3, .int x3), (4, .int x4)] [] := by
  have hN_3 : 3 < kN K := by rw [hN]; decide
  have hN_4 : 4 < kN K := by rw [hN]; decide
  intro n
  induction n with
  | zero =>
    intro x1 x2 x3 x4 μ h
    exact h.elim
  | succ n ih =>
    intro x1 x2 x3 x4 μ h
    unfold bkX6_sinksMiddle_10 at h
    refine jw_iload C.1 dX6_sinksMiddle_10 4 rfl ?_
    refine jw_iload_n C.1 dX6_sinksMiddle_12 rfl 3 rfl ?_
    refine jw_icmp_ge C.1 38 dX6_sinksMiddle_13 (by decide) (fun c => ?_) (fun c => ?_)
    · have h := h.1 c
      exact jw_vret C h dX6_sinksMiddle_38
    · have h := h.2 c
      refine jw_aload_n C.1 dX6_sinksMiddle_16 rfl 0 rfl ?_
      refine jw_iload_n C.1 dX6_sinksMiddle_17 rfl 1 rfl ?_
      refine jw_iload_n C.1 dX6_sinksMiddle_18 rfl 2 rfl ?_
      refine jw_eSI (rest := [.ref _]) C.1 dX6_sinksMiddle_19 (ctX6_childOf l _ _ _ h _) miX6_childOf gX6_sinksMiddle_X6_childOf (by decide) rfl rfl rfl (Nat.le_of_ble_eq_true rfl) ⟨Nat.zero_le _, Nat.zero_le _⟩ (fun r3 h => ?_)
      refine jw_bipush C.1 dX6_sinksMiddle_22 kb_96 ?_
      refine jw_iconst C.1 dX6_sinksMiddle_24 ki_4 ?_
      refine jw_iload C.1 dX6_sinksMiddle_25 4 rfl ?_
      refine jw_imul C.1 dX6_sinksMiddle_27 ?_
      refine jw_iadd C.1 dX6_sinksMiddle_28 ?_
      refine jw_cVV (rest := []) C.1 dX6_sinksMiddle_29 em_shM_id (ctX6_comesLow l _ _ _ _ h) miX6_comesLow shM_0 rfl gX6_sinksMiddle_X6_comesLow rfl (by decide) rfl rfl rfl (Nat.le_of_ble_eq_true rfl) ⟨Nat.zero_le _, Nat.zero_le _⟩ (fun μ5 h => ?_)
      refine jw_iinc (lw := [(4, .int _), (0, .ref _), (1, .int _), (2, .int _), (3, .int _)]) (q := 4) C.1 dX6_sinksMiddle_32 rfl (ai_1 _) hN_4 rfl ?_
      have h := h _ rfl
      refine jw_goto (tgt := 10) C.1 dX6_sinksMiddle_35 (by decide) ?_
      refine jw_sub [1, 2, 3, 4, 0] rfl ?_
      exact ih _ _ _ _ _ h
set_option maxRecDepth 100000 in
set_option maxHeartbeats 4000000 in
theorem ctX6_sinksMiddle (l : Launch) (a1 : Int32) (a2 : Int32) (μ : Mem) (Q : Mem → Prop) (h : wpX6_sinksMiddle a1 a2 μ Q) : Con l yX6_sinksMiddle wsX6_sinksMiddle rmX6_sinksMiddle shM (fun ad => [.ref (ad 0), .int a1, .int a2]) μ (pV Q) := by
  refine Con.mk (cc := cX6_sinksMiddle) (maxL := 5) (ret := none) (own := RX6) (by decide) rfl rfl (fun _ => Nat.le_of_ble_eq_true rfl) (fun K ad hN C => ?_)
  show JW K (0, 0) shM ad μ 0 [(0, .ref (ad 0)), (1, .int a1), (2, .int a2)] []
  have hN_3 : 3 < kN K := by rw [hN]; decide
  have hN_4 : 4 < kN K := by rw [hN]; decide
  unfold wpX6_sinksMiddle at h
  refine jw_aload_n C.1 dX6_sinksMiddle_0 rfl 0 rfl ?_
  refine jw_iload_n C.1 dX6_sinksMiddle_1 rfl 1 rfl ?_
  refine jw_iload_n C.1 dX6_sinksMiddle_2 rfl 2 rfl ?_
  refine jw_cVI (rest := []) C.1 dX6_sinksMiddle_3 em_shM_id (ctX6_takes l _ _ _ _ h) miX6_takes shM_0 rfl gX6_sinksMiddle_X6_takes rfl (by decide) rfl rfl rfl (Nat.le_of_ble_eq_true rfl) ⟨Nat.zero_le _, Nat.zero_le _⟩ (fun r1 μ2 h => ?_)
  refine jw_istore_n (lw := [(3, .int _), (0, .ref _), (1, .int _), (2, .int _)]) C.1 dX6_sinksMiddle_6 rfl hN_3 rfl ?_
  refine jw_iconst C.1 dX6_sinksMiddle_7 ki_0 ?_
  refine jw_istore (lw := [(4, .int _), (3, .int _), (0, .ref _), (1, .int _), (2, .int _)]) C.1 dX6_sinksMiddle_8 hN_4 rfl ?_
  obtain ⟨n, h⟩ := h
  refine jw_sub [2, 3, 4, 1, 0] rfl ?_
  exact jbX6_sinksMiddle_10 hN C n _ _ _ _ _ h
set_option maxRecDepth 100000 in
set_option maxHeartbeats 4000000 in
theorem jbX6_comesMiddle_6 {K : KT} {l : Launch} {ad : Nat → Nat} {Q : Mem → Prop} (hN : kN K = 3) (C : CtxM K l cX6_comesMiddle RX6 wsX6_comesMiddle rmX6_comesMiddle shM ad none (pV Q)) : ∀ (n : Nat) (x1 : Int32) (μ : Mem), bkX6_comesMiddle_6 Q n x1 μ → JW K (0, 0) shM ad μ 6 [(0, .ref (ad 0)), (1, .int x1)] [] := by
  intro n
  induction n with
  | zero =>
    intro x1 μ h
    exact h.elim
  | succ n ih =>
    intro x1 μ h
    unfold bkX6_comesMiddle_6 at h
    refine jw_aload_n C.1 dX6_comesMiddle_6 rfl 0 rfl ?_
    refine jw_iload_n C.1 dX6_comesMiddle_7 rfl 1 rfl ?_
    refine jw_cVI (rest := []) C.1 dX6_comesMiddle_8 em_shM_id (ctX6_isTooFull l _ _ _ h) miX6_isTooFull shM_0 rfl gX6_comesMiddle_X6_isTooFull rfl (by decide) rfl rfl rfl (Nat.le_of_ble_eq_true rfl) ⟨Nat.zero_le _, Nat.zero_le _⟩ (fun r3 μ4 h => ?_)
    refine jw_if_eq C.1 27 dX6_comesMiddle_11 (by decide) (fun c => ?_) (fun c => ?_)
    · have h := h.1 c
      exact jw_vret C h dX6_comesMiddle_27
    · have h := h.2 c
      refine jw_aload_n C.1 dX6_comesMiddle_14 rfl 0 rfl ?_
      refine jw_iload_n C.1 dX6_comesMiddle_15 rfl 1 rfl ?_
      refine jw_aload_n C.1 dX6_comesMiddle_16 rfl 0 rfl ?_
      refine jw_iload_n C.1 dX6_comesMiddle_17 rfl 1 rfl ?_
      refine jw_cVI (rest := [.int _, .ref _]) C.1 dX6_comesMiddle_18 em_shM_id (ctX6_chosen l _ _ _ h) miX6_chosen shM_0 rfl gX6_comesMiddle_X6_chosen rfl (by decide) rfl rfl rfl (Nat.le_of_ble_eq_true rfl) ⟨Nat.zero_le _, Nat.zero_le _⟩ (fun r5 μ6 h => ?_)
      refine jw_cVV (rest := []) C.1 dX6_comesMiddle_21 em_shM_id (ctX6_sinksMiddle l _ _ _ _ h) miX6_sinksMiddle shM_0 rfl gX6_comesMiddle_X6_sinksMiddle rfl (by decide) rfl rfl rfl (Nat.le_of_ble_eq_true rfl) ⟨Nat.zero_le _, Nat.zero_le _⟩ (fun μ8 h => ?_)
      refine jw_goto (tgt := 6) C.1 dX6_comesMiddle_24 (by decide) ?_
      exact ih _ _ h
set_option maxRecDepth 100000 in
set_option maxHeartbeats 4000000 in
theorem ctX6_comesMiddle (l : Launch) (a1 : Int32) (a2 : Int32) (μ : Mem) (Q : Mem → Prop) (h : wpX6_comesMiddle a1 a2 μ Q) : Con l yX6_comesMiddle wsX6_comesMiddle rmX6_comesMiddle shM (fun ad => [.ref (ad 0), .int a1, .int a2]) μ (pV Q) := by
  refine Con.mk (cc := cX6_comesMiddle) (maxL := 3) (ret := none) (own := RX6) (by decide) rfl rfl (fun _ => Nat.le_of_ble_eq_true rfl) (fun K ad hN C => ?_)
  show JW K (0, 0) shM ad μ 0 [(0, .ref (ad 0)), (1, .int a1), (2, .int a2)] []
  unfold wpX6_comesMiddle at h
  refine jw_aload_n C.1 dX6_comesMiddle_0 rfl 0 rfl ?_
  refine jw_iload_n C.1 dX6_comesMiddle_1 rfl 1 rfl ?_
  refine jw_iload_n C.1 dX6_comesMiddle_2 rfl 2 rfl ?_
  refine jw_cVV (rest := []) C.1 dX6_comesMiddle_3 em_shM_id (ctX6_puts l _ _ _ _ h) miX6_puts shM_0 rfl gX6_comesMiddle_X6_puts rfl (by decide) rfl rfl rfl (Nat.le_of_ble_eq_true rfl) ⟨Nat.zero_le _, Nat.zero_le _⟩ (fun μ2 h => ?_)
  obtain ⟨n, h⟩ := h
  refine jw_sub [0, 1] rfl ?_
  exact jbX6_comesMiddle_6 hN C n _ _ h
set_option maxRecDepth 100000 in
set_option maxHeartbeats 4000000 in
theorem jbX6_sinksRoot_9 {K : KT} {l : Launch} {ad : Nat → Nat} {Q : Mem → Prop} (hN : kN K = 4) (C : CtxM K l cX6_sinksRoot RX6 wsX6_sinksRoot rmX6_sinksRoot shM ad none (pV Q)) : ∀ (n : Nat) (x1 : Int32) (x2 : Int32) (x3 : Int32) (μ : Mem), bkX6_sinksRoot_9 Q n x1 x2 x3 μ → JW K (0, 0) shM ad μ 9 [(0, .ref (ad 0)), (1, .int x1), (2, .int x2), (3, .int x3)] [] := by
  have hN_2 : 2 < kN K := by rw [hN]; decide
  have hN_3 : 3 < kN K := by rw [hN]; decide
  intro n
  induction n with
  | zero =>
    intro x1 x2 x3 μ h
    exact h.elim
  | succ n ih =>
    intro x1 x2 x3 μ h
    unfold bkX6_sinksRoot_9 at h
    refine jw_iload_n C.1 dX6_sinksRoot_9 rfl 3 rfl ?_
    refine jw_iload_n C.1 dX6_sinksRoot_10 rfl 2 rfl ?_
    refine jw_icmp_ge C.1 32 dX6_sinksRoot_11 (by decide) (fun c => ?_) (fun c => ?_)
    · have h := h.1 c
      exact jw_vret C h dX6_sinksRoot_32
    · have h := h.2 c
      refine jw_aload_n C.1 dX6_sinksRoot_14 rfl 0 rfl ?_
      refine jw_iconst C.1 dX6_sinksRoot_15 ki_0 ?_
      refine jw_iload_n C.1 dX6_sinksRoot_16 rfl 1 rfl ?_
      refine jw_eSI (rest := [.ref _]) C.1 dX6_sinksRoot_17 (ctX6_childOf l _ _ _ h _) miX6_childOf gX6_sinksRoot_X6_childOf (by decide) rfl rfl rfl (Nat.le_of_ble_eq_true rfl) ⟨Nat.zero_le _, Nat.zero_le _⟩ (fun r3 h => ?_)
      refine jw_iconst C.1 dX6_sinksRoot_20 ki_4 ?_
      refine jw_iload_n C.1 dX6_sinksRoot_21 rfl 3 rfl ?_
      refine jw_imul C.1 dX6_sinksRoot_22 ?_
      refine jw_cVV (rest := []) C.1 dX6_sinksRoot_23 em_shM_id (ctX6_comesMiddle l _ _ _ _ h) miX6_comesMiddle shM_0 rfl gX6_sinksRoot_X6_comesMiddle rfl (by decide) rfl rfl rfl (Nat.le_of_ble_eq_true rfl) ⟨Nat.zero_le _, Nat.zero_le _⟩ (fun μ5 h => ?_)
      refine jw_iinc (lw := [(3, .int _), (0, .ref _), (1, .int _), (2, .int _)]) (q := 3) C.1 dX6_sinksRoot_26 rfl (ai_1 _) hN_3 rfl ?_
      have h := h _ rfl
      refine jw_goto (tgt := 9) C.1 dX6_sinksRoot_29 (by decide) ?_
      refine jw_sub [1, 2, 3, 0] rfl ?_
      exact ih _ _ _ _ h
set_option maxRecDepth 100000 in
set_option maxHeartbeats 4000000 in
theorem ctX6_sinksRoot (l : Launch) (a1 : Int32) (μ : Mem) (Q : Mem → Prop) (h : wpX6_sinksRoot a1 μ Q) : Con l yX6_sinksRoot wsX6_sinksRoot rmX6_sinksRoot shM (fun ad => [.ref (ad 0), .int a1]) μ (pV Q) := by
  refine Con.mk (cc := cX6_sinksRoot) (maxL := 4) (ret := none) (own := RX6) (by decide) rfl rfl (fun _ => Nat.le_of_ble_eq_true rfl) (fun K ad hN C => ?_)
  show JW K (0, 0) shM ad μ 0 [(0, .ref (ad 0)), (1, .int a1)] []
  have hN_2 : 2 < kN K := by rw [hN]; decide
  have hN_3 : 3 < kN K := by rw [hN]; decide
  unfold wpX6_sinksRoot at h
  refine jw_aload_n C.1 dX6_sinksRoot_0 rfl 0 rfl ?_
  refine jw_iconst C.1 dX6_sinksRoot_1 ki_0 ?_
  refine jw_iload_n C.1 dX6_sinksRoot_2 rfl 1 rfl ?_
  refine jw_cVI (rest := []) C.1 dX6_sinksRoot_3 em_shM_id (ctX6_takes l _ _ _ _ h) miX6_takes shM_0 rfl gX6_sinksRoot_X6_takes rfl (by decide) rfl rfl rfl (Nat.le_of_ble_eq_true rfl) ⟨Nat.zero_le _, Nat.zero_le _⟩ (fun r1 μ2 h => ?_)
  refine jw_istore_n (lw := [(2, .int _), (0, .ref _), (1, .int _)]) C.1 dX6_sinksRoot_6 rfl hN_2 rfl ?_
  refine jw_iconst C.1 dX6_sinksRoot_7 ki_0 ?_
  refine jw_istore_n (lw := [(3, .int _), (2, .int _), (0, .ref _), (1, .int _)]) C.1 dX6_sinksRoot_8 rfl hN_3 rfl ?_
  obtain ⟨n, h⟩ := h
  refine jw_sub [2, 3, 1, 0] rfl ?_
  exact jbX6_sinksRoot_9 hN C n _ _ _ _ h
set_option maxRecDepth 100000 in
set_option maxHeartbeats 4000000 in
theorem jbX6_comesRoot_55 {K : KT} {l : Launch} {ad : Nat → Nat} {Q : Mem → Prop} (hN : kN K = 5) (C : CtxM K l cX6_comesRoot RX6 wsX6_comesRoot rmX6_comesRoot shM ad none (pV Q)) : ∀ (n : Nat) (μ : Mem), bkX6_comesRoot_55 Q n μ → JW K (0, 0) shM ad μ 55 [(0, .ref (ad 0))] [] := by
  intro n
  induction n with
  | zero =>
    intro μ h
    exact h.elim
  | succ n ih =>
    intro μ h
    unfold bkX6_comesRoot_55 at h
    refine jw_aload_n C.1 dX6_comesRoot_55 rfl 0 rfl ?_
    refine jw_iconst C.1 dX6_comesRoot_56 ki_0 ?_
    refine jw_cVI (rest := []) C.1 dX6_comesRoot_57 em_shM_id (ctX6_isTooFull l _ _ _ h) miX6_isTooFull shM_0 rfl gX6_comesRoot_X6_isTooFull rfl (by decide) rfl rfl rfl (Nat.le_of_ble_eq_true rfl) ⟨Nat.zero_le _, Nat.zero_le _⟩ (fun r8 μ9 h => ?_)
    refine jw_if_eq C.1 75 dX6_comesRoot_60 (by decide) (fun c => ?_) (fun c => ?_)
    · have h := h.1 c
      exact jw_vret C h dX6_comesRoot_75
    · have h := h.2 c
      refine jw_aload_n C.1 dX6_comesRoot_63 rfl 0 rfl ?_
      refine jw_aload_n C.1 dX6_comesRoot_64 rfl 0 rfl ?_
      refine jw_iconst C.1 dX6_comesRoot_65 ki_0 ?_
      refine jw_cVI (rest := [.ref _]) C.1 dX6_comesRoot_66 em_shM_id (ctX6_chosen l _ _ _ h) miX6_chosen shM_0 rfl gX6_comesRoot_X6_chosen rfl (by decide) rfl rfl rfl (Nat.le_of_ble_eq_true rfl) ⟨Nat.zero_le _, Nat.zero_le _⟩ (fun r10 μ11 h => ?_)
      refine jw_cVV (rest := []) C.1 dX6_comesRoot_69 em_shM_id (ctX6_sinksRoot l _ _ _ h) miX6_sinksRoot shM_0 rfl gX6_comesRoot_X6_sinksRoot rfl (by decide) rfl rfl rfl (Nat.le_of_ble_eq_true rfl) ⟨Nat.zero_le _, Nat.zero_le _⟩ (fun μ13 h => ?_)
      refine jw_goto (tgt := 55) C.1 dX6_comesRoot_72 (by decide) ?_
      exact ih _ h
set_option maxRecDepth 100000 in
set_option maxHeartbeats 4000000 in
theorem ctX6_comesRoot (l : Launch) (a1 : Int32) (a2 : Int32) (a3 : Int32) (a4 : Int32) (μ : Mem) (Q : Mem → Prop) (h : wpX6_comesRoot a1 a2 a3 a4 μ Q) : Con l yX6_comesRoot wsX6_comesRoot rmX6_comesRoot shM (fun ad => [.ref (ad 0), .int a1, .int a2, .int a3, .int a4]) μ (pV Q) := by
  refine Con.mk (cc := cX6_comesRoot) (maxL := 5) (ret := none) (own := RX6) (by decide) rfl rfl (fun _ => Nat.le_of_ble_eq_true rfl) (fun K ad hN C => ?_)
  show JW K (0, 0) shM ad μ 0 [(0, .ref (ad 0)), (1, .int a1), (2, .int a2), (3, .int a3), (4, .int a4)] []
  unfold wpX6_comesRoot at h
  refine jw_aload_n C.1 dX6_comesRoot_0 rfl 0 rfl ?_
  refine jw_getR C.1 iwX6_comesRoot_X6 rfl shM_0 rfl 6 (by decide) rfl (List.mem_of_getElem? (i := 1) rfl) dX6_comesRoot_1 ?_
  refine jw_sipush C.1 dX6_comesRoot_4 ks_288 ?_
  refine jw_iload_n C.1 dX6_comesRoot_7 rfl 1 rfl ?_
  obtain ⟨hi, h⟩ := h
  refine jw_iast C.1 rfl shM_6 hi dX6_comesRoot_8 ?_
  have h := h _ rfl
  refine jw_aload_n C.1 dX6_comesRoot_9 rfl 0 rfl ?_
  refine jw_getR C.1 iwX6_comesRoot_X6 rfl shM_0 rfl 6 (by decide) rfl (List.mem_of_getElem? (i := 1) rfl) dX6_comesRoot_10 ?_
  refine jw_sipush C.1 dX6_comesRoot_13 ks_289 ?_
  refine jw_iload_n C.1 dX6_comesRoot_16 rfl 2 rfl ?_
  obtain ⟨hi, h⟩ := h
  refine jw_iast C.1 rfl shM_6 hi dX6_comesRoot_17 ?_
  have h := h _ rfl
  refine jw_aload_n C.1 dX6_comesRoot_18 rfl 0 rfl ?_
  refine jw_getR C.1 iwX6_comesRoot_X6 rfl shM_0 rfl 6 (by decide) rfl (List.mem_of_getElem? (i := 1) rfl) dX6_comesRoot_19 ?_
  refine jw_sipush C.1 dX6_comesRoot_22 ks_290 ?_
  refine jw_iload_n C.1 dX6_comesRoot_25 rfl 3 rfl ?_
  obtain ⟨hi, h⟩ := h
  refine jw_iast C.1 rfl shM_6 hi dX6_comesRoot_26 ?_
  have h := h _ rfl
  refine jw_aload_n C.1 dX6_comesRoot_27 rfl 0 rfl ?_
  refine jw_getR C.1 iwX6_comesRoot_X6 rfl shM_0 rfl 6 (by decide) rfl (List.mem_of_getElem? (i := 1) rfl) dX6_comesRoot_28 ?_
  refine jw_sipush C.1 dX6_comesRoot_31 ks_291 ?_
  refine jw_iload C.1 dX6_comesRoot_34 4 rfl ?_
  obtain ⟨hi, h⟩ := h
  refine jw_iast C.1 rfl shM_6 hi dX6_comesRoot_36 ?_
  have h := h _ rfl
  refine jw_aload_n C.1 dX6_comesRoot_37 rfl 0 rfl ?_
  refine jw_getR C.1 iwX6_comesRoot_X6 rfl shM_0 rfl 0 (by decide) rfl (List.mem_of_getElem? (i := 2) rfl) dX6_comesRoot_38 ?_
  refine jw_iconst C.1 dX6_comesRoot_41 ki_2 ?_
  refine jw_dup2 C.1 dX6_comesRoot_42 rfl rfl ?_
  obtain ⟨hi, h⟩ := h
  refine jw_iald C.1 rfl shM_1 hi dX6_comesRoot_43 ?_
  refine jw_iconst C.1 dX6_comesRoot_44 ki_1 ?_
  refine jw_iadd C.1 dX6_comesRoot_45 ?_
  obtain ⟨hi, h⟩ := h
  refine jw_iast C.1 rfl shM_1 hi dX6_comesRoot_46 ?_
  have h := h _ rfl
  refine jw_aload_n C.1 dX6_comesRoot_47 rfl 0 rfl ?_
  refine jw_iconst C.1 dX6_comesRoot_48 ki_0 ?_
  refine jw_sipush C.1 dX6_comesRoot_49 ks_288 ?_
  refine jw_cVV (rest := []) C.1 dX6_comesRoot_52 em_shM_id (ctX6_puts l _ _ _ _ h) miX6_puts shM_0 rfl gX6_comesRoot_X6_puts rfl (by decide) rfl rfl rfl (Nat.le_of_ble_eq_true rfl) ⟨Nat.zero_le _, Nat.zero_le _⟩ (fun μ7 h => ?_)
  obtain ⟨n, h⟩ := h
  refine jw_sub [0] rfl ?_
  exact jbX6_comesRoot_55 hN C n _ h
set_option maxRecDepth 100000 in
set_option maxHeartbeats 4000000 in
theorem ctX6_lay (l : Launch) (a1 : Int32) (a2 : Int32) (a3 : Int32) (a4 : Int32) (μ : Mem) (Q : Mem → Prop) (h : wpX6_lay a1 a2 a3 a4 μ Q) : Con l yX6_lay wsX6_lay rmX6_lay shM (fun ad => [.ref (ad 0), .int a1, .int a2, .int a3, .int a4]) μ (pV Q) := by
  refine Con.mk (cc := cX6_lay) (maxL := 5) (ret := none) (own := RX6) (by decide) rfl rfl (fun _ => Nat.le_of_ble_eq_true rfl) (fun K ad hN C => ?_)
  show JW K (0, 0) shM ad μ 0 [(0, .ref (ad 0)), (1, .int a1), (2, .int a2), (3, .int a3), (4, .int a4)] []
  unfold wpX6_lay at h
  refine jw_aload_n C.1 dX6_lay_0 rfl 0 rfl ?_
  refine jw_getR C.1 iwX6_lay_X6 rfl shM_0 rfl 11 (by decide) rfl (List.mem_of_getElem? (i := 1) rfl) dX6_lay_1 ?_
  refine jw_iconst C.1 dX6_lay_4 ki_4 ?_
  refine jw_aload_n C.1 dX6_lay_5 rfl 0 rfl ?_
  refine jw_getI C.1 iwX6_lay_X6 rfl shM_0 rfl 12 (by decide) rfl (List.mem_of_getElem? (i := 2) rfl) dX6_lay_6 ?_
  refine jw_imul C.1 dX6_lay_9 ?_
  refine jw_iload_n C.1 dX6_lay_10 rfl 1 rfl ?_
  obtain ⟨hi, h⟩ := h
  refine jw_iast C.1 rfl shM_9 hi dX6_lay_11 ?_
  have h := h _ rfl
  refine jw_aload_n C.1 dX6_lay_12 rfl 0 rfl ?_
  refine jw_getR C.1 iwX6_lay_X6 rfl shM_0 rfl 11 (by decide) rfl (List.mem_of_getElem? (i := 1) rfl) dX6_lay_13 ?_
  refine jw_iconst C.1 dX6_lay_16 ki_4 ?_
  refine jw_aload_n C.1 dX6_lay_17 rfl 0 rfl ?_
  refine jw_getI C.1 iwX6_lay_X6 rfl shM_0 rfl 12 (by decide) rfl (List.mem_of_getElem? (i := 2) rfl) dX6_lay_18 ?_
  refine jw_imul C.1 dX6_lay_21 ?_
  refine jw_iconst C.1 dX6_lay_22 ki_1 ?_
  refine jw_iadd C.1 dX6_lay_23 ?_
  refine jw_iload_n C.1 dX6_lay_24 rfl 2 rfl ?_
  obtain ⟨hi, h⟩ := h
  refine jw_iast C.1 rfl shM_9 hi dX6_lay_25 ?_
  have h := h _ rfl
  refine jw_aload_n C.1 dX6_lay_26 rfl 0 rfl ?_
  refine jw_getR C.1 iwX6_lay_X6 rfl shM_0 rfl 11 (by decide) rfl (List.mem_of_getElem? (i := 1) rfl) dX6_lay_27 ?_
  refine jw_iconst C.1 dX6_lay_30 ki_4 ?_
  refine jw_aload_n C.1 dX6_lay_31 rfl 0 rfl ?_
  refine jw_getI C.1 iwX6_lay_X6 rfl shM_0 rfl 12 (by decide) rfl (List.mem_of_getElem? (i := 2) rfl) dX6_lay_32 ?_
  refine jw_imul C.1 dX6_lay_35 ?_
  refine jw_iconst C.1 dX6_lay_36 ki_2 ?_
  refine jw_iadd C.1 dX6_lay_37 ?_
  refine jw_iload_n C.1 dX6_lay_38 rfl 3 rfl ?_
  obtain ⟨hi, h⟩ := h
  refine jw_iast C.1 rfl shM_9 hi dX6_lay_39 ?_
  have h := h _ rfl
  refine jw_aload_n C.1 dX6_lay_40 rfl 0 rfl ?_
  refine jw_getR C.1 iwX6_lay_X6 rfl shM_0 rfl 11 (by decide) rfl (List.mem_of_getElem? (i := 1) rfl) dX6_lay_41 ?_
  refine jw_iconst C.1 dX6_lay_44 ki_4 ?_
  refine jw_aload_n C.1 dX6_lay_45 rfl 0 rfl ?_
  refine jw_getI C.1 iwX6_lay_X6 rfl shM_0 rfl 12 (by decide) rfl (List.mem_of_getElem? (i := 2) rfl) dX6_lay_46 ?_
  refine jw_imul C.1 dX6_lay_49 ?_
  refine jw_iconst C.1 dX6_lay_50 ki_3 ?_
  refine jw_iadd C.1 dX6_lay_51 ?_
  refine jw_iload C.1 dX6_lay_52 4 rfl ?_
  obtain ⟨hi, h⟩ := h
  refine jw_iast C.1 rfl shM_9 hi dX6_lay_54 ?_
  have h := h _ rfl
  refine jw_aload_n C.1 dX6_lay_55 rfl 0 rfl ?_
  refine jw_dup C.1 dX6_lay_56 rfl ?_
  refine jw_getI C.1 iwX6_lay_X6 rfl shM_0 rfl 12 (by decide) rfl (List.mem_of_getElem? (i := 2) rfl) dX6_lay_57 ?_
  refine jw_iconst C.1 dX6_lay_60 ki_1 ?_
  refine jw_iadd C.1 dX6_lay_61 ?_
  refine jw_putI C.1 iwX6_lay_X6 rfl shM_0 rfl 12 (by decide) tyX6 tyX6_ok nmX6 (j := 3) rfl fuX6_12 (List.mem_of_getElem? (i := 2) rfl) rfl (ty := .int) (by decide +kernel) rfl rfl dX6_lay_62 ?_
  have h := h _ rfl
  exact jw_vret C h dX6_lay_65
set_option maxRecDepth 100000 in
set_option maxHeartbeats 4000000 in
theorem ctX6_in (l : Launch) (a1 : Int32) (a2 : Int32) (a3 : Int32) (Q : Int32 → Prop) (h : wpX6_in a1 a2 a3 Q) (μ : Mem) : Con l yX6_in wsX6_in rmX6_in [] (fun _ => [.int a1, .int a2, .int a3]) μ (pI (fun r _ => Q r)) := by
  refine Con.mk (cc := cX6_in) (maxL := 3) (ret := (some .boolean)) (own := RX6) (by decide) rfl rfl (fun _ => Nat.le_of_ble_eq_true rfl) (fun K ad hN C => ?_)
  show JW K (0, 0) [] ad μ 0 [(0, .int a1), (1, .int a2), (2, .int a3)] []
  unfold wpX6_in at h
  refine jw_iload_n C.1 dX6_in_0 rfl 0 rfl ?_
  refine jw_iload_n C.1 dX6_in_1 rfl 1 rfl ?_
  refine jw_icmp_lt C.1 14 dX6_in_2 (by decide) (fun c => ?_) (fun c => ?_)
  · have h := h.1 c
    refine jw_iconst C.1 dX6_in_14 ki_0 ?_
    exact jw_zret (Q := fun r _ => Q r) C rfl h dX6_in_15
  · have h := h.2 c
    refine jw_iload_n C.1 dX6_in_5 rfl 0 rfl ?_
    refine jw_iload_n C.1 dX6_in_6 rfl 2 rfl ?_
    refine jw_icmp_gt C.1 14 dX6_in_7 (by decide) (fun c => ?_) (fun c => ?_)
    · have h := h.1 c
      refine jw_iconst C.1 dX6_in_14 ki_0 ?_
      exact jw_zret (Q := fun r _ => Q r) C rfl h dX6_in_15
    · have h := h.2 c
      refine jw_iconst C.1 dX6_in_10 ki_1 ?_
      refine jw_goto (tgt := 15) C.1 dX6_in_11 (by decide) ?_
      exact jw_zret (Q := fun r _ => Q r) C rfl h dX6_in_15
set_option maxRecDepth 100000 in
set_option maxHeartbeats 4000000 in
theorem jbX6_number_55 {K : KT} {l : Launch} {ad : Nat → Nat} {Q : Int32 → Mem → Prop} (hN : kN K = 3) (C : CtxM K l cX6_number RX6 wsX6_number rmX6_number shM ad (some .int) (pI Q)) : ∀ (n : Nat) (x1 : Int32) (x2 : Int32) (μ : Mem), bkX6_number_55 Q n x1 x2 μ → JW K (0, 0) shM ad μ 55 [(0, .ref (ad 0)), (1, .int x1), (2, .int x2)] [] := by
  have hN_2 : 2 < kN K := by rw [hN]; decide
  intro n
  induction n with
  | zero =>
    intro x1 x2 μ h
    exact h.elim
  | succ n ih =>
    intro x1 x2 μ h
    unfold bkX6_number_55 at h
    refine jw_aload_n C.1 dX6_number_55 rfl 0 rfl ?_
    refine jw_getI C.1 iwX6_number_X6 rfl shM_0 rfl 14 (by decide) rfl (List.mem_of_getElem? (i := 1) rfl) dX6_number_56 ?_
    refine jw_if_ne C.1 122 dX6_number_59 (by decide) (fun c => ?_) (fun c => ?_)
    · have h := h.1 c
      refine jw_iload_n C.1 dX6_number_122 rfl 2 rfl ?_
      exact jw_iret (Q := Q) C h dX6_number_123
    · have h := h.2 c
      refine jw_iload_n C.1 dX6_number_62 rfl 2 rfl ?_
      refine jw_if_le C.1 122 dX6_number_63 (by decide) (fun c => ?_) (fun c => ?_)
      · have h := h.1 c
        refine jw_iload_n C.1 dX6_number_122 rfl 2 rfl ?_
        exact jw_iret (Q := Q) C h dX6_number_123
      · have h := h.2 c
        refine jw_aload_n C.1 dX6_number_66 rfl 0 rfl ?_
        refine jw_cVI (rest := []) C.1 dX6_number_67 em_shM_id (ctX6_sign l _ _ h) miX6_sign shM_0 rfl gX6_number_X6_sign rfl (by decide) rfl rfl rfl (Nat.le_of_ble_eq_true rfl) ⟨Nat.zero_le _, Nat.zero_le _⟩ (fun r8 μ9 h => ?_)
        refine jw_bipush C.1 dX6_number_70 kb_48 ?_
        refine jw_bipush C.1 dX6_number_72 kb_57 ?_
        refine jw_eSI (rest := []) C.1 dX6_number_74 (ctX6_in l _ _ _ _ h _) miX6_in gX6_number_X6_in (by decide) rfl rfl rfl (Nat.le_of_ble_eq_true rfl) ⟨Nat.zero_le _, Nat.zero_le _⟩ (fun r10 h => ?_)
        refine jw_if_eq C.1 122 dX6_number_77 (by decide) (fun c => ?_) (fun c => ?_)
        · have h := h.1 c
          refine jw_iload_n C.1 dX6_number_122 rfl 2 rfl ?_
          exact jw_iret (Q := Q) C h dX6_number_123
        · have h := h.2 c
          refine jw_bipush C.1 dX6_number_80 kb_10 ?_
          refine jw_iload_n C.1 dX6_number_82 rfl 2 rfl ?_
          refine jw_imul C.1 dX6_number_83 ?_
          refine jw_aload_n C.1 dX6_number_84 rfl 0 rfl ?_
          refine jw_cVI (rest := [.int _]) C.1 dX6_number_85 em_shM_id (ctX6_sign l _ _ h) miX6_sign shM_0 rfl gX6_number_X6_sign rfl (by decide) rfl rfl rfl (Nat.le_of_ble_eq_true rfl) ⟨Nat.zero_le _, Nat.zero_le _⟩ (fun r11 μ12 h => ?_)
          refine jw_iadd C.1 dX6_number_88 ?_
          refine jw_bipush C.1 dX6_number_89 kb_48 ?_
          refine jw_isub C.1 dX6_number_91 ?_
          refine jw_iload_n C.1 dX6_number_92 rfl 1 rfl ?_
          refine jw_icmp_gt C.1 122 dX6_number_93 (by decide) (fun c => ?_) (fun c => ?_)
          · have h := h.1 c
            refine jw_iload_n C.1 dX6_number_122 rfl 2 rfl ?_
            exact jw_iret (Q := Q) C h dX6_number_123
          · have h := h.2 c
            refine jw_bipush C.1 dX6_number_96 kb_10 ?_
            refine jw_iload_n C.1 dX6_number_98 rfl 2 rfl ?_
            refine jw_imul C.1 dX6_number_99 ?_
            refine jw_aload_n C.1 dX6_number_100 rfl 0 rfl ?_
            refine jw_cVI (rest := [.int _]) C.1 dX6_number_101 em_shM_id (ctX6_sign l _ _ h) miX6_sign shM_0 rfl gX6_number_X6_sign rfl (by decide) rfl rfl rfl (Nat.le_of_ble_eq_true rfl) ⟨Nat.zero_le _, Nat.zero_le _⟩ (fun r13 μ14 h => ?_)
            refine jw_iadd C.1 dX6_number_104 ?_
            refine jw_bipush C.1 dX6_number_105 kb_48 ?_
            refine jw_isub C.1 dX6_number_107 ?_
            refine jw_istore_n (lw := [(2, .int _), (0, .ref _), (1, .int _)]) C.1 dX6_number_108 rfl hN_2 rfl ?_
            have h := h _ rfl
            refine jw_aload_n C.1 dX6_number_109 rfl 1 rfl ?_
            refine jw_dup C.1 dX6_number_110 rfl ?_
            refine jw_getI C.1 iwX6_number_X6 rfl shM_0 rfl 13 (by decide) rfl (List.mem_of_getElem? (i := 2) rfl) dX6_number_111 ?_
            refine jw_iconst C.1 dX6_number_114 ki_1 ?_
            refine jw_iadd C.1 dX6_number_115 ?_
            refine jw_putI C.1 iwX6_number_X6 rfl shM_0 rfl 13 (by decide) tyX6 tyX6_ok nmX6 (j := 4) rfl fuX6_13 (List.mem_of_getElem? (i := 2) rfl) rfl (ty := .int) (by decide +kernel) rfl rfl dX6_number_116 ?_
            have h := h _ rfl
            refine jw_goto (tgt := 55) C.1 dX6_number_119 (by decide) ?_
            refine jw_sub [1, 2, 0] rfl ?_
            exact ih _ _ _ h
set_option maxRecDepth 100000 in
set_option maxHeartbeats 4000000 in
theorem jbX6_number_31 {K : KT} {l : Launch} {ad : Nat → Nat} {Q : Int32 → Mem → Prop} (hN : kN K = 3) (C : CtxM K l cX6_number RX6 wsX6_number rmX6_number shM ad (some .int) (pI Q)) (x1 : Int32) (x2 : Int32) (s0 : Int32) (μ : Mem) (h : bkX6_number_31 Q x1 x2 s0 μ) : JW K (0, 0) shM ad μ 31 [(0, .ref (ad 0)), (1, .int x1), (2, .int x2)] [.int s0, .ref (ad 0)] := by
  have hN_2 : 2 < kN K := by rw [hN]; decide
  unfold bkX6_number_31 at h
  obtain ⟨hz, h⟩ := h
  refine jw_putI C.1 iwX6_number_X6 rfl shM_0 rfl 14 (by decide) tyX6 tyX6_ok nmX6 (j := 5) rfl fuX6_14 (List.mem_of_getElem? (i := 1) rfl) rfl (ty := .boolean) (by decide +kernel) (nar_z hz) (fit_z hz) dX6_number_31 ?_
  have h := h _ rfl
  refine jw_aload_n C.1 dX6_number_34 rfl 0 rfl ?_
  refine jw_dup C.1 dX6_number_35 rfl ?_
  refine jw_getI C.1 iwX6_number_X6 rfl shM_0 rfl 13 (by decide) rfl (List.mem_of_getElem? (i := 2) rfl) dX6_number_36 ?_
  refine jw_aload_n C.1 dX6_number_39 rfl 0 rfl ?_
  refine jw_getI C.1 iwX6_number_X6 rfl shM_0 rfl 14 (by decide) rfl (List.mem_of_getElem? (i := 1) rfl) dX6_number_40 ?_
  refine jw_if_eq C.1 50 dX6_number_43 (by decide) (fun c => ?_) (fun c => ?_)
  · have h := h.1 c
    refine jw_iconst C.1 dX6_number_50 ki_1 ?_
    refine jw_iadd C.1 dX6_number_51 ?_
    refine jw_putI C.1 iwX6_number_X6 rfl shM_0 rfl 13 (by decide) tyX6 tyX6_ok nmX6 (j := 4) rfl fuX6_13 (List.mem_of_getElem? (i := 2) rfl) rfl (ty := .int) (by decide +kernel) rfl rfl dX6_number_52 ?_
    have h := h _ rfl
    obtain ⟨n, h⟩ := h
    exact jbX6_number_55 hN C n _ _ _ h
  · have h := h.2 c
    refine jw_iconst C.1 dX6_number_46 ki_0 ?_
    refine jw_goto (tgt := 51) C.1 dX6_number_47 (by decide) ?_
    refine jw_iadd C.1 dX6_number_51 ?_
    refine jw_putI C.1 iwX6_number_X6 rfl shM_0 rfl 13 (by decide) tyX6 tyX6_ok nmX6 (j := 4) rfl fuX6_13 (List.mem_of_getElem? (i := 2) rfl) rfl (ty := .int) (by decide +kernel) rfl rfl dX6_number_52 ?_
    have h := h _ rfl
    obtain ⟨n, h⟩ := h
    exact jbX6_number_55 hN C n _ _ _ h
set_option maxRecDepth 100000 in
set_option maxHeartbeats 4000000 in
theorem jbX6_number_26 {K : KT} {l : Launch} {ad : Nat → Nat} {Q : Int32 → Mem → Prop} (hN : kN K = 3) (C : CtxM K l cX6_number RX6 wsX6_number rmX6_number shM ad (some .int) (pI Q)) (x1 : Int32) (x2 : Int32) (μ : Mem) (h : bkX6_number_26 Q x1 x2 μ) : JW K (0, 0) shM ad μ 26 [(0, .ref (ad 0)), (1, .int x1), (2, .int x2)] [.ref (ad 0)] := by
  have hN_2 : 2 < kN K := by rw [hN]; decide
  unfold bkX6_number_26 at h
  refine jw_iconst C.1 dX6_number_26 ki_1 ?_
  refine jw_goto (tgt := 31) C.1 dX6_number_27 (by decide) ?_
  exact jbX6_number_31 hN C _ _ _ _ h
set_option maxRecDepth 100000 in
set_option maxHeartbeats 4000000 in
theorem ctX6_number (l : Launch) (a1 : Int32) (μ : Mem) (Q : Int32 → Mem → Prop) (h : wpX6_number a1 μ Q) : Con l yX6_number wsX6_number rmX6_number shM (fun ad => [.ref (ad 0), .int a1]) μ (pI Q) := by
  refine Con.mk (cc := cX6_number) (maxL := 3) (ret := (some .int)) (own := RX6) (by decide) rfl rfl (fun _ => Nat.le_of_ble_eq_true rfl) (fun K ad hN C => ?_)
  show JW K (0, 0) shM ad μ 0 [(0, .ref (ad 0)), (1, .int a1)] []
  have hN_2 : 2 < kN K := by rw [hN]; decide
  unfold wpX6_number at h
  refine jw_aload_n C.1 dX6_number_0 rfl 0 rfl ?_
  refine jw_cVI (rest := []) C.1 dX6_number_1 em_shM_id (ctX6_sign l _ _ h) miX6_sign shM_0 rfl gX6_number_X6_sign rfl (by decide) rfl rfl rfl (Nat.le_of_ble_eq_true rfl) ⟨Nat.zero_le _, Nat.zero_le _⟩ (fun r1 μ2 h => ?_)
  refine jw_bipush C.1 dX6_number_4 kb_48 ?_
  refine jw_isub C.1 dX6_number_6 ?_
  refine jw_istore_n (lw := [(2, .int _), (0, .ref _), (1, .int _)]) C.1 dX6_number_7 rfl hN_2 rfl ?_
  have h := h _ rfl
  refine jw_aload_n C.1 dX6_number_8 rfl 1 rfl ?_
  refine jw_aload_n C.1 dX6_number_9 rfl 1 rfl ?_
  refine jw_getI C.1 iwX6_number_X6 rfl shM_0 rfl 14 (by decide) rfl (List.mem_of_getElem? (i := 1) rfl) dX6_number_10 ?_
  refine jw_if_ne C.1 26 dX6_number_13 (by decide) (fun c => ?_) (fun c => ?_)
  · have h := h.1 c
    refine jw_sub [1, 2, 0] rfl ?_
    exact jbX6_number_26 hN C _ _ _ h
  · have h := h.2 c
    refine jw_iload_n C.1 dX6_number_16 rfl 0 rfl ?_
    refine jw_iconst C.1 dX6_number_17 ki_0 ?_
    refine jw_bipush C.1 dX6_number_18 kb_9 ?_
    refine jw_eSI (rest := [.ref _]) C.1 dX6_number_20 (ctX6_in l _ _ _ _ h _) miX6_in gX6_number_X6_in (by decide) rfl rfl rfl (Nat.le_of_ble_eq_true rfl) ⟨Nat.zero_le _, Nat.zero_le _⟩ (fun r4 h => ?_)
    refine jw_if_ne C.1 30 dX6_number_23 (by decide) (fun c => ?_) (fun c => ?_)
    · have h := h.1 c
      refine jw_iconst C.1 dX6_number_30 ki_0 ?_
      refine jw_sub [1, 2, 0] rfl ?_
      exact jbX6_number_31 hN C _ _ _ _ h
    · have h := h.2 c
      refine jw_sub [1, 2, 0] rfl ?_
      exact jbX6_number_26 hN C _ _ _ h
set_option maxRecDepth 100000 in
set_option maxHeartbeats 4000000 in
theorem jbX6_readOne_146 {K : KT} {l : Launch} {ad : Nat → Nat} {Q : Mem → Prop} (hN : kN K = 5) (C : CtxM K l cX6_readOne RX6 wsX6_readOne rmX6_readOne shM ad none (pV Q)) (x1 : Int32) (x3 : Int32) (s0 : Int32) (μ : Mem) (h : bkX6_readOne_146 Q x1 x3 s0 μ) : JW K (0, 0) shM ad μ 146 [(0, .ref (ad 0)), (1, .int x1), (3, .int x3)] [.int s0] := by
  have hN_1 : 1 < kN K := by rw [hN]; decide
  have hN_2 : 2 < kN K := by rw [hN]; decide
  have hN_3 : 3 < kN K := by rw [hN]; decide
  have hN_4 : 4 < kN K := by rw [hN]; decide
  unfold bkX6_readOne_146 at h
  refine jw_istore (lw := [(4, .int _), (0, .ref _), (1, .int _), (3, .int _)]) C.1 dX6_readOne_146 hN_4 rfl ?_
  refine jw_aload_n C.1 dX6_readOne_148 rfl 1 rfl ?_
  refine jw_iconst C.1 dX6_readOne_149 ki_1 ?_
  refine jw_iload_n C.1 dX6_readOne_150 rfl 2 rfl ?_
  refine jw_iload_n C.1 dX6_readOne_151 rfl 3 rfl ?_
  refine jw_iload C.1 dX6_readOne_152 0 rfl ?_
  refine jw_cVV (rest := []) C.1 dX6_readOne_154 em_shM_id (ctX6_lay l _ _ _ _ _ _ h) miX6_lay shM_0 rfl gX6_readOne_X6_lay rfl (by decide) rfl rfl rfl (Nat.le_of_ble_eq_true rfl) ⟨Nat.zero_le _, Nat.zero_le _⟩ (fun μ22 h => ?_)
  exact jw_vret C h dX6_readOne_157
set_option maxRecDepth 100000 in
set_option maxHeartbeats 4000000 in
theorem jbX6_readOne_119 {K : KT} {l : Launch} {ad : Nat → Nat} {Q : Mem → Prop} (hN : kN K = 5) (C : CtxM K l cX6_readOne RX6 wsX6_readOne rmX6_readOne shM ad none (pV Q)) (x1 : Int32) (x3 : Int32) (s0 : Int32) (μ : Mem) (h : bkX6_readOne_119 Q x1 x3 s0 μ) : JW K (0, 0) shM ad μ 119 [(0, .ref (ad 0)), (1, .int x1), (3, .int x3)] [.int s0, .ref (ad 0)] := by
  have hN_1 : 1 < kN K := by rw [hN]; decide
  have hN_2 : 2 < kN K := by rw [hN]; decide
  have hN_3 : 3 < kN K := by rw [hN]; decide
  have hN_4 : 4 < kN K := by rw [hN]; decide
  unfold bkX6_readOne_119 at h
  obtain ⟨hz, h⟩ := h
  refine jw_putI C.1 iwX6_readOne_X6 rfl shM_0 rfl 14 (by decide) tyX6 tyX6_ok nmX6 (j := 5) rfl fuX6_14 (List.mem_of_getElem? (i := 1) rfl) rfl (ty := .boolean) (by decide +kernel) (nar_z hz) (fit_z hz) dX6_readOne_119 ?_
  have h := h _ rfl
  refine jw_aload_n C.1 dX6_readOne_122 rfl 0 rfl ?_
  refine jw_bipush C.1 dX6_readOne_123 kb_43 ?_
  refine jw_cVV (rest := []) C.1 dX6_readOne_125 em_shM_id (ctX6_between l _ _ _ h) miX6_between shM_0 rfl gX6_readOne_X6_between rfl (by decide) rfl rfl rfl (Nat.le_of_ble_eq_true rfl) ⟨Nat.zero_le _, Nat.zero_le _⟩ (fun μ18 h => ?_)
  refine jw_aload_n C.1 dX6_readOne_128 rfl 0 rfl ?_
  refine jw_getI C.1 iwX6_readOne_X6 rfl shM_0 rfl 14 (by decide) rfl (List.mem_of_getElem? (i := 1) rfl) dX6_readOne_129 ?_
  refine jw_if_eq C.1 139 dX6_readOne_132 (by decide) (fun c => ?_) (fun c => ?_)
  · have h := h.1 c
    refine jw_aload_n C.1 dX6_readOne_139 rfl 0 rfl ?_
    refine jw_sipush C.1 dX6_readOne_140 ks_999 ?_
    refine jw_cVI (rest := []) C.1 dX6_readOne_143 em_shM_id (ctX6_number l _ _ _ h) miX6_number shM_0 rfl gX6_readOne_X6_number rfl (by decide) rfl rfl rfl (Nat.le_of_ble_eq_true rfl) ⟨Nat.zero_le _, Nat.zero_le _⟩ (fun r19 μ20 h => ?_)
    exact jbX6_readOne_146 hN C _ _ _ _ h
  · have h := h.2 c
    refine jw_iconst C.1 dX6_readOne_135 ki_0 ?_
    refine jw_goto (tgt := 146) C.1 dX6_readOne_136 (by decide) ?_
    exact jbX6_readOne_146 hN C _ _ _ _ h
set_option maxRecDepth 100000 in
set_option maxHeartbeats 4000000 in
theorem jbX6_readOne_114 {K : KT} {l : Launch} {ad : Nat → Nat} {Q : Mem → Prop} (hN : kN K = 5) (C : CtxM K l cX6_readOne RX6 wsX6_readOne rmX6_readOne shM ad none (pV Q)) (x1 : Int32) (x3 : Int32) (μ : Mem) (h : bkX6_readOne_114 Q x1 x3 μ) : JW K (0, 0) shM ad μ 114 [(0, .ref (ad 0)), (1, .int x1), (3, .int x3)] [.ref (ad 0)] := by
  have hN_1 : 1 < kN K := by rw [hN]; decide
  have hN_2 : 2 < kN K := by rw [hN]; decide
  have hN_3 : 3 < kN K := by rw [hN]; decide
  have hN_4 : 4 < kN K := by rw [hN]; decide
  unfold bkX6_readOne_114 at h
  refine jw_iconst C.1 dX6_readOne_114 ki_1 ?_
  refine jw_goto (tgt := 119) C.1 dX6_readOne_115 (by decide) ?_
  exact jbX6_readOne_119 hN C _ _ _ _ h
set_option maxRecDepth 100000 in
set_option maxHeartbeats 4000000 in
theorem jbX6_readOne_101 {K : KT} {l : Launch} {ad : Nat → Nat} {Q : Mem → Prop} (hN : kN K = 5) (C : CtxM K l cX6_readOne RX6 wsX6_readOne rmX6_readOne shM ad none (pV Q)) (x1 : Int32) (x3 : Int32) (μ : Mem) (h : bkX6_readOne_101 Q x1 x3 μ) : JW K (0, 0) shM ad μ 101 [(0, .ref (ad 0)), (1, .int x1), (3, .int x3)] [] := by
  have hN_1 : 1 < kN K := by rw [hN]; decide
  have hN_2 : 2 < kN K := by rw [hN]; decide
  have hN_3 : 3 < kN K := by rw [hN]; decide
  have hN_4 : 4 < kN K := by rw [hN]; decide
  unfold bkX6_readOne_101 at h
  refine jw_aload_n C.1 dX6_readOne_101 rfl 0 rfl ?_
  refine jw_aload_n C.1 dX6_readOne_102 rfl 0 rfl ?_
  refine jw_getI C.1 iwX6_readOne_X6 rfl shM_0 rfl 14 (by decide) rfl (List.mem_of_getElem? (i := 1) rfl) dX6_readOne_103 ?_
  refine jw_if_ne C.1 114 dX6_readOne_106 (by decide) (fun c => ?_) (fun c => ?_)
  · have h := h.1 c
    exact jbX6_readOne_114 hN C _ _ _ h
  · have h := h.2 c
    refine jw_iload_n C.1 dX6_readOne_109 rfl 2 rfl ?_
    refine jw_iload_n C.1 dX6_readOne_110 rfl 1 rfl ?_
    refine jw_icmp_ge C.1 118 dX6_readOne_111 (by decide) (fun c => ?_) (fun c => ?_)
    · have h := h.1 c
      refine jw_iconst C.1 dX6_readOne_118 ki_0 ?_
      exact jbX6_readOne_119 hN C _ _ _ _ h
    · have h := h.2 c
      exact jbX6_readOne_114 hN C _ _ _ h
set_option maxRecDepth 100000 in
set_option maxHeartbeats 4000000 in
theorem ctX6_readOne (l : Launch) (μ : Mem) (Q : Mem → Prop) (h : wpX6_readOne μ Q) : Con l yX6_readOne wsX6_readOne rmX6_readOne shM (fun ad => [.ref (ad 0)]) μ (pV Q) := by
  refine Con.mk (cc := cX6_readOne) (maxL := 5) (ret := none) (own := RX6) (by decide) rfl rfl (fun _ => Nat.le_of_ble_eq_true rfl) (fun K ad hN C => ?_)
  show JW K (0, 0) shM ad μ 0 [(0, .ref (ad 0))] []
  have hN_1 : 1 < kN K := by rw [hN]; decide
  have hN_2 : 2 < kN K := by rw [hN]; decide
  have hN_3 : 3 < kN K := by rw [hN]; decide
  have hN_4 : 4 < kN K := by rw [hN]; decide
  unfold wpX6_readOne at h
  refine jw_aload_n C.1 dX6_readOne_0 rfl 0 rfl ?_
  refine jw_bipush C.1 dX6_readOne_1 kb_26 ?_
  refine jw_cVI (rest := []) C.1 dX6_readOne_3 em_shM_id (ctX6_number l _ _ _ h) miX6_number shM_0 rfl gX6_readOne_X6_number rfl (by decide) rfl rfl rfl (Nat.le_of_ble_eq_true rfl) ⟨Nat.zero_le _, Nat.zero_le _⟩ (fun r1 μ2 h => ?_)
  refine jw_istore_n (lw := [(1, .int _), (0, .ref _)]) C.1 dX6_readOne_6 rfl hN_1 rfl ?_
  refine jw_aload_n C.1 dX6_readOne_7 rfl 1 rfl ?_
  refine jw_getI C.1 iwX6_readOne_X6 rfl shM_0 rfl 14 (by decide) rfl (List.mem_of_getElem? (i := 1) rfl) dX6_readOne_8 ?_
  refine jw_if_eq C.1 15 dX6_readOne_11 (by decide) (fun c => ?_) (fun c => ?_)
  · have h := h.1 c
    refine jw_aload_n C.1 dX6_readOne_15 rfl 1 rfl ?_
    refine jw_cVI (rest := []) C.1 dX6_readOne_16 em_shM_id (ctX6_sign l _ _ h) miX6_sign shM_0 rfl gX6_readOne_X6_sign rfl (by decide) rfl rfl rfl (Nat.le_of_ble_eq_true rfl) ⟨Nat.zero_le _, Nat.zero_le _⟩ (fun r3 μ4 h => ?_)
    refine jw_istore_n (lw := [(2, .int _), (1, .int _), (0, .ref _)]) C.1 dX6_readOne_19 rfl hN_2 rfl ?_
    refine jw_iload_n C.1 dX6_readOne_20 rfl 0 rfl ?_
    refine jw_bipush C.1 dX6_readOne_21 kb_120 ?_
    refine jw_icmp_ne C.1 45 dX6_readOne_23 (by decide) (fun c => ?_) (fun c => ?_)
    · have h := h.1 c
      refine jw_iload_n C.1 dX6_readOne_45 rfl 0 rfl ?_
      refine jw_bipush C.1 dX6_readOne_46 kb_61 ?_
      refine jw_icmp_ne C.1 76 dX6_readOne_48 (by decide) (fun c => ?_) (fun c => ?_)
      · have h := h.1 c
        refine jw_iload_n C.1 dX6_readOne_76 rfl 1 rfl ?_
        refine jw_istore_n (lw := [(3, .int _), (2, .int _), (1, .int _), (0, .ref _)]) C.1 dX6_readOne_77 rfl hN_3 rfl ?_
        refine jw_iload_n C.1 dX6_readOne_78 rfl 1 rfl ?_
        refine jw_bipush C.1 dX6_readOne_79 kb_45 ?_
        refine jw_icmp_ne C.1 101 dX6_readOne_81 (by decide) (fun c => ?_) (fun c => ?_)
        · have h := h.1 c
          refine jw_sub [3, 2, 0] rfl ?_
          exact jbX6_readOne_101 hN C _ _ _ h
        · have h := h.2 c
          refine jw_aload_n C.1 dX6_readOne_84 rfl 3 rfl ?_
          refine jw_dup C.1 dX6_readOne_85 rfl ?_
          refine jw_getI C.1 iwX6_readOne_X6 rfl shM_0 rfl 13 (by decide) rfl (List.mem_of_getElem? (i := 2) rfl) dX6_readOne_86 ?_
          refine jw_iconst C.1 dX6_readOne_89 ki_1 ?_
          refine jw_iadd C.1 dX6_readOne_90 ?_
          refine jw_putI C.1 iwX6_readOne_X6 rfl shM_0 rfl 13 (by decide) tyX6 tyX6_ok nmX6 (j := 4) rfl fuX6_13 (List.mem_of_getElem? (i := 2) rfl) rfl (ty := .int) (by decide +kernel) rfl rfl dX6_readOne_91 ?_
          have h := h _ rfl
          refine jw_aload_n C.1 dX6_readOne_94 rfl 3 rfl ?_
          refine jw_bipush C.1 dX6_readOne_95 kb_26 ?_
          refine jw_cVI (rest := []) C.1 dX6_readOne_97 em_shM_id (ctX6_number l _ _ _ h) miX6_number shM_0 rfl gX6_readOne_X6_number rfl (by decide) rfl rfl rfl (Nat.le_of_ble_eq_true rfl) ⟨Nat.zero_le _, Nat.zero_le _⟩ (fun r6 μ7 h => ?_)
          refine jw_istore_n (lw := [(3, .int _), (2, .int _), (1, .int _), (0, .ref _)]) C.1 dX6_readOne_100 rfl hN_3 rfl ?_
          refine jw_sub [3, 2, 0] rfl ?_
          exact jbX6_readOne_101 hN C _ _ _ h
      · have h := h.2 c
        refine jw_aload_n C.1 dX6_readOne_51 rfl 2 rfl ?_
        refine jw_dup C.1 dX6_readOne_52 rfl ?_
        refine jw_getI C.1 iwX6_readOne_X6 rfl shM_0 rfl 13 (by decide) rfl (List.mem_of_getElem? (i := 2) rfl) dX6_readOne_53 ?_
        refine jw_iconst C.1 dX6_readOne_56 ki_1 ?_
        refine jw_iadd C.1 dX6_readOne_57 ?_
        refine jw_putI C.1 iwX6_readOne_X6 rfl shM_0 rfl 13 (by decide) tyX6 tyX6_ok nmX6 (j := 4) rfl fuX6_13 (List.mem_of_getElem? (i := 2) rfl) rfl (ty := .int) (by decide +kernel) rfl rfl dX6_readOne_58 ?_
        have h := h _ rfl
        refine jw_aload_n C.1 dX6_readOne_61 rfl 2 rfl ?_
        refine jw_iconst C.1 dX6_readOne_62 ki_0 ?_
        refine jw_iload_n C.1 dX6_readOne_63 rfl 1 rfl ?_
        refine jw_iload_n C.1 dX6_readOne_64 rfl 1 rfl ?_
        refine jw_aload_n C.1 dX6_readOne_65 rfl 2 rfl ?_
        refine jw_sipush C.1 dX6_readOne_66 ks_999 ?_
        refine jw_cVI (rest := [.int _, .int _, .int _, .ref _]) C.1 dX6_readOne_69 em_shM_id (ctX6_number l _ _ _ h) miX6_number shM_0 rfl gX6_readOne_X6_number rfl (by decide) rfl rfl rfl (Nat.le_of_ble_eq_true rfl) ⟨Nat.zero_le _, Nat.zero_le _⟩ (fun r9 μ10 h => ?_)
        refine jw_cVV (rest := []) C.1 dX6_readOne_72 em_shM_id (ctX6_lay l _ _ _ _ _ _ h) miX6_lay shM_0 rfl gX6_readOne_X6_lay rfl (by decide) rfl rfl rfl (Nat.le_of_ble_eq_true rfl) ⟨Nat.zero_le _, Nat.zero_le _⟩ (fun μ12 h => ?_)
        exact jw_vret C h dX6_readOne_75
    · have h := h.2 c
      refine jw_aload_n C.1 dX6_readOne_26 rfl 2 rfl ?_
      refine jw_dup C.1 dX6_readOne_27 rfl ?_
      refine jw_getI C.1 iwX6_readOne_X6 rfl shM_0 rfl 13 (by decide) rfl (List.mem_of_getElem? (i := 2) rfl) dX6_readOne_28 ?_
      refine jw_iconst C.1 dX6_readOne_31 ki_1 ?_
      refine jw_iadd C.1 dX6_readOne_32 ?_
      refine jw_putI C.1 iwX6_readOne_X6 rfl shM_0 rfl 13 (by decide) tyX6 tyX6_ok nmX6 (j := 4) rfl fuX6_13 (List.mem_of_getElem? (i := 2) rfl) rfl (ty := .int) (by decide +kernel) rfl rfl dX6_readOne_33 ?_
      have h := h _ rfl
      refine jw_aload_n C.1 dX6_readOne_36 rfl 2 rfl ?_
      refine jw_iconst C.1 dX6_readOne_37 ki_2 ?_
      refine jw_iload_n C.1 dX6_readOne_38 rfl 1 rfl ?_
      refine jw_iload_n C.1 dX6_readOne_39 rfl 1 rfl ?_
      refine jw_iconst C.1 dX6_readOne_40 ki_0 ?_
      refine jw_cVV (rest := []) C.1 dX6_readOne_41 em_shM_id (ctX6_lay l _ _ _ _ _ _ h) miX6_lay shM_0 rfl gX6_readOne_X6_lay rfl (by decide) rfl rfl rfl (Nat.le_of_ble_eq_true rfl) ⟨Nat.zero_le _, Nat.zero_le _⟩ (fun μ15 h => ?_)
      exact jw_vret C h dX6_readOne_44
  · have h := h.2 c
    exact jw_vret C h dX6_readOne_14
set_option maxRecDepth 100000 in
set_option maxHeartbeats 4000000 in
theorem jbX6_faultOf_57 {K : KT} {l : Launch} {ad : Nat → Nat} {Q : Int32 → Mem → Prop} (hN : kN K = 1) (C : CtxM K l cX6_faultOf RX6 wsX6_faultOf rmX6_faultOf shM ad (some .int) (pI Q)) (μ : Mem) (h : bkX6_faultOf_57 Q μ) : JW K (0, 0) shM ad μ 57 [(0, .ref (ad 0))] [] := by
  unfold bkX6_faultOf_57 at h
  refine jw_aload_n C.1 dX6_faultOf_57 rfl 0 rfl ?_
  refine jw_getI C.1 iwX6_faultOf_X6 rfl shM_0 rfl 14 (by decide) rfl (List.mem_of_getElem? (i := 3) rfl) dX6_faultOf_58 ?_
  refine jw_if_eq C.1 71 dX6_faultOf_61 (by decide) (fun c => ?_) (fun c => ?_)
  · have h := h.1 c
    refine jw_bipush C.1 dX6_faultOf_71 kb_m6 ?_
    exact jw_iret (Q := Q) C h dX6_faultOf_73
  · have h := h.2 c
    refine jw_aload_n C.1 dX6_faultOf_64 rfl 0 rfl ?_
    refine jw_getI C.1 iwX6_faultOf_X6 rfl shM_0 rfl 13 (by decide) rfl (List.mem_of_getElem? (i := 1) rfl) dX6_faultOf_65 ?_
    refine jw_goto (tgt := 73) C.1 dX6_faultOf_68 (by decide) ?_
    exact jw_iret (Q := Q) C h dX6_faultOf_73
set_option maxRecDepth 100000 in
set_option maxHeartbeats 4000000 in
theorem jbX6_faultOf_19 {K : KT} {l : Launch} {ad : Nat → Nat} {Q : Int32 → Mem → Prop} (hN : kN K = 1) (C : CtxM K l cX6_faultOf RX6 wsX6_faultOf rmX6_faultOf shM ad (some .int) (pI Q)) : ∀ (n : Nat) (μ : Mem), bkX6_faultOf_19 Q n μ → JW K (0, 0) shM ad μ 19 [(0, .ref (ad 0))] [] := by
  intro n
  induction n with
  | zero =>
    intro μ h
    exact h.elim
  | succ n ih =>
    intro μ h
    unfold bkX6_faultOf_19 at h
    refine jw_aload_n C.1 dX6_faultOf_19 rfl 0 rfl ?_
    refine jw_getI C.1 iwX6_faultOf_X6 rfl shM_0 rfl 14 (by decide) rfl (List.mem_of_getElem? (i := 3) rfl) dX6_faultOf_20 ?_
    refine jw_if_ne C.1 57 dX6_faultOf_23 (by decide) (fun c => ?_) (fun c => ?_)
    · have h := h.1 c
      exact jbX6_faultOf_57 hN C _ h
    · have h := h.2 c
      refine jw_aload_n C.1 dX6_faultOf_26 rfl 0 rfl ?_
      refine jw_getI C.1 iwX6_faultOf_X6 rfl shM_0 rfl 13 (by decide) rfl (List.mem_of_getElem? (i := 1) rfl) dX6_faultOf_27 ?_
      refine jw_aload_n C.1 dX6_faultOf_30 rfl 0 rfl ?_
      refine jw_getI C.1 iwX6_faultOf_X6 rfl shM_0 rfl 9 (by decide) rfl (List.mem_of_getElem? (i := 4) rfl) dX6_faultOf_31 ?_
      refine jw_icmp_ge C.1 57 dX6_faultOf_34 (by decide) (fun c => ?_) (fun c => ?_)
      · have h := h.1 c
        exact jbX6_faultOf_57 hN C _ h
      · have h := h.2 c
        refine jw_aload_n C.1 dX6_faultOf_37 rfl 0 rfl ?_
        refine jw_bipush C.1 dX6_faultOf_38 kb_59 ?_
        refine jw_cVV (rest := []) C.1 dX6_faultOf_40 em_shM_id (ctX6_between l _ _ _ h) miX6_between shM_0 rfl gX6_faultOf_X6_between rfl (by decide) rfl rfl rfl (Nat.le_of_ble_eq_true rfl) ⟨Nat.zero_le _, Nat.zero_le _⟩ (fun μ7 h => ?_)
        refine jw_aload_n C.1 dX6_faultOf_43 rfl 0 rfl ?_
        refine jw_getI C.1 iwX6_faultOf_X6 rfl shM_0 rfl 14 (by decide) rfl (List.mem_of_getElem? (i := 3) rfl) dX6_faultOf_44 ?_
        refine jw_if_ne C.1 19 dX6_faultOf_47 (by decide) (fun c => ?_) (fun c => ?_)
        · have h := h.1 c
          exact ih _ h
        · have h := h.2 c
          refine jw_aload_n C.1 dX6_faultOf_50 rfl 0 rfl ?_
          refine jw_cVV (rest := []) C.1 dX6_faultOf_51 em_shM_id (ctX6_readOne l _ _ h) miX6_readOne shM_0 rfl gX6_faultOf_X6_readOne rfl (by decide) rfl rfl rfl (Nat.le_of_ble_eq_true rfl) ⟨Nat.zero_le _, Nat.zero_le _⟩ (fun μ9 h => ?_)
          refine jw_goto (tgt := 19) C.1 dX6_faultOf_54 (by decide) ?_
          exact ih _ h
set_option maxRecDepth 100000 in
set_option maxHeartbeats 4000000 in
theorem ctX6_faultOf (l : Launch) (μ : Mem) (Q : Int32 → Mem → Prop) (h : wpX6_faultOf μ Q) : Con l yX6_faultOf wsX6_faultOf rmX6_faultOf shM (fun ad => [.ref (ad 0)]) μ (pI Q) := by
  refine Con.mk (cc := cX6_faultOf) (maxL := 1) (ret := (some .int)) (own := RX6) (by decide) rfl rfl (fun _ => Nat.le_of_ble_eq_true rfl) (fun K ad hN C => ?_)
  show JW K (0, 0) shM ad μ 0 [(0, .ref (ad 0))] []
  unfold wpX6_faultOf at h
  refine jw_aload_n C.1 dX6_faultOf_0 rfl 0 rfl ?_
  refine jw_iconst C.1 dX6_faultOf_1 ki_0 ?_
  refine jw_putI C.1 iwX6_faultOf_X6 rfl shM_0 rfl 13 (by decide) tyX6 tyX6_ok nmX6 (j := 4) rfl fuX6_13 (List.mem_of_getElem? (i := 1) rfl) rfl (ty := .int) (by decide +kernel) rfl rfl dX6_faultOf_2 ?_
  have h := h _ rfl
  refine jw_aload_n C.1 dX6_faultOf_5 rfl 0 rfl ?_
  refine jw_iconst C.1 dX6_faultOf_6 ki_0 ?_
  refine jw_putI C.1 iwX6_faultOf_X6 rfl shM_0 rfl 12 (by decide) tyX6 tyX6_ok nmX6 (j := 3) rfl fuX6_12 (List.mem_of_getElem? (i := 2) rfl) rfl (ty := .int) (by decide +kernel) rfl rfl dX6_faultOf_7 ?_
  have h := h _ rfl
  refine jw_aload_n C.1 dX6_faultOf_10 rfl 0 rfl ?_
  refine jw_iconst C.1 dX6_faultOf_11 ki_0 ?_
  refine jw_putI C.1 iwX6_faultOf_X6 rfl shM_0 rfl 14 (by decide) tyX6 tyX6_ok nmX6 (j := 5) rfl fuX6_14 (List.mem_of_getElem? (i := 3) rfl) rfl (ty := .boolean) (by decide +kernel) rfl rfl dX6_faultOf_12 ?_
  have h := h _ rfl
  refine jw_aload_n C.1 dX6_faultOf_15 rfl 0 rfl ?_
  refine jw_cVV (rest := []) C.1 dX6_faultOf_16 em_shM_id (ctX6_readOne l _ _ h) miX6_readOne shM_0 rfl gX6_faultOf_X6_readOne rfl (by decide) rfl rfl rfl (Nat.le_of_ble_eq_true rfl) ⟨Nat.zero_le _, Nat.zero_le _⟩ (fun μ5 h => ?_)
  obtain ⟨n, h⟩ := h
  exact jbX6_faultOf_19 hN C n _ h
set_option maxRecDepth 100000 in
set_option maxHeartbeats 4000000 in
theorem jbX6_record_52 {K : KT} {l : Launch} {ad : Nat → Nat} {Q : Mem → Prop} (hN : kN K = 2) (C : CtxM K l cX6_record RX6 wsX6_record rmX6_record shM ad none (pV Q)) : ∀ (n : Nat) (x1 : Int32) (μ : Mem), bkX6_record_52 Q n x1 μ → JW K (0, 0) shM ad μ 52 [(0, .ref (ad 0)), (1, .int x1)] [] := by
  have hN_1 : 1 < kN K := by rw [hN]; decide
  intro n
  induction n with
  | zero =>
    intro x1 μ h
    exact h.elim
  | succ n ih =>
    intro x1 μ h
    unfold bkX6_record_52 at h
    refine jw_iload_n C.1 dX6_record_52 rfl 1 rfl ?_
    refine jw_sipush C.1 dX6_record_53 ks_1333 ?_
    refine jw_icmp_ge C.1 86 dX6_record_56 (by decide) (fun c => ?_) (fun c => ?_)
    · have h := h.1 c
      refine jw_aload_n C.1 dX6_record_86 rfl 0 rfl ?_
      refine jw_dup C.1 dX6_record_87 rfl ?_
      refine jw_getI C.1 iwX6_record_X6 rfl shM_0 rfl 2 (by decide) rfl (List.mem_of_getElem? (i := 1) rfl) dX6_record_88 ?_
      refine jw_iconst C.1 dX6_record_91 ki_1 ?_
      refine jw_iadd C.1 dX6_record_92 ?_
      refine jw_putI C.1 iwX6_record_X6 rfl shM_0 rfl 2 (by decide) tyX6 tyX6_ok nmX6 (j := 0) rfl fuX6_2 (List.mem_of_getElem? (i := 1) rfl) rfl (ty := .int) (by decide +kernel) rfl rfl dX6_record_93 ?_
      have h := h _ rfl
      exact jw_vret C h dX6_record_96
    · have h := h.2 c
      refine jw_aload_n C.1 dX6_record_59 rfl 0 rfl ?_
      refine jw_getR C.1 iwX6_record_X6 rfl shM_0 rfl 1 (by decide) rfl (List.mem_of_getElem? (i := 2) rfl) dX6_record_60 ?_
      refine jw_sipush C.1 dX6_record_63 ks_1333 ?_
      refine jw_aload_n C.1 dX6_record_66 rfl 0 rfl ?_
      refine jw_getI C.1 iwX6_record_X6 rfl shM_0 rfl 2 (by decide) rfl (List.mem_of_getElem? (i := 1) rfl) dX6_record_67 ?_
      refine jw_imul C.1 dX6_record_70 ?_
      refine jw_iload_n C.1 dX6_record_71 rfl 1 rfl ?_
      refine jw_iadd C.1 dX6_record_72 ?_
      refine jw_aload_n C.1 dX6_record_73 rfl 0 rfl ?_
      refine jw_getR C.1 iwX6_record_X6 rfl shM_0 rfl 0 (by decide) rfl (List.mem_of_getElem? (i := 3) rfl) dX6_record_74 ?_
      refine jw_iload_n C.1 dX6_record_77 rfl 1 rfl ?_
      obtain ⟨hi, h⟩ := h
      refine jw_iald C.1 rfl shM_1 hi dX6_record_78 ?_
      obtain ⟨hi, h⟩ := h
      refine jw_iast C.1 rfl shM_2 hi dX6_record_79 ?_
      have h := h _ rfl
      refine jw_iinc (lw := [(1, .int _), (0, .ref _)]) (q := 1) C.1 dX6_record_80 rfl (ai_1 _) hN_1 rfl ?_
      have h := h _ rfl
      refine jw_goto (tgt := 52) C.1 dX6_record_83 (by decide) ?_
      refine jw_sub [1, 0] rfl ?_
      exact ih _ _ h
set_option maxRecDepth 100000 in
set_option maxHeartbeats 4000000 in
theorem jbX6_record_11 {K : KT} {l : Launch} {ad : Nat → Nat} {Q : Mem → Prop} (hN : kN K = 2) (C : CtxM K l cX6_record RX6 wsX6_record rmX6_record shM ad none (pV Q)) : ∀ (n : Nat) (x1 : Int32) (μ : Mem), bkX6_record_11 Q n x1 μ → JW K (0, 0) shM ad μ 11 [(0, .ref (ad 0)), (1, .int x1)] [] := by
  have hN_1 : 1 < kN K := by rw [hN]; decide
  intro n
  induction n with
  | zero =>
    intro x1 μ h
    exact h.elim
  | succ n ih =>
    intro x1 μ h
    unfold bkX6_record_11 at h
    refine jw_iload_n C.1 dX6_record_11 rfl 1 rfl ?_
    refine jw_sipush C.1 dX6_record_12 ks_6665 ?_
    refine jw_icmp_ge C.1 40 dX6_record_15 (by decide) (fun c => ?_) (fun c => ?_)
    · have h := h.1 c
      refine jw_aload_n C.1 dX6_record_40 rfl 0 rfl ?_
      refine jw_dup C.1 dX6_record_41 rfl ?_
      refine jw_getI C.1 iwX6_record_X6 rfl shM_0 rfl 2 (by decide) rfl (List.mem_of_getElem? (i := 1) rfl) dX6_record_42 ?_
      refine jw_iconst C.1 dX6_record_45 ki_1 ?_
      refine jw_isub C.1 dX6_record_46 ?_
      refine jw_putI C.1 iwX6_record_X6 rfl shM_0 rfl 2 (by decide) tyX6 tyX6_ok nmX6 (j := 0) rfl fuX6_2 (List.mem_of_getElem? (i := 1) rfl) rfl (ty := .int) (by decide +kernel) rfl rfl dX6_record_47 ?_
      have h := h _ rfl
      refine jw_iconst C.1 dX6_record_50 ki_0 ?_
      refine jw_istore_n (lw := [(1, .int _), (0, .ref _)]) C.1 dX6_record_51 rfl hN_1 rfl ?_
      obtain ⟨n, h⟩ := h
      refine jw_sub [1, 0] rfl ?_
      exact jbX6_record_52 hN C n _ _ h
    · have h := h.2 c
      refine jw_aload_n C.1 dX6_record_18 rfl 0 rfl ?_
      refine jw_getR C.1 iwX6_record_X6 rfl shM_0 rfl 1 (by decide) rfl (List.mem_of_getElem? (i := 2) rfl) dX6_record_19 ?_
      refine jw_iload_n C.1 dX6_record_22 rfl 1 rfl ?_
      refine jw_aload_n C.1 dX6_record_23 rfl 0 rfl ?_
      refine jw_getR C.1 iwX6_record_X6 rfl shM_0 rfl 1 (by decide) rfl (List.mem_of_getElem? (i := 2) rfl) dX6_record_24 ?_
      refine jw_iload_n C.1 dX6_record_27 rfl 1 rfl ?_
      refine jw_sipush C.1 dX6_record_28 ks_1333 ?_
      refine jw_iadd C.1 dX6_record_31 ?_
      obtain ⟨hi, h⟩ := h
      refine jw_iald C.1 rfl shM_2 hi dX6_record_32 ?_
      obtain ⟨hi, h⟩ := h
      refine jw_iast C.1 rfl shM_2 hi dX6_record_33 ?_
      have h := h _ rfl
      refine jw_iinc (lw := [(1, .int _), (0, .ref _)]) (q := 1) C.1 dX6_record_34 rfl (ai_1 _) hN_1 rfl ?_
      have h := h _ rfl
      refine jw_goto (tgt := 11) C.1 dX6_record_37 (by decide) ?_
      refine jw_sub [1, 0] rfl ?_
      exact ih _ _ h
set_option maxRecDepth 100000 in
set_option maxHeartbeats 4000000 in
theorem ctX6_record (l : Launch) (μ : Mem) (Q : Mem → Prop) (h : wpX6_record μ Q) : Con l yX6_record wsX6_record rmX6_record shM (fun ad => [.ref (ad 0)]) μ (pV Q) := by
  refine Con.mk (cc := cX6_record) (maxL := 2) (ret := none) (own := RX6) (by decide) rfl rfl (fun _ => Nat.le_of_ble_eq_true rfl) (fun K ad hN C => ?_)
  show JW K (0, 0) shM ad μ 0 [(0, .ref (ad 0))] []
  have hN_1 : 1 < kN K := by rw [hN]; decide
  unfold wpX6_record at h
  refine jw_aload_n C.1 dX6_record_0 rfl 0 rfl ?_
  refine jw_getI C.1 iwX6_record_X6 rfl shM_0 rfl 2 (by decide) rfl (List.mem_of_getElem? (i := 1) rfl) dX6_record_1 ?_
  refine jw_bipush C.1 dX6_record_4 kb_6 ?_
  refine jw_icmp_ne C.1 50 dX6_record_6 (by decide) (fun c => ?_) (fun c => ?_)
  · have h := h.1 c
    refine jw_iconst C.1 dX6_record_50 ki_0 ?_
    refine jw_istore_n (lw := [(1, .int _), (0, .ref _)]) C.1 dX6_record_51 rfl hN_1 rfl ?_
    obtain ⟨n, h⟩ := h
    refine jw_sub [1, 0] rfl ?_
    exact jbX6_record_52 hN C n _ _ h
  · have h := h.2 c
    refine jw_iconst C.1 dX6_record_9 ki_0 ?_
    refine jw_istore_n (lw := [(1, .int _), (0, .ref _)]) C.1 dX6_record_10 rfl hN_1 rfl ?_
    obtain ⟨n, h⟩ := h
    refine jw_sub [1, 0] rfl ?_
    exact jbX6_record_11 hN C n _ _ h
set_option maxRecDepth 100000 in
set_option maxHeartbeats 4000000 in
theorem jbX6_carryOut_23 {K : KT} {l : Launch} {ad : Nat → Nat} {Q : Int32 → Mem → Prop} (hN : kN K = 2) (C : CtxM K l cX6_carryOut RX6 wsX6_carryOut rmX6_carryOut shM ad (some .int) (pI Q)) : ∀ (n : Nat) (x1 : Int32) (μ : Mem), bkX6_carryOut_23 Q n x1 μ → JW K (0, 0) shM ad μ 23 [(0, .ref (ad 0)), (1, .int x1)] [] := by
  have hN_1 : 1 < kN K := by rw [hN]; decide
  intro n
  induction n with
  | zero =>
    intro x1 μ h
    exact h.elim
  | succ n ih =>
    intro x1 μ h
    unfold bkX6_carryOut_23 at h
    refine jw_iload_n C.1 dX6_carryOut_23 rfl 1 rfl ?_
    refine jw_aload_n C.1 dX6_carryOut_24 rfl 0 rfl ?_
    refine jw_getI C.1 iwX6_carryOut_X6 rfl shM_0 rfl 12 (by decide) rfl (List.mem_of_getElem? (i := 2) rfl) dX6_carryOut_25 ?_
    refine jw_icmp_ge C.1 79 dX6_carryOut_28 (by decide) (fun c => ?_) (fun c => ?_)
    · have h := h.1 c
      refine jw_aload_n C.1 dX6_carryOut_79 rfl 0 rfl ?_
      refine jw_getI C.1 iwX6_carryOut_X6 rfl shM_0 rfl 12 (by decide) rfl (List.mem_of_getElem? (i := 2) rfl) dX6_carryOut_80 ?_
      exact jw_iret (Q := Q) C h dX6_carryOut_83
    · have h := h.2 c
      refine jw_aload_n C.1 dX6_carryOut_31 rfl 0 rfl ?_
      refine jw_aload_n C.1 dX6_carryOut_32 rfl 0 rfl ?_
      refine jw_getR C.1 iwX6_carryOut_X6 rfl shM_0 rfl 11 (by decide) rfl (List.mem_of_getElem? (i := 3) rfl) dX6_carryOut_33 ?_
      refine jw_iconst C.1 dX6_carryOut_36 ki_4 ?_
      refine jw_iload_n C.1 dX6_carryOut_37 rfl 1 rfl ?_
      refine jw_imul C.1 dX6_carryOut_38 ?_
      obtain ⟨hi, h⟩ := h
      refine jw_iald C.1 rfl shM_9 hi dX6_carryOut_39 ?_
      refine jw_aload_n C.1 dX6_carryOut_40 rfl 0 rfl ?_
      refine jw_getR C.1 iwX6_carryOut_X6 rfl shM_0 rfl 11 (by decide) rfl (List.mem_of_getElem? (i := 3) rfl) dX6_carryOut_41 ?_
      refine jw_iconst C.1 dX6_carryOut_44 ki_4 ?_
      refine jw_iload_n C.1 dX6_carryOut_45 rfl 1 rfl ?_
      refine jw_imul C.1 dX6_carryOut_46 ?_
      refine jw_iconst C.1 dX6_carryOut_47 ki_1 ?_
      refine jw_iadd C.1 dX6_carryOut_48 ?_
      obtain ⟨hi, h⟩ := h
      refine jw_iald C.1 rfl shM_9 hi dX6_carryOut_49 ?_
      refine jw_aload_n C.1 dX6_carryOut_50 rfl 0 rfl ?_
      refine jw_getR C.1 iwX6_carryOut_X6 rfl shM_0 rfl 11 (by decide) rfl (List.mem_of_getElem? (i := 3) rfl) dX6_carryOut_51 ?_
      refine jw_iconst C.1 dX6_carryOut_54 ki_4 ?_
      refine jw_iload_n C.1 dX6_carryOut_55 rfl 1 rfl ?_
      refine jw_imul C.1 dX6_carryOut_56 ?_
      refine jw_iconst C.1 dX6_carryOut_57 ki_2 ?_
      refine jw_iadd C.1 dX6_carryOut_58 ?_
      obtain ⟨hi, h⟩ := h
      refine jw_iald C.1 rfl shM_9 hi dX6_carryOut_59 ?_
      refine jw_aload_n C.1 dX6_carryOut_60 rfl 0 rfl ?_
      refine jw_getR C.1 iwX6_carryOut_X6 rfl shM_0 rfl 11 (by decide) rfl (List.mem_of_getElem? (i := 3) rfl) dX6_carryOut_61 ?_
      refine jw_iconst C.1 dX6_carryOut_64 ki_4 ?_
      refine jw_iload_n C.1 dX6_carryOut_65 rfl 1 rfl ?_
      refine jw_imul C.1 dX6_carryOut_66 ?_
      refine jw_iconst C.1 dX6_carryOut_67 ki_3 ?_
      refine jw_iadd C.1 dX6_carryOut_68 ?_
      obtain ⟨hi, h⟩ := h
      refine jw_iald C.1 rfl shM_9 hi dX6_carryOut_69 ?_
      refine jw_cVV (rest := []) C.1 dX6_carryOut_70 em_shM_id (ctX6_comesRoot l _ _ _ _ _ _ h) miX6_comesRoot shM_0 rfl gX6_carryOut_X6_comesRoot rfl (by decide) rfl rfl rfl (Nat.le_of_ble_eq_true rfl) ⟨Nat.zero_le _, Nat.zero_le _⟩ (fun μ7 h => ?_)
      refine jw_iinc (lw := [(1, .int _), (0, .ref _)]) (q := 1) C.1 dX6_carryOut_73 rfl (ai_1 _) hN_1 rfl ?_
      have h := h _ rfl
      refine jw_goto (tgt := 23) C.1 dX6_carryOut_76 (by decide) ?_
      refine jw_sub [1, 0] rfl ?_
      exact ih _ _ h
set_option maxRecDepth 100000 in
set_option maxHeartbeats 4000000 in
theorem ctX6_carryOut (l : Launch) (μ : Mem) (Q : Int32 → Mem → Prop) (h : wpX6_carryOut μ Q) : Con l yX6_carryOut wsX6_carryOut rmX6_carryOut shM (fun ad => [.ref (ad 0)]) μ (pI Q) := by
  refine Con.mk (cc := cX6_carryOut) (maxL := 2) (ret := (some .int)) (own := RX6) (by decide) rfl rfl (fun _ => Nat.le_of_ble_eq_true rfl) (fun K ad hN C => ?_)
  show JW K (0, 0) shM ad μ 0 [(0, .ref (ad 0))] []
  have hN_1 : 1 < kN K := by rw [hN]; decide
  unfold wpX6_carryOut at h
  refine jw_aload_n C.1 dX6_carryOut_0 rfl 0 rfl ?_
  refine jw_cVI (rest := []) C.1 dX6_carryOut_1 em_shM_id (ctX6_faultOf l _ _ h) miX6_faultOf shM_0 rfl gX6_carryOut_X6_faultOf rfl (by decide) rfl rfl rfl (Nat.le_of_ble_eq_true rfl) ⟨Nat.zero_le _, Nat.zero_le _⟩ (fun r1 μ2 h => ?_)
  refine jw_bipush C.1 dX6_carryOut_4 kb_m6 ?_
  refine jw_icmp_eq C.1 12 dX6_carryOut_6 (by decide) (fun c => ?_) (fun c => ?_)
  · have h := h.1 c
    refine jw_aload_n C.1 dX6_carryOut_12 rfl 0 rfl ?_
    refine jw_cVV (rest := []) C.1 dX6_carryOut_13 em_shM_id (ctX6_record l _ _ h) miX6_record shM_0 rfl gX6_carryOut_X6_record rfl (by decide) rfl rfl rfl (Nat.le_of_ble_eq_true rfl) ⟨Nat.zero_le _, Nat.zero_le _⟩ (fun μ4 h => ?_)
    refine jw_aload_n C.1 dX6_carryOut_16 rfl 0 rfl ?_
    refine jw_iconst C.1 dX6_carryOut_17 ki_0 ?_
    refine jw_putI C.1 iwX6_carryOut_X6 rfl shM_0 rfl 9 (by decide) tyX6 tyX6_ok nmX6 (j := 1) rfl fuX6_9 (List.mem_of_getElem? (i := 1) rfl) rfl (ty := .int) (by decide +kernel) rfl rfl dX6_carryOut_18 ?_
    have h := h _ rfl
    refine jw_iconst C.1 dX6_carryOut_21 ki_0 ?_
    refine jw_istore_n (lw := [(1, .int _), (0, .ref _)]) C.1 dX6_carryOut_22 rfl hN_1 rfl ?_
    obtain ⟨n, h⟩ := h
    refine jw_sub [1, 0] rfl ?_
    exact jbX6_carryOut_23 hN C n _ _ h
  · have h := h.2 c
    refine jw_bipush C.1 dX6_carryOut_9 kb_m3 ?_
    exact jw_iret (Q := Q) C h dX6_carryOut_11
set_option maxRecDepth 100000 in
set_option maxHeartbeats 4000000 in
theorem jbX6_throughNode_6 {K : KT} {l : Launch} {ad : Nat → Nat} {Q : Int32 → Mem → Prop} (hN : kN K = 7) (C : CtxM K l cX6_throughNode RX6 wsX6_throughNode rmX6_throughNode shM ad (some .int) (pI Q)) : ∀ (n : Nat) (x1 : Int32) (x2 : Int32) (x4 : Int32) (x5 : Int32) (μ : Mem), bkX6_throughNode_6 Q n x1 x2 x4 x5 μ → JW K (0, 0) shM ad μ 6 [(0, .ref (ad 0)), (1, .int x1), (2, .int x2), (4, .int x4), (5, .int x5)] [] := by
  have hN_4 : 4 < kN K := by rw [hN]; decide
  have hN_5 : 5 < kN K := by rw [hN]; decide
  have hN_6 : 6 < kN K := by rw [hN]; decide
  intro n
  induction n with
  | zero =>
    intro x1 x2 x4 x5 μ h
    exact h.elim
  | succ n ih =>
    intro x1 x2 x4 x5 μ h
    unfold bkX6_throughNode_6 at h
    refine jw_iload C.1 dX6_throughNode_6 4 rfl ?_
    refine jw_aload_n C.1 dX6_throughNode_8 rfl 0 rfl ?_
    refine jw_getR C.1 iwX6_throughNode_X6 rfl shM_0 rfl 0 (by decide) rfl (List.mem_of_getElem? (i := 1) rfl) dX6_throughNode_9 ?_
    refine jw_bipush C.1 dX6_throughNode_12 kb_72 ?_
    refine jw_iload_n C.1 dX6_throughNode_14 rfl 1 rfl ?_
    refine jw_iadd C.1 dX6_throughNode_15 ?_
    obtain ⟨hi, h⟩ := h
    refine jw_iald C.1 rfl shM_1 hi dX6_throughNode_16 ?_
    refine jw_icmp_ge C.1 73 dX6_throughNode_17 (by decide) (fun c => ?_) (fun c => ?_)
    · have h := h.1 c
      refine jw_iload C.1 dX6_throughNode_73 3 rfl ?_
      exact jw_iret (Q := Q) C h dX6_throughNode_75
    · have h := h.2 c
      refine jw_iload_n C.1 dX6_throughNode_20 rfl 1 rfl ?_
      refine jw_iload C.1 dX6_throughNode_21 4 rfl ?_
      refine jw_eSI (rest := []) C.1 dX6_throughNode_23 (ctX6_place l _ _ _ h _) miX6_place gX6_throughNode_X6_place (by decide) rfl rfl rfl (Nat.le_of_ble_eq_true rfl) ⟨Nat.zero_le _, Nat.zero_le _⟩ (fun r1 h => ?_)
      refine jw_istore (lw := [(6, .int _), (0, .ref _), (1, .int _), (2, .int _), (4, .int _), (5, .int _)]) C.1 dX6_throughNode_26 hN_6 rfl ?_
      refine jw_aload_n C.1 dX6_throughNode_28 rfl 1 rfl ?_
      refine jw_iload C.1 dX6_throughNode_29 0 rfl ?_
      refine jw_iload_n C.1 dX6_throughNode_31 rfl 3 rfl ?_
      refine jw_iload_n C.1 dX6_throughNode_32 rfl 3 rfl ?_
      refine jw_cVI (rest := []) C.1 dX6_throughNode_33 em_shM_id (ctX6_has l _ _ _ _ _ h) miX6_has shM_0 rfl gX6_throughNode_X6_has rfl (by decide) rfl rfl rfl (Nat.le_of_ble_eq_true rfl) ⟨Nat.zero_le _, Nat.zero_le _⟩ (fun r2 μ3 h => ?_)
      refine jw_if_eq C.1 63 dX6_throughNode_36 (by decide) (fun c => ?_) (fun c => ?_)
      · have h := h.1 c
        refine jw_iload C.1 dX6_throughNode_63 4 rfl ?_
        refine jw_istore (lw := [(4, .int _), (6, .int _), (0, .ref _), (1, .int _), (2, .int _), (5, .int _)]) C.1 dX6_throughNode_65 hN_4 rfl ?_
        refine jw_iinc (lw := [(5, .int _), (4, .int _), (6, .int _), (0, .ref _), (1, .int _), (2, .int _)]) (q := 5) C.1 dX6_throughNode_67 rfl (ai_1 _) hN_5 rfl ?_
        have h := h _ rfl
        refine jw_goto (tgt := 6) C.1 dX6_throughNode_70 (by decide) ?_
        refine jw_sub [3, 4, 5, 1, 0] rfl ?_
        exact ih _ _ _ _ _ h
      · have h := h.2 c
        refine jw_iload C.1 dX6_throughNode_39 4 rfl ?_
        refine jw_aload_n C.1 dX6_throughNode_41 rfl 1 rfl ?_
        refine jw_getR C.1 iwX6_throughNode_X6 rfl shM_0 rfl 0 (by decide) rfl (List.mem_of_getElem? (i := 1) rfl) dX6_throughNode_42 ?_
        refine jw_iload C.1 dX6_throughNode_45 0 rfl ?_
        obtain ⟨hi, h⟩ := h
        refine jw_iald C.1 rfl shM_1 hi dX6_throughNode_47 ?_
        refine jw_aload_n C.1 dX6_throughNode_48 rfl 1 rfl ?_
        refine jw_getR C.1 iwX6_throughNode_X6 rfl shM_0 rfl 0 (by decide) rfl (List.mem_of_getElem? (i := 1) rfl) dX6_throughNode_49 ?_
        refine jw_iload C.1 dX6_throughNode_52 0 rfl ?_
        refine jw_iconst C.1 dX6_throughNode_54 ki_3 ?_
        refine jw_iadd C.1 dX6_throughNode_55 ?_
        obtain ⟨hi, h⟩ := h
        refine jw_iald C.1 rfl shM_1 hi dX6_throughNode_56 ?_
        refine jw_eSI (rest := []) C.1 dX6_throughNode_57 (ctX6_applied l _ _ _ _ h _) miX6_applied gX6_throughNode_X6_applied (by decide) rfl rfl rfl (Nat.le_of_ble_eq_true rfl) ⟨Nat.zero_le _, Nat.zero_le _⟩ (fun r5 h => ?_)
        refine jw_goto (tgt := 65) C.1 dX6_throughNode_60 (by decide) ?_
        refine jw_istore (lw := [(4, .int _), (6, .int _), (0, .ref _), (1, .int _), (2, .int _), (5, .int _)]) C.1 dX6_throughNode_65 hN_4 rfl ?_
        refine jw_iinc (lw := [(5, .int _), (4, .int _), (6, .int _), (0, .ref _), (1, .int _), (2, .int _)]) (q := 5) C.1 dX6_throughNode_67 rfl (ai_1 _) hN_5 rfl ?_
        have h := h _ rfl
        refine jw_goto (tgt := 6) C.1 dX6_throughNode_70 (by decide) ?_
        refine jw_sub [3, 4, 5, 1, 0] rfl ?_
        exact ih _ _ _ _ _ h
set_option maxRecDepth 100000 in
set_option maxHeartbeats 4000000 in
theorem ctX6_throughNode (l : Launch) (a1 : Int32) (a2 : Int32) (a3 : Int32) (μ : Mem) (Q : Int32 → Mem → Prop) (h : wpX6_throughNode a1 a2 a3 μ Q) : Con l yX6_throughNode wsX6_throughNode rmX6_throughNode shM (fun ad => [.ref (ad 0), .int a1, .int a2, .int a3]) μ (pI Q) := by
  refine Con.mk (cc := cX6_throughNode) (maxL := 7) (ret := (some .int)) (own := RX6) (by decide) rfl rfl (fun _ => Nat.le_of_ble_eq_true rfl) (fun K ad hN C => ?_)
  show JW K (0, 0) shM ad μ 0 [(0, .ref (ad 0)), (1, .int a1), (2, .int a2), (3, .int a3)] []
  have hN_4 : 4 < kN K := by rw [hN]; decide
  have hN_5 : 5 < kN K := by rw [hN]; decide
  have hN_6 : 6 < kN K := by rw [hN]; decide
  unfold wpX6_throughNode at h
  refine jw_iload_n C.1 dX6_throughNode_0 rfl 3 rfl ?_
  refine jw_istore (lw := [(4, .int _), (0, .ref _), (1, .int _), (2, .int _), (3, .int _)]) C.1 dX6_throughNode_1 hN_4 rfl ?_
  refine jw_iconst C.1 dX6_throughNode_3 ki_0 ?_
  refine jw_istore (lw := [(5, .int _), (4, .int _), (0, .ref _), (1, .int _), (2, .int _), (3, .int _)]) C.1 dX6_throughNode_4 hN_5 rfl ?_
  obtain ⟨n, h⟩ := h
  refine jw_sub [2, 3, 4, 1, 0] rfl ?_
  exact jbX6_throughNode_6 hN C n _ _ _ _ _ h
set_option maxRecDepth 100000 in
set_option maxHeartbeats 4000000 in
theorem ctX6_readOf (l : Launch) (a1 : Int32) (μ : Mem) (Q : Int32 → Mem → Prop) (h : wpX6_readOf a1 μ Q) : Con l yX6_readOf wsX6_readOf rmX6_readOf shM (fun ad => [.ref (ad 0), .int a1]) μ (pI Q) := by
  refine Con.mk (cc := cX6_readOf) (maxL := 4) (ret := (some .int)) (own := RX6) (by decide) rfl rfl (fun _ => Nat.le_of_ble_eq_true rfl) (fun K ad hN C => ?_)
  show JW K (0, 0) shM ad μ 0 [(0, .ref (ad 0)), (1, .int a1)] []
  have hN_2 : 2 < kN K := by rw [hN]; decide
  have hN_3 : 3 < kN K := by rw [hN]; decide
  unfold wpX6_readOf at h
  refine jw_aload_n C.1 dX6_readOf_0 rfl 0 rfl ?_
  refine jw_iconst C.1 dX6_readOf_1 ki_4 ?_
  refine jw_iload_n C.1 dX6_readOf_2 rfl 1 rfl ?_
  refine jw_iconst C.1 dX6_readOf_3 ki_3 ?_
  refine jw_idiv C.1 dX6_readOf_4 (by decide) ?_
  refine jw_iadd C.1 dX6_readOf_5 ?_
  refine jw_iload_n C.1 dX6_readOf_6 rfl 1 rfl ?_
  refine jw_aload_n C.1 dX6_readOf_7 rfl 0 rfl ?_
  refine jw_getR C.1 iwX6_readOf_X6 rfl shM_0 rfl 0 (by decide) rfl (List.mem_of_getElem? (i := 1) rfl) dX6_readOf_8 ?_
  refine jw_bipush C.1 dX6_readOf_11 kb_6 ?_
  refine jw_iload_n C.1 dX6_readOf_13 rfl 1 rfl ?_
  refine jw_iadd C.1 dX6_readOf_14 ?_
  obtain ⟨hi, h⟩ := h
  refine jw_iald C.1 rfl shM_1 hi dX6_readOf_15 ?_
  refine jw_cVI (rest := []) C.1 dX6_readOf_16 em_shM_id (ctX6_throughNode l _ _ _ _ _ h) miX6_throughNode shM_0 rfl gX6_readOf_X6_throughNode rfl (by decide) rfl rfl rfl (Nat.le_of_ble_eq_true rfl) ⟨Nat.zero_le _, Nat.zero_le _⟩ (fun r1 μ2 h => ?_)
  refine jw_istore_n (lw := [(2, .int _), (0, .ref _), (1, .int _)]) C.1 dX6_readOf_19 rfl hN_2 rfl ?_
  refine jw_aload_n C.1 dX6_readOf_20 rfl 1 rfl ?_
  refine jw_iconst C.1 dX6_readOf_21 ki_1 ?_
  refine jw_iload_n C.1 dX6_readOf_22 rfl 2 rfl ?_
  refine jw_bipush C.1 dX6_readOf_23 kb_9 ?_
  refine jw_idiv C.1 dX6_readOf_25 (by decide) ?_
  refine jw_iadd C.1 dX6_readOf_26 ?_
  refine jw_iload_n C.1 dX6_readOf_27 rfl 2 rfl ?_
  refine jw_iload_n C.1 dX6_readOf_28 rfl 0 rfl ?_
  refine jw_cVI (rest := []) C.1 dX6_readOf_29 em_shM_id (ctX6_throughNode l _ _ _ _ _ h) miX6_throughNode shM_0 rfl gX6_readOf_X6_throughNode rfl (by decide) rfl rfl rfl (Nat.le_of_ble_eq_true rfl) ⟨Nat.zero_le _, Nat.zero_le _⟩ (fun r3 μ4 h => ?_)
  refine jw_istore_n (lw := [(3, .int _), (2, .int _), (0, .ref _), (1, .int _)]) C.1 dX6_readOf_32 rfl hN_3 rfl ?_
  refine jw_aload_n C.1 dX6_readOf_33 rfl 2 rfl ?_
  refine jw_iconst C.1 dX6_readOf_34 ki_0 ?_
  refine jw_iload_n C.1 dX6_readOf_35 rfl 3 rfl ?_
  refine jw_iload_n C.1 dX6_readOf_36 rfl 0 rfl ?_
  refine jw_cVI (rest := []) C.1 dX6_readOf_37 em_shM_id (ctX6_throughNode l _ _ _ _ _ h) miX6_throughNode shM_0 rfl gX6_readOf_X6_throughNode rfl (by decide) rfl rfl rfl (Nat.le_of_ble_eq_true rfl) ⟨Nat.zero_le _, Nat.zero_le _⟩ (fun r5 μ6 h => ?_)
  exact jw_iret (Q := Q) C h dX6_readOf_40
set_option maxRecDepth 100000 in
set_option maxHeartbeats 4000000 in
theorem jbX6_present_4 {K : KT} {l : Launch} {ad : Nat → Nat} {Q : Int32 → Mem → Prop} (hN : kN K = 3) (C : CtxM K l cX6_present RX6 wsX6_present rmX6_present shM ad (some .int) (pI Q)) : ∀ (n : Nat) (x1 : Int32) (x2 : Int32) (μ : Mem), bkX6_present_4 Q n x1 x2 μ → JW K (0, 0) shM ad μ 4 [(0, .ref (ad 0)), (1, .int x1), (2, .int x2)] [] := by
  have hN_1 : 1 < kN K := by rw [hN]; decide
  have hN_2 : 2 < kN K := by rw [hN]; decide
  intro n
  induction n with
  | zero =>
    intro x1 x2 μ h
    exact h.elim
  | succ n ih =>
    intro x1 x2 μ h
    unfold bkX6_present_4 at h
    refine jw_iload_n C.1 dX6_present_4 rfl 2 rfl ?_
    refine jw_bipush C.1 dX6_present_5 kb_27 ?_
    refine jw_icmp_ge C.1 34 dX6_present_7 (by decide) (fun c => ?_) (fun c => ?_)
    · have h := h.1 c
      refine jw_iload_n C.1 dX6_present_34 rfl 1 rfl ?_
      exact jw_iret (Q := Q) C h dX6_present_35
    · have h := h.2 c
      refine jw_iload_n C.1 dX6_present_10 rfl 1 rfl ?_
      refine jw_aload_n C.1 dX6_present_11 rfl 0 rfl ?_
      refine jw_iload_n C.1 dX6_present_12 rfl 2 rfl ?_
      refine jw_cVI (rest := [.int _]) C.1 dX6_present_13 em_shM_id (ctX6_readOf l _ _ _ h) miX6_readOf shM_0 rfl gX6_present_X6_readOf rfl (by decide) rfl rfl rfl (Nat.le_of_ble_eq_true rfl) ⟨Nat.zero_le _, Nat.zero_le _⟩ (fun r1 μ2 h => ?_)
      refine jw_bipush C.1 dX6_present_16 kb_m6 ?_
      refine jw_icmp_ne C.1 25 dX6_present_18 (by decide) (fun c => ?_) (fun c => ?_)
      · have h := h.1 c
        refine jw_iconst C.1 dX6_present_25 ki_1 ?_
        refine jw_iadd C.1 dX6_present_26 ?_
        refine jw_istore_n (lw := [(1, .int _), (0, .ref _), (2, .int _)]) C.1 dX6_present_27 rfl hN_1 rfl ?_
        have h := h _ rfl
        refine jw_iinc (lw := [(2, .int _), (1, .int _), (0, .ref _)]) (q := 2) C.1 dX6_present_28 rfl (ai_1 _) hN_2 rfl ?_
        have h := h _ rfl
        refine jw_goto (tgt := 4) C.1 dX6_present_31 (by decide) ?_
        refine jw_sub [2, 1, 0] rfl ?_
        exact ih _ _ _ h
      · have h := h.2 c
        refine jw_iconst C.1 dX6_present_21 ki_0 ?_
        refine jw_goto (tgt := 26) C.1 dX6_present_22 (by decide) ?_
        refine jw_iadd C.1 dX6_present_26 ?_
        refine jw_istore_n (lw := [(1, .int _), (0, .ref _), (2, .int _)]) C.1 dX6_present_27 rfl hN_1 rfl ?_
        have h := h _ rfl
        refine jw_iinc (lw := [(2, .int _), (1, .int _), (0, .ref _)]) (q := 2) C.1 dX6_present_28 rfl (ai_1 _) hN_2 rfl ?_
        have h := h _ rfl
        refine jw_goto (tgt := 4) C.1 dX6_present_31 (by decide) ?_
        refine jw_sub [2, 1, 0] rfl ?_
        exact ih _ _ _ h
set_option maxRecDepth 100000 in
set_option maxHeartbeats 4000000 in
theorem ctX6_present (l : Launch) (μ : Mem) (Q : Int32 → Mem → Prop) (h : wpX6_present μ Q) : Con l yX6_present wsX6_present rmX6_present shM (fun ad => [.ref (ad 0)]) μ (pI Q) := by
  refine Con.mk (cc := cX6_present) (maxL := 3) (ret := (some .int)) (own := RX6) (by decide) rfl rfl (fun _ => Nat.le_of_ble_eq_true rfl) (fun K ad hN C => ?_)
  show JW K (0, 0) shM ad μ 0 [(0, .ref (ad 0))] []
  have hN_1 : 1 < kN K := by rw [hN]; decide
  have hN_2 : 2 < kN K := by rw [hN]; decide
  unfold wpX6_present at h
  refine jw_iconst C.1 dX6_present_0 ki_0 ?_
  refine jw_istore_n (lw := [(1, .int _), (0, .ref _)]) C.1 dX6_present_1 rfl hN_1 rfl ?_
  refine jw_iconst C.1 dX6_present_2 ki_0 ?_
  refine jw_istore_n (lw := [(2, .int _), (1, .int _), (0, .ref _)]) C.1 dX6_present_3 rfl hN_2 rfl ?_
  obtain ⟨n, h⟩ := h
  refine jw_sub [2, 1, 0] rfl ?_
  exact jbX6_present_4 hN C n _ _ _ h
set_option maxRecDepth 100000 in
set_option maxHeartbeats 4000000 in
theorem ctX6_count (l : Launch) (a1 : Int32) (μ : Mem) (Q : Int32 → Mem → Prop) (h : wpX6_count a1 μ Q) : Con l yX6_count wsX6_count rmX6_count shM (fun ad => [.ref (ad 0), .int a1]) μ (pI Q) := by
  refine Con.mk (cc := cX6_count) (maxL := 2) (ret := (some .int)) (own := RX6) (by decide) rfl rfl (fun _ => Nat.le_of_ble_eq_true rfl) (fun K ad hN C => ?_)
  show JW K (0, 0) shM ad μ 0 [(0, .ref (ad 0)), (1, .int a1)] []
  unfold wpX6_count at h
  refine jw_iload_n C.1 dX6_count_0 rfl 1 rfl ?_
  by_cases c0 : a1 = (0 : Int32)
  · have h := h.1 c0
    refine jw_tsIn C.1 (0 : Int32) 48 dX6_count_1 c0 (by decide) (by decide) (off := 47) (by decide +kernel) (by decide) ?_
    refine jw_aload_n C.1 dX6_count_48 rfl 0 rfl ?_
    refine jw_cVI (rest := []) C.1 dX6_count_49 em_shM_id (ctX6_allStones l _ _ h) miX6_allStones shM_0 rfl gX6_count_X6_allStones rfl (by decide) rfl rfl rfl (Nat.le_of_ble_eq_true rfl) ⟨Nat.zero_le _, Nat.zero_le _⟩ (fun r1 μ2 h => ?_)
    exact jw_iret (Q := Q) C h dX6_count_52
  · have h := h.2 c0
    by_cases c1 : a1 = (1 : Int32)
    · have h := h.1 c1
      refine jw_tsIn C.1 (1 : Int32) 53 dX6_count_1 c1 (by decide) (by decide) (off := 52) (by decide +kernel) (by decide) ?_
      refine jw_aload_n C.1 dX6_count_53 rfl 0 rfl ?_
      refine jw_getR C.1 iwX6_count_X6 rfl shM_0 rfl 0 (by decide) rfl (List.mem_of_getElem? (i := 1) rfl) dX6_count_54 ?_
      refine jw_iconst C.1 dX6_count_57 ki_2 ?_
      refine jw_iload_n C.1 dX6_count_58 rfl 1 rfl ?_
      refine jw_iadd C.1 dX6_count_59 ?_
      refine jw_iconst C.1 dX6_count_60 ki_1 ?_
      refine jw_isub C.1 dX6_count_61 ?_
      obtain ⟨hi, h⟩ := h
      refine jw_iald C.1 rfl shM_1 hi dX6_count_62 ?_
      exact jw_iret (Q := Q) C h dX6_count_63
    · have h := h.2 c1
      by_cases c2 : a1 = (2 : Int32)
      · have h := h.1 c2
        refine jw_tsIn C.1 (2 : Int32) 53 dX6_count_1 c2 (by decide) (by decide) (off := 52) (by decide +kernel) (by decide) ?_
        refine jw_aload_n C.1 dX6_count_53 rfl 0 rfl ?_
        refine jw_getR C.1 iwX6_count_X6 rfl shM_0 rfl 0 (by decide) rfl (List.mem_of_getElem? (i := 1) rfl) dX6_count_54 ?_
        refine jw_iconst C.1 dX6_count_57 ki_2 ?_
        refine jw_iload_n C.1 dX6_count_58 rfl 1 rfl ?_
        refine jw_iadd C.1 dX6_count_59 ?_
        refine jw_iconst C.1 dX6_count_60 ki_1 ?_
        refine jw_isub C.1 dX6_count_61 ?_
        obtain ⟨hi, h⟩ := h
        refine jw_iald C.1 rfl shM_1 hi dX6_count_62 ?_
        exact jw_iret (Q := Q) C h dX6_count_63
      · have h := h.2 c2
        by_cases c3 : a1 = (3 : Int32)
        · have h := h.1 c3
          refine jw_tsIn C.1 (3 : Int32) 53 dX6_count_1 c3 (by decide) (by decide) (off := 52) (by decide +kernel) (by decide) ?_
          refine jw_aload_n C.1 dX6_count_53 rfl 0 rfl ?_
          refine jw_getR C.1 iwX6_count_X6 rfl shM_0 rfl 0 (by decide) rfl (List.mem_of_getElem? (i := 1) rfl) dX6_count_54 ?_
          refine jw_iconst C.1 dX6_count_57 ki_2 ?_
          refine jw_iload_n C.1 dX6_count_58 rfl 1 rfl ?_
          refine jw_iadd C.1 dX6_count_59 ?_
          refine jw_iconst C.1 dX6_count_60 ki_1 ?_
          refine jw_isub C.1 dX6_count_61 ?_
          obtain ⟨hi, h⟩ := h
          refine jw_iald C.1 rfl shM_1 hi dX6_count_62 ?_
          exact jw_iret (Q := Q) C h dX6_count_63
        · have h := h.2 c3
          by_cases c4 : a1 = (4 : Int32)
          · have h := h.1 c4
            refine jw_tsIn C.1 (4 : Int32) 53 dX6_count_1 c4 (by decide) (by decide) (off := 52) (by decide +kernel) (by decide) ?_
            refine jw_aload_n C.1 dX6_count_53 rfl 0 rfl ?_
            refine jw_getR C.1 iwX6_count_X6 rfl shM_0 rfl 0 (by decide) rfl (List.mem_of_getElem? (i := 1) rfl) dX6_count_54 ?_
            refine jw_iconst C.1 dX6_count_57 ki_2 ?_
            refine jw_iload_n C.1 dX6_count_58 rfl 1 rfl ?_
            refine jw_iadd C.1 dX6_count_59 ?_
            refine jw_iconst C.1 dX6_count_60 ki_1 ?_
            refine jw_isub C.1 dX6_count_61 ?_
            obtain ⟨hi, h⟩ := h
            refine jw_iald C.1 rfl shM_1 hi dX6_count_62 ?_
            exact jw_iret (Q := Q) C h dX6_count_63
          · have h := h.2 c4
            by_cases c5 : a1 = (5 : Int32)
            · have h := h.1 c5
              refine jw_tsIn C.1 (5 : Int32) 64 dX6_count_1 c5 (by decide) (by decide) (off := 63) (by decide +kernel) (by decide) ?_
              refine jw_aload_n C.1 dX6_count_64 rfl 0 rfl ?_
              refine jw_cVI (rest := []) C.1 dX6_count_65 em_shM_id (ctX6_present l _ _ h) miX6_present shM_0 rfl gX6_count_X6_present rfl (by decide) rfl rfl rfl (Nat.le_of_ble_eq_true rfl) ⟨Nat.zero_le _, Nat.zero_le _⟩ (fun r3 μ4 h => ?_)
              exact jw_iret (Q := Q) C h dX6_count_68
            · have h := h.2 c5
              by_cases c6 : a1 = (6 : Int32)
              · have h := h.1 c6
                refine jw_tsIn C.1 (6 : Int32) 69 dX6_count_1 c6 (by decide) (by decide) (off := 68) (by decide +kernel) (by decide) ?_
                refine jw_aload_n C.1 dX6_count_69 rfl 0 rfl ?_
                refine jw_getI C.1 iwX6_count_X6 rfl shM_0 rfl 9 (by decide) rfl (List.mem_of_getElem? (i := 2) rfl) dX6_count_70 ?_
                exact jw_iret (Q := Q) C h dX6_count_73
              · have h := h.2 c6
                by_cases c7 : a1 = (7 : Int32)
                · have h := h.1 c7
                  refine jw_tsIn C.1 (7 : Int32) 74 dX6_count_1 c7 (by decide) (by decide) (off := 73) (by decide +kernel) (by decide) ?_
                  refine jw_aload_n C.1 dX6_count_74 rfl 0 rfl ?_
                  refine jw_getI C.1 iwX6_count_X6 rfl shM_0 rfl 2 (by decide) rfl (List.mem_of_getElem? (i := 3) rfl) dX6_count_75 ?_
                  exact jw_iret (Q := Q) C h dX6_count_78
                · have h := h.2 c7
                  refine jw_tsOut C.1 79 dX6_count_1 (by have e0 := lv_neT c0 (a := 0) rfl; have e1 := lv_neT c1 (a := 1) rfl; have e2 := lv_neT c2 (a := 2) rfl; have e3 := lv_neT c3 (a := 3) rfl; have e4 := lv_neT c4 (a := 4) rfl; have e5 := lv_neT c5 (a := 5) rfl; have e6 := lv_neT c6 (a := 6) rfl; have e7 := lv_neT c7 (a := 7) rfl; omega) (by decide) ?_
                  refine jw_iload_n C.1 dX6_count_79 rfl 1 rfl ?_
                  refine jw_bipush C.1 dX6_count_80 kb_8 ?_
                  refine jw_bipush C.1 dX6_count_82 kb_9 ?_
                  refine jw_eSI (rest := []) C.1 dX6_count_84 (ctX6_in l _ _ _ _ h _) miX6_in gX6_count_X6_in (by decide) rfl rfl rfl (Nat.le_of_ble_eq_true rfl) ⟨Nat.zero_le _, Nat.zero_le _⟩ (fun r5 h => ?_)
                  refine jw_if_eq C.1 102 dX6_count_87 (by decide) (fun c => ?_) (fun c => ?_)
                  · have h := h.1 c
                    refine jw_bipush C.1 dX6_count_102 kb_m2 ?_
                    exact jw_iret (Q := Q) C h dX6_count_104
                  · have h := h.2 c
                    refine jw_aload_n C.1 dX6_count_90 rfl 0 rfl ?_
                    refine jw_getR C.1 iwX6_count_X6 rfl shM_0 rfl 0 (by decide) rfl (List.mem_of_getElem? (i := 1) rfl) dX6_count_91 ?_
                    refine jw_iload_n C.1 dX6_count_94 rfl 1 rfl ?_
                    refine jw_bipush C.1 dX6_count_95 kb_8 ?_
                    refine jw_isub C.1 dX6_count_97 ?_
                    obtain ⟨hi, h⟩ := h
                    refine jw_iald C.1 rfl shM_1 hi dX6_count_98 ?_
                    refine jw_goto (tgt := 104) C.1 dX6_count_99 (by decide) ?_
                    exact jw_iret (Q := Q) C h dX6_count_104
set_option maxRecDepth 100000 in
set_option maxHeartbeats 4000000 in
theorem jbX6_empties_2 {K : KT} {l : Launch} {ad : Nat → Nat} {Q : Mem → Prop} (hN : kN K = 3) (C : CtxM K l cX6_empties RX6 wsX6_empties rmX6_empties shM ad none (pV Q)) : ∀ (n : Nat) (x1 : Int32) (x2 : Int32) (μ : Mem), bkX6_empties_2 Q n x1 x2 μ → JW K (0, 0) shM ad μ 2 [(0, .ref (ad 0)), (1, .int x1), (2, .int x2)] [] := by
  have hN_2 : 2 < kN K := by rw [hN]; decide
  intro n
  induction n with
  | zero =>
    intro x1 x2 μ h
    exact h.elim
  | succ n ih =>
    intro x1 x2 μ h
    unfold bkX6_empties_2 at h
    refine jw_iload_n C.1 dX6_empties_2 rfl 2 rfl ?_
    refine jw_iconst C.1 dX6_empties_3 ki_3 ?_
    refine jw_icmp_ge C.1 45 dX6_empties_4 (by decide) (fun c => ?_) (fun c => ?_)
    · have h := h.1 c
      exact jw_vret C h dX6_empties_45
    · have h := h.2 c
      refine jw_iload_n C.1 dX6_empties_7 rfl 1 rfl ?_
      refine jw_if_ne C.1 19 dX6_empties_8 (by decide) (fun c => ?_) (fun c => ?_)
      · have h := h.1 c
        refine jw_iload_n C.1 dX6_empties_19 rfl 1 rfl ?_
        refine jw_iconst C.1 dX6_empties_20 ki_4 ?_
        refine jw_icmp_ge C.1 33 dX6_empties_21 (by decide) (fun c => ?_) (fun c => ?_)
        · have h := h.1 c
          refine jw_aload_n C.1 dX6_empties_33 rfl 0 rfl ?_
          refine jw_iload_n C.1 dX6_empties_34 rfl 1 rfl ?_
          refine jw_iload_n C.1 dX6_empties_35 rfl 2 rfl ?_
          refine jw_cVV (rest := []) C.1 dX6_empties_36 em_shM_id (ctX6_sinksLow l _ _ _ _ h) miX6_sinksLow shM_0 rfl gX6_empties_X6_sinksLow rfl (by decide) rfl rfl rfl (Nat.le_of_ble_eq_true rfl) ⟨Nat.zero_le _, Nat.zero_le _⟩ (fun μ2 h => ?_)
          refine jw_iinc (lw := [(2, .int _), (0, .ref _), (1, .int _)]) (q := 2) C.1 dX6_empties_39 rfl (ai_1 _) hN_2 rfl ?_
          have h := h _ rfl
          refine jw_goto (tgt := 2) C.1 dX6_empties_42 (by decide) ?_
          refine jw_sub [1, 2, 0] rfl ?_
          exact ih _ _ _ h
        · have h := h.2 c
          refine jw_aload_n C.1 dX6_empties_24 rfl 0 rfl ?_
          refine jw_iload_n C.1 dX6_empties_25 rfl 1 rfl ?_
          refine jw_iload_n C.1 dX6_empties_26 rfl 2 rfl ?_
          refine jw_cVV (rest := []) C.1 dX6_empties_27 em_shM_id (ctX6_sinksMiddle l _ _ _ _ h) miX6_sinksMiddle shM_0 rfl gX6_empties_X6_sinksMiddle rfl (by decide) rfl rfl rfl (Nat.le_of_ble_eq_true rfl) ⟨Nat.zero_le _, Nat.zero_le _⟩ (fun μ5 h => ?_)
          refine jw_goto (tgt := 39) C.1 dX6_empties_30 (by decide) ?_
          refine jw_iinc (lw := [(2, .int _), (0, .ref _), (1, .int _)]) (q := 2) C.1 dX6_empties_39 rfl (ai_1 _) hN_2 rfl ?_
          have h := h _ rfl
          refine jw_goto (tgt := 2) C.1 dX6_empties_42 (by decide) ?_
          refine jw_sub [1, 2, 0] rfl ?_
          exact ih _ _ _ h
      · have h := h.2 c
        refine jw_aload_n C.1 dX6_empties_11 rfl 0 rfl ?_
        refine jw_iload_n C.1 dX6_empties_12 rfl 2 rfl ?_
        refine jw_cVV (rest := []) C.1 dX6_empties_13 em_shM_id (ctX6_sinksRoot l _ _ _ h) miX6_sinksRoot shM_0 rfl gX6_empties_X6_sinksRoot rfl (by decide) rfl rfl rfl (Nat.le_of_ble_eq_true rfl) ⟨Nat.zero_le _, Nat.zero_le _⟩ (fun μ8 h => ?_)
        refine jw_goto (tgt := 39) C.1 dX6_empties_16 (by decide) ?_
        refine jw_iinc (lw := [(2, .int _), (0, .ref _), (1, .int _)]) (q := 2) C.1 dX6_empties_39 rfl (ai_1 _) hN_2 rfl ?_
        have h := h _ rfl
        refine jw_goto (tgt := 2) C.1 dX6_empties_42 (by decide) ?_
        refine jw_sub [1, 2, 0] rfl ?_
        exact ih _ _ _ h
set_option maxRecDepth 100000 in
set_option maxHeartbeats 4000000 in
theorem ctX6_empties (l : Launch) (a1 : Int32) (μ : Mem) (Q : Mem → Prop) (h : wpX6_empties a1 μ Q) : Con l yX6_empties wsX6_empties rmX6_empties shM (fun ad => [.ref (ad 0), .int a1]) μ (pV Q) := by
  refine Con.mk (cc := cX6_empties) (maxL := 3) (ret := none) (own := RX6) (by decide) rfl rfl (fun _ => Nat.le_of_ble_eq_true rfl) (fun K ad hN C => ?_)
  show JW K (0, 0) shM ad μ 0 [(0, .ref (ad 0)), (1, .int a1)] []
  have hN_2 : 2 < kN K := by rw [hN]; decide
  unfold wpX6_empties at h
  refine jw_iconst C.1 dX6_empties_0 ki_0 ?_
  refine jw_istore_n (lw := [(2, .int _), (0, .ref _), (1, .int _)]) C.1 dX6_empties_1 rfl hN_2 rfl ?_
  obtain ⟨n, h⟩ := h
  refine jw_sub [1, 2, 0] rfl ?_
  exact jbX6_empties_2 hN C n _ _ _ h
set_option maxRecDepth 100000 in
set_option maxHeartbeats 4000000 in
theorem ctX6_isNode (l : Launch) (a1 : Int32) (Q : Int32 → Prop) (h : wpX6_isNode a1 Q) (μ : Mem) : Con l yX6_isNode wsX6_isNode rmX6_isNode [] (fun _ => [.int a1]) μ (pI (fun r _ => Q r)) := by
  refine Con.mk (cc := cX6_isNode) (maxL := 1) (ret := (some .boolean)) (own := RX6) (by decide) rfl rfl (fun _ => Nat.le_of_ble_eq_true rfl) (fun K ad hN C => ?_)
  show JW K (0, 0) [] ad μ 0 [(0, .int a1)] []
  unfold wpX6_isNode at h
  refine jw_iload_n C.1 dX6_isNode_0 rfl 0 rfl ?_
  refine jw_iconst C.1 dX6_isNode_1 ki_0 ?_
  refine jw_bipush C.1 dX6_isNode_2 kb_12 ?_
  refine jw_eSI (rest := []) C.1 dX6_isNode_4 (ctX6_in l _ _ _ _ h _) miX6_in gX6_isNode_X6_in (by decide) rfl rfl rfl (Nat.le_of_ble_eq_true rfl) ⟨Nat.zero_le _, Nat.zero_le _⟩ (fun r1 h => ?_)
  exact jw_zret (Q := fun r _ => Q r) C (nar_z h.1) h.2 dX6_isNode_7
set_option maxRecDepth 100000 in
set_option maxHeartbeats 4000000 in
theorem ctX6_empty (l : Launch) (a1 : Int32) (μ : Mem) (Q : Int32 → Mem → Prop) (h : wpX6_empty a1 μ Q) : Con l yX6_empty wsX6_empty rmX6_empty shM (fun ad => [.ref (ad 0), .int a1]) μ (pI Q) := by
  refine Con.mk (cc := cX6_empty) (maxL := 2) (ret := (some .int)) (own := RX6) (by decide) rfl rfl (fun _ => Nat.le_of_ble_eq_true rfl) (fun K ad hN C => ?_)
  show JW K (0, 0) shM ad μ 0 [(0, .ref (ad 0)), (1, .int a1)] []
  unfold wpX6_empty at h
  refine jw_iload_n C.1 dX6_empty_0 rfl 1 rfl ?_
  refine jw_eSI (rest := []) C.1 dX6_empty_1 (ctX6_isNode l _ _ h _) miX6_isNode gX6_empty_X6_isNode (by decide) rfl rfl rfl (Nat.le_of_ble_eq_true rfl) ⟨Nat.zero_le _, Nat.zero_le _⟩ (fun r1 h => ?_)
  refine jw_if_ne C.1 9 dX6_empty_4 (by decide) (fun c => ?_) (fun c => ?_)
  · have h := h.1 c
    refine jw_aload_n C.1 dX6_empty_9 rfl 0 rfl ?_
    refine jw_cVV (rest := []) C.1 dX6_empty_10 em_shM_id (ctX6_record l _ _ h) miX6_record shM_0 rfl gX6_empty_X6_record rfl (by decide) rfl rfl rfl (Nat.le_of_ble_eq_true rfl) ⟨Nat.zero_le _, Nat.zero_le _⟩ (fun μ3 h => ?_)
    refine jw_aload_n C.1 dX6_empty_13 rfl 0 rfl ?_
    refine jw_iload_n C.1 dX6_empty_14 rfl 1 rfl ?_
    refine jw_cVV (rest := []) C.1 dX6_empty_15 em_shM_id (ctX6_empties l _ _ _ h) miX6_empties shM_0 rfl gX6_empty_X6_empties rfl (by decide) rfl rfl rfl (Nat.le_of_ble_eq_true rfl) ⟨Nat.zero_le _, Nat.zero_le _⟩ (fun μ5 h => ?_)
    refine jw_aload_n C.1 dX6_empty_18 rfl 0 rfl ?_
    refine jw_cVI (rest := []) C.1 dX6_empty_19 em_shM_id (ctX6_allStones l _ _ h) miX6_allStones shM_0 rfl gX6_empty_X6_allStones rfl (by decide) rfl rfl rfl (Nat.le_of_ble_eq_true rfl) ⟨Nat.zero_le _, Nat.zero_le _⟩ (fun r6 μ7 h => ?_)
    exact jw_iret (Q := Q) C h dX6_empty_22
  · have h := h.2 c
    refine jw_iconst C.1 dX6_empty_7 ki_m1 ?_
    exact jw_iret (Q := Q) C h dX6_empty_8
set_option maxRecDepth 100000 in
set_option maxHeartbeats 4000000 in
theorem ctX6_fault (l : Launch) (μ : Mem) (Q : Int32 → Mem → Prop) (h : wpX6_fault μ Q) : Con l yX6_fault wsX6_fault rmX6_fault shM (fun ad => [.ref (ad 0)]) μ (pI Q) := by
  refine Con.mk (cc := cX6_fault) (maxL := 1) (ret := (some .int)) (own := RX6) (by decide) rfl rfl (fun _ => Nat.le_of_ble_eq_true rfl) (fun K ad hN C => ?_)
  show JW K (0, 0) shM ad μ 0 [(0, .ref (ad 0))] []
  unfold wpX6_fault at h
  refine jw_aload_n C.1 dX6_fault_0 rfl 0 rfl ?_
  refine jw_cVI (rest := []) C.1 dX6_fault_1 em_shM_id (ctX6_faultOf l _ _ h) miX6_faultOf shM_0 rfl gX6_fault_X6_faultOf rfl (by decide) rfl rfl rfl (Nat.le_of_ble_eq_true rfl) ⟨Nat.zero_le _, Nat.zero_le _⟩ (fun r1 μ2 h => ?_)
  exact jw_iret (Q := Q) C h dX6_fault_4
set_option maxRecDepth 100000 in
set_option maxHeartbeats 4000000 in
theorem ctX6_heaviest (l : Launch) (a1 : Int32) (μ : Mem) (Q : Int32 → Mem → Prop) (h : wpX6_heaviest a1 μ Q) : Con l yX6_heaviest wsX6_heaviest rmX6_heaviest shM (fun ad => [.ref (ad 0), .int a1]) μ (pI Q) := by
  refine Con.mk (cc := cX6_heaviest) (maxL := 2) (ret := (some .int)) (own := RX6) (by decide) rfl rfl (fun _ => Nat.le_of_ble_eq_true rfl) (fun K ad hN C => ?_)
  show JW K (0, 0) shM ad μ 0 [(0, .ref (ad 0)), (1, .int a1)] []
  unfold wpX6_heaviest at h
  refine jw_iload_n C.1 dX6_heaviest_0 rfl 1 rfl ?_
  refine jw_eSI (rest := []) C.1 dX6_heaviest_1 (ctX6_isNode l _ _ h _) miX6_isNode gX6_heaviest_X6_isNode (by decide) rfl rfl rfl (Nat.le_of_ble_eq_true rfl) ⟨Nat.zero_le _, Nat.zero_le _⟩ (fun r1 h => ?_)
  refine jw_if_ne C.1 9 dX6_heaviest_4 (by decide) (fun c => ?_) (fun c => ?_)
  · have h := h.1 c
    refine jw_aload_n C.1 dX6_heaviest_9 rfl 0 rfl ?_
    refine jw_getR C.1 iwX6_heaviest_X6 rfl shM_0 rfl 0 (by decide) rfl (List.mem_of_getElem? (i := 1) rfl) dX6_heaviest_10 ?_
    refine jw_bipush C.1 dX6_heaviest_13 kb_72 ?_
    refine jw_iload_n C.1 dX6_heaviest_15 rfl 1 rfl ?_
    refine jw_iadd C.1 dX6_heaviest_16 ?_
    obtain ⟨hi, h⟩ := h
    refine jw_iald C.1 rfl shM_1 hi dX6_heaviest_17 ?_
    refine jw_if_ne C.1 26 dX6_heaviest_18 (by decide) (fun c => ?_) (fun c => ?_)
    · have h := h.1 c
      refine jw_iload_n C.1 dX6_heaviest_26 rfl 1 rfl ?_
      refine jw_aload_n C.1 dX6_heaviest_27 rfl 0 rfl ?_
      refine jw_iload_n C.1 dX6_heaviest_28 rfl 1 rfl ?_
      refine jw_cVI (rest := [.int _]) C.1 dX6_heaviest_29 em_shM_id (ctX6_chosen l _ _ _ h) miX6_chosen shM_0 rfl gX6_heaviest_X6_chosen rfl (by decide) rfl rfl rfl (Nat.le_of_ble_eq_true rfl) ⟨Nat.zero_le _, Nat.zero_le _⟩ (fun r2 μ3 h => ?_)
      refine jw_eSI (rest := []) C.1 dX6_heaviest_32 (ctX6_childOf l _ _ _ h _) miX6_childOf gX6_heaviest_X6_childOf (by decide) rfl rfl rfl (Nat.le_of_ble_eq_true rfl) ⟨Nat.zero_le _, Nat.zero_le _⟩ (fun r4 h => ?_)
      exact jw_iret (Q := Q) C h dX6_heaviest_35
    · have h := h.2 c
      refine jw_bipush C.1 dX6_heaviest_21 kb_m6 ?_
      refine jw_goto (tgt := 35) C.1 dX6_heaviest_23 (by decide) ?_
      exact jw_iret (Q := Q) C h dX6_heaviest_35
  · have h := h.2 c
    refine jw_iconst C.1 dX6_heaviest_7 ki_m1 ?_
    exact jw_iret (Q := Q) C h dX6_heaviest_8
set_option maxRecDepth 100000 in
set_option maxHeartbeats 4000000 in
theorem ctX6_isKey (l : Launch) (a1 : Int32) (Q : Int32 → Prop) (h : wpX6_isKey a1 Q) (μ : Mem) : Con l yX6_isKey wsX6_isKey rmX6_isKey [] (fun _ => [.int a1]) μ (pI (fun r _ => Q r)) := by
  refine Con.mk (cc := cX6_isKey) (maxL := 1) (ret := (some .boolean)) (own := RX6) (by decide) rfl rfl (fun _ => Nat.le_of_ble_eq_true rfl) (fun K ad hN C => ?_)
  show JW K (0, 0) [] ad μ 0 [(0, .int a1)] []
  unfold wpX6_isKey at h
  refine jw_iload_n C.1 dX6_isKey_0 rfl 0 rfl ?_
  refine jw_iconst C.1 dX6_isKey_1 ki_0 ?_
  refine jw_bipush C.1 dX6_isKey_2 kb_26 ?_
  refine jw_eSI (rest := []) C.1 dX6_isKey_4 (ctX6_in l _ _ _ _ h _) miX6_in gX6_isKey_X6_in (by decide) rfl rfl rfl (Nat.le_of_ble_eq_true rfl) ⟨Nat.zero_le _, Nat.zero_le _⟩ (fun r1 h => ?_)
  exact jw_zret (Q := fun r _ => Q r) C (nar_z h.1) h.2 dX6_isKey_7
set_option maxRecDepth 100000 in
set_option maxHeartbeats 4000000 in
theorem jbX6_layAside_2 {K : KT} {l : Launch} {ad : Nat → Nat} {Q : Mem → Prop} (hN : kN K = 2) (C : CtxM K l cX6_layAside RX6 wsX6_layAside rmX6_layAside shM ad none (pV Q)) : ∀ (n : Nat) (x1 : Int32) (μ : Mem), bkX6_layAside_2 Q n x1 μ → JW K (0, 0) shM ad μ 2 [(0, .ref (ad 0)), (1, .int x1)] [] := by
  have hN_1 : 1 < kN K := by rw [hN]; decide
  intro n
  induction n with
  | zero =>
    intro x1 μ h
    exact h.elim
  | succ n ih =>
    intro x1 μ h
    unfold bkX6_layAside_2 at h
    refine jw_iload_n C.1 dX6_layAside_2 rfl 1 rfl ?_
    refine jw_sipush C.1 dX6_layAside_3 ks_1333 ?_
    refine jw_icmp_ge C.1 27 dX6_layAside_6 (by decide) (fun c => ?_) (fun c => ?_)
    · have h := h.1 c
      exact jw_vret C h dX6_layAside_27
    · have h := h.2 c
      refine jw_aload_n C.1 dX6_layAside_9 rfl 0 rfl ?_
      refine jw_getR C.1 iwX6_layAside_X6 rfl shM_0 rfl 5 (by decide) rfl (List.mem_of_getElem? (i := 1) rfl) dX6_layAside_10 ?_
      refine jw_iload_n C.1 dX6_layAside_13 rfl 1 rfl ?_
      refine jw_aload_n C.1 dX6_layAside_14 rfl 0 rfl ?_
      refine jw_getR C.1 iwX6_layAside_X6 rfl shM_0 rfl 0 (by decide) rfl (List.mem_of_getElem? (i := 2) rfl) dX6_layAside_15 ?_
      refine jw_iload_n C.1 dX6_layAside_18 rfl 1 rfl ?_
      obtain ⟨hi, h⟩ := h
      refine jw_iald C.1 rfl shM_1 hi dX6_layAside_19 ?_
      obtain ⟨hi, h⟩ := h
      refine jw_iast C.1 rfl shM_5 hi dX6_layAside_20 ?_
      have h := h _ rfl
      refine jw_iinc (lw := [(1, .int _), (0, .ref _)]) (q := 1) C.1 dX6_layAside_21 rfl (ai_1 _) hN_1 rfl ?_
      have h := h _ rfl
      refine jw_goto (tgt := 2) C.1 dX6_layAside_24 (by decide) ?_
      refine jw_sub [1, 0] rfl ?_
      exact ih _ _ h
set_option maxRecDepth 100000 in
set_option maxHeartbeats 4000000 in
theorem ctX6_layAside (l : Launch) (μ : Mem) (Q : Mem → Prop) (h : wpX6_layAside μ Q) : Con l yX6_layAside wsX6_layAside rmX6_layAside shM (fun ad => [.ref (ad 0)]) μ (pV Q) := by
  refine Con.mk (cc := cX6_layAside) (maxL := 2) (ret := none) (own := RX6) (by decide) rfl rfl (fun _ => Nat.le_of_ble_eq_true rfl) (fun K ad hN C => ?_)
  show JW K (0, 0) shM ad μ 0 [(0, .ref (ad 0))] []
  have hN_1 : 1 < kN K := by rw [hN]; decide
  unfold wpX6_layAside at h
  refine jw_iconst C.1 dX6_layAside_0 ki_0 ?_
  refine jw_istore_n (lw := [(1, .int _), (0, .ref _)]) C.1 dX6_layAside_1 rfl hN_1 rfl ?_
  obtain ⟨n, h⟩ := h
  refine jw_sub [1, 0] rfl ?_
  exact jbX6_layAside_2 hN C n _ _ h
set_option maxRecDepth 100000 in
set_option maxHeartbeats 4000000 in
theorem jbX6_with_5 {K : KT} {l : Launch} {ad : Nat → Nat} {Q : Int32 → Mem → Prop} (hN : kN K = 5) (C : CtxM K l cX6_with RX6 wsX6_with rmX6_with shM ad (some .int) (pI Q)) : ∀ (n : Nat) (x1 : Int32) (x2 : Int32) (x3 : Int32) (x4 : Int32) (μ : Mem), bkX6_with_5 Q n x1 x2 x3 x4 μ → JW K (0, 0) shM ad μ 5 [(0, .ref (ad 0)), (1, .int x1), (2, .int x2), (3, .int x3), (4, .int x4)] [] := by
  have hN_3 : 3 < kN K := by rw [hN]; decide
  have hN_4 : 4 < kN K := by rw [hN]; decide
  intro n
  induction n with
  | zero =>
    intro x1 x2 x3 x4 μ h
    exact h.elim
  | succ n ih =>
    intro x1 x2 x3 x4 μ h
    unfold bkX6_with_5 at h
    refine jw_iload C.1 dX6_with_5 4 rfl ?_
    refine jw_aload_n C.1 dX6_with_7 rfl 0 rfl ?_
    refine jw_getR C.1 iwX6_with_X6 rfl shM_0 rfl 0 (by decide) rfl (List.mem_of_getElem? (i := 1) rfl) dX6_with_8 ?_
    refine jw_bipush C.1 dX6_with_11 kb_72 ?_
    refine jw_iload_n C.1 dX6_with_13 rfl 1 rfl ?_
    refine jw_iadd C.1 dX6_with_14 ?_
    obtain ⟨hi, h⟩ := h
    refine jw_iald C.1 rfl shM_1 hi dX6_with_15 ?_
    refine jw_icmp_ge C.1 48 dX6_with_16 (by decide) (fun c => ?_) (fun c => ?_)
    · have h := h.1 c
      refine jw_iload_n C.1 dX6_with_48 rfl 3 rfl ?_
      exact jw_iret (Q := Q) C h dX6_with_49
    · have h := h.2 c
      refine jw_iload_n C.1 dX6_with_19 rfl 3 rfl ?_
      refine jw_aload_n C.1 dX6_with_20 rfl 0 rfl ?_
      refine jw_iload_n C.1 dX6_with_21 rfl 1 rfl ?_
      refine jw_iload C.1 dX6_with_22 4 rfl ?_
      refine jw_eSI (rest := [.ref _, .int _]) C.1 dX6_with_24 (ctX6_place l _ _ _ h _) miX6_place gX6_with_X6_place (by decide) rfl rfl rfl (Nat.le_of_ble_eq_true rfl) ⟨Nat.zero_le _, Nat.zero_le _⟩ (fun r1 h => ?_)
      refine jw_iload_n C.1 dX6_with_27 rfl 2 rfl ?_
      refine jw_iload_n C.1 dX6_with_28 rfl 2 rfl ?_
      refine jw_cVI (rest := [.int _]) C.1 dX6_with_29 em_shM_id (ctX6_has l _ _ _ _ _ h) miX6_has shM_0 rfl gX6_with_X6_has rfl (by decide) rfl rfl rfl (Nat.le_of_ble_eq_true rfl) ⟨Nat.zero_le _, Nat.zero_le _⟩ (fun r2 μ3 h => ?_)
      refine jw_if_eq C.1 39 dX6_with_32 (by decide) (fun c => ?_) (fun c => ?_)
      · have h := h.1 c
        refine jw_iconst C.1 dX6_with_39 ki_0 ?_
        refine jw_iadd C.1 dX6_with_40 ?_
        refine jw_istore_n (lw := [(3, .int _), (0, .ref _), (1, .int _), (2, .int _), (4, .int _)]) C.1 dX6_with_41 rfl hN_3 rfl ?_
        have h := h _ rfl
        refine jw_iinc (lw := [(4, .int _), (3, .int _), (0, .ref _), (1, .int _), (2, .int _)]) (q := 4) C.1 dX6_with_42 rfl (ai_1 _) hN_4 rfl ?_
        have h := h _ rfl
        refine jw_goto (tgt := 5) C.1 dX6_with_45 (by decide) ?_
        refine jw_sub [2, 3, 4, 1, 0] rfl ?_
        exact ih _ _ _ _ _ h
      · have h := h.2 c
        refine jw_iconst C.1 dX6_with_35 ki_1 ?_
        refine jw_goto (tgt := 40) C.1 dX6_with_36 (by decide) ?_
        refine jw_iadd C.1 dX6_with_40 ?_
        refine jw_istore_n (lw := [(3, .int _), (0, .ref _), (1, .int _), (2, .int _), (4, .int _)]) C.1 dX6_with_41 rfl hN_3 rfl ?_
        have h := h _ rfl
        refine jw_iinc (lw := [(4, .int _), (3, .int _), (0, .ref _), (1, .int _), (2, .int _)]) (q := 4) C.1 dX6_with_42 rfl (ai_1 _) hN_4 rfl ?_
        have h := h _ rfl
        refine jw_goto (tgt := 5) C.1 dX6_with_45 (by decide) ?_
        refine jw_sub [2, 3, 4, 1, 0] rfl ?_
        exact ih _ _ _ _ _ h
set_option maxRecDepth 100000 in
set_option maxHeartbeats 4000000 in
theorem ctX6_with (l : Launch) (a1 : Int32) (a2 : Int32) (μ : Mem) (Q : Int32 → Mem → Prop) (h : wpX6_with a1 a2 μ Q) : Con l yX6_with wsX6_with rmX6_with shM (fun ad => [.ref (ad 0), .int a1, .int a2]) μ (pI Q) := by
  refine Con.mk (cc := cX6_with) (maxL := 5) (ret := (some .int)) (own := RX6) (by decide) rfl rfl (fun _ => Nat.le_of_ble_eq_true rfl) (fun K ad hN C => ?_)
  show JW K (0, 0) shM ad μ 0 [(0, .ref (ad 0)), (1, .int a1), (2, .int a2)] []
  have hN_3 : 3 < kN K := by rw [hN]; decide
  have hN_4 : 4 < kN K := by rw [hN]; decide
  unfold wpX6_with at h
  refine jw_iconst C.1 dX6_with_0 ki_0 ?_
  refine jw_istore_n (lw := [(3, .int _), (0, .ref _), (1, .int _), (2, .int _)]) C.1 dX6_with_1 rfl hN_3 rfl ?_
  refine jw_iconst C.1 dX6_with_2 ki_0 ?_
  refine jw_istore (lw := [(4, .int _), (3, .int _), (0, .ref _), (1, .int _), (2, .int _)]) C.1 dX6_with_3 hN_4 rfl ?_
  obtain ⟨n, h⟩ := h
  refine jw_sub [2, 3, 4, 1, 0] rfl ?_
  exact jbX6_with_5 hN C n _ _ _ _ _ h
set_option maxRecDepth 100000 in
set_option maxHeartbeats 4000000 in
theorem ctX6_ofKey (l : Launch) (a1 : Int32) (a2 : Int32) (μ : Mem) (Q : Int32 → Mem → Prop) (h : wpX6_ofKey a1 a2 μ Q) : Con l yX6_ofKey wsX6_ofKey rmX6_ofKey shM (fun ad => [.ref (ad 0), .int a1, .int a2]) μ (pI Q) := by
  refine Con.mk (cc := cX6_ofKey) (maxL := 5) (ret := (some .int)) (own := RX6) (by decide) rfl rfl (fun _ => Nat.le_of_ble_eq_true rfl) (fun K ad hN C => ?_)
  show JW K (0, 0) shM ad μ 0 [(0, .ref (ad 0)), (1, .int a1), (2, .int a2)] []
  have hN_3 : 3 < kN K := by rw [hN]; decide
  have hN_4 : 4 < kN K := by rw [hN]; decide
  unfold wpX6_ofKey at h
  refine jw_iload_n C.1 dX6_ofKey_0 rfl 1 rfl ?_
  refine jw_eSI (rest := []) C.1 dX6_ofKey_1 (ctX6_isKey l _ _ h _) miX6_isKey gX6_ofKey_X6_isKey (by decide) rfl rfl rfl (Nat.le_of_ble_eq_true rfl) ⟨Nat.zero_le _, Nat.zero_le _⟩ (fun r1 h => ?_)
  refine jw_if_ne C.1 9 dX6_ofKey_4 (by decide) (fun c => ?_) (fun c => ?_)
  · have h := h.1 c
    refine jw_iconst C.1 dX6_ofKey_9 ki_4 ?_
    refine jw_iload_n C.1 dX6_ofKey_10 rfl 1 rfl ?_
    refine jw_iconst C.1 dX6_ofKey_11 ki_3 ?_
    refine jw_idiv C.1 dX6_ofKey_12 (by decide) ?_
    refine jw_iadd C.1 dX6_ofKey_13 ?_
    refine jw_istore_n (lw := [(3, .int _), (0, .ref _), (1, .int _), (2, .int _)]) C.1 dX6_ofKey_14 rfl hN_3 rfl ?_
    have h := h _ rfl
    refine jw_iconst C.1 dX6_ofKey_15 ki_1 ?_
    refine jw_iload_n C.1 dX6_ofKey_16 rfl 2 rfl ?_
    refine jw_bipush C.1 dX6_ofKey_17 kb_9 ?_
    refine jw_idiv C.1 dX6_ofKey_19 (by decide) ?_
    refine jw_iadd C.1 dX6_ofKey_20 ?_
    refine jw_istore (lw := [(4, .int _), (3, .int _), (0, .ref _), (1, .int _), (2, .int _)]) C.1 dX6_ofKey_21 hN_4 rfl ?_
    have h := h _ rfl
    refine jw_iload_n C.1 dX6_ofKey_23 rfl 4 rfl ?_
    by_cases c0 : a2 = (0 : Int32)
    · have h := h.1 c0
      refine jw_tsIn C.1 (0 : Int32) 56 dX6_ofKey_24 c0 (by decide) (by decide) (off := 32) (by decide +kernel) (by decide) ?_
      refine jw_aload_n C.1 dX6_ofKey_56 rfl 2 rfl ?_
      refine jw_getR C.1 iwX6_ofKey_X6 rfl shM_0 rfl 0 (by decide) rfl (List.mem_of_getElem? (i := 1) rfl) dX6_ofKey_57 ?_
      refine jw_bipush C.1 dX6_ofKey_60 kb_6 ?_
      refine jw_iload_n C.1 dX6_ofKey_62 rfl 3 rfl ?_
      refine jw_iadd C.1 dX6_ofKey_63 ?_
      obtain ⟨hi, h⟩ := h
      refine jw_iald C.1 rfl shM_1 hi dX6_ofKey_64 ?_
      exact jw_iret (Q := Q) C h dX6_ofKey_65
    · have h := h.2 c0
      by_cases c1 : a2 = (1 : Int32)
      · have h := h.1 c1
        refine jw_tsIn C.1 (1 : Int32) 66 dX6_ofKey_24 c1 (by decide) (by decide) (off := 42) (by decide +kernel) (by decide) ?_
        refine jw_aload_n C.1 dX6_ofKey_66 rfl 2 rfl ?_
        refine jw_iload_n C.1 dX6_ofKey_67 rfl 3 rfl ?_
        refine jw_cVI (rest := []) C.1 dX6_ofKey_68 em_shM_id (ctX6_readOf l _ _ _ h) miX6_readOf shM_0 rfl gX6_ofKey_X6_readOf rfl (by decide) rfl rfl rfl (Nat.le_of_ble_eq_true rfl) ⟨Nat.zero_le _, Nat.zero_le _⟩ (fun r4 μ5 h => ?_)
        exact jw_iret (Q := Q) C h dX6_ofKey_71
      · have h := h.2 c1
        by_cases c2 : a2 = (2 : Int32)
        · have h := h.1 c2
          refine jw_tsIn C.1 (2 : Int32) 72 dX6_ofKey_24 c2 (by decide) (by decide) (off := 48) (by decide +kernel) (by decide) ?_
          refine jw_aload_n C.1 dX6_ofKey_72 rfl 2 rfl ?_
          refine jw_iload_n C.1 dX6_ofKey_73 rfl 1 rfl ?_
          refine jw_iload_n C.1 dX6_ofKey_74 rfl 3 rfl ?_
          refine jw_cVI (rest := []) C.1 dX6_ofKey_75 em_shM_id (ctX6_with l _ _ _ _ h) miX6_with shM_0 rfl gX6_ofKey_X6_with rfl (by decide) rfl rfl rfl (Nat.le_of_ble_eq_true rfl) ⟨Nat.zero_le _, Nat.zero_le _⟩ (fun r6 μ7 h => ?_)
          refine jw_aload_n C.1 dX6_ofKey_78 rfl 2 rfl ?_
          refine jw_iload C.1 dX6_ofKey_79 0 rfl ?_
          refine jw_iload_n C.1 dX6_ofKey_81 rfl 3 rfl ?_
          refine jw_cVI (rest := [.int _]) C.1 dX6_ofKey_82 em_shM_id (ctX6_with l _ _ _ _ h) miX6_with shM_0 rfl gX6_ofKey_X6_with rfl (by decide) rfl rfl rfl (Nat.le_of_ble_eq_true rfl) ⟨Nat.zero_le _, Nat.zero_le _⟩ (fun r8 μ9 h => ?_)
          refine jw_iadd C.1 dX6_ofKey_85 ?_
          refine jw_aload_n C.1 dX6_ofKey_86 rfl 2 rfl ?_
          refine jw_iconst C.1 dX6_ofKey_87 ki_0 ?_
          refine jw_iload_n C.1 dX6_ofKey_88 rfl 3 rfl ?_
          refine jw_cVI (rest := [.int _]) C.1 dX6_ofKey_89 em_shM_id (ctX6_with l _ _ _ _ h) miX6_with shM_0 rfl gX6_ofKey_X6_with rfl (by decide) rfl rfl rfl (Nat.le_of_ble_eq_true rfl) ⟨Nat.zero_le _, Nat.zero_le _⟩ (fun r10 μ11 h => ?_)
          refine jw_iadd C.1 dX6_ofKey_92 ?_
          exact jw_iret (Q := Q) C h dX6_ofKey_93
        · have h := h.2 c2
          by_cases c3 : a2 = (3 : Int32)
          · have h := h.1 c3
            refine jw_tsIn C.1 (3 : Int32) 94 dX6_ofKey_24 c3 (by decide) (by decide) (off := 70) (by decide +kernel) (by decide) ?_
            refine jw_aload_n C.1 dX6_ofKey_94 rfl 2 rfl ?_
            refine jw_iload_n C.1 dX6_ofKey_95 rfl 1 rfl ?_
            refine jw_iload_n C.1 dX6_ofKey_96 rfl 3 rfl ?_
            refine jw_cVI (rest := []) C.1 dX6_ofKey_97 em_shM_id (ctX6_with l _ _ _ _ h) miX6_with shM_0 rfl gX6_ofKey_X6_with rfl (by decide) rfl rfl rfl (Nat.le_of_ble_eq_true rfl) ⟨Nat.zero_le _, Nat.zero_le _⟩ (fun r12 μ13 h => ?_)
            refine jw_if_le C.1 107 dX6_ofKey_100 (by decide) (fun c => ?_) (fun c => ?_)
            · have h := h.1 c
              refine jw_aload_n C.1 dX6_ofKey_107 rfl 2 rfl ?_
              refine jw_iload C.1 dX6_ofKey_108 0 rfl ?_
              refine jw_iload_n C.1 dX6_ofKey_110 rfl 3 rfl ?_
              refine jw_cVI (rest := []) C.1 dX6_ofKey_111 em_shM_id (ctX6_with l _ _ _ _ h) miX6_with shM_0 rfl gX6_ofKey_X6_with rfl (by decide) rfl rfl rfl (Nat.le_of_ble_eq_true rfl) ⟨Nat.zero_le _, Nat.zero_le _⟩ (fun r14 μ15 h => ?_)
              refine jw_if_le C.1 122 dX6_ofKey_114 (by decide) (fun c => ?_) (fun c => ?_)
              · have h := h.1 c
                refine jw_aload_n C.1 dX6_ofKey_122 rfl 2 rfl ?_
                refine jw_iconst C.1 dX6_ofKey_123 ki_0 ?_
                refine jw_iload_n C.1 dX6_ofKey_124 rfl 3 rfl ?_
                refine jw_cVI (rest := []) C.1 dX6_ofKey_125 em_shM_id (ctX6_with l _ _ _ _ h) miX6_with shM_0 rfl gX6_ofKey_X6_with rfl (by decide) rfl rfl rfl (Nat.le_of_ble_eq_true rfl) ⟨Nat.zero_le _, Nat.zero_le _⟩ (fun r16 μ17 h => ?_)
                refine jw_if_le C.1 135 dX6_ofKey_128 (by decide) (fun c => ?_) (fun c => ?_)
                · have h := h.1 c
                  refine jw_bipush C.1 dX6_ofKey_135 kb_m6 ?_
                  exact jw_iret (Q := Q) C h dX6_ofKey_137
                · have h := h.2 c
                  refine jw_iconst C.1 dX6_ofKey_131 ki_0 ?_
                  refine jw_goto (tgt := 137) C.1 dX6_ofKey_132 (by decide) ?_
                  exact jw_iret (Q := Q) C h dX6_ofKey_137
              · have h := h.2 c
                refine jw_iload C.1 dX6_ofKey_117 0 rfl ?_
                refine jw_goto (tgt := 137) C.1 dX6_ofKey_119 (by decide) ?_
                exact jw_iret (Q := Q) C h dX6_ofKey_137
            · have h := h.2 c
              refine jw_iload_n C.1 dX6_ofKey_103 rfl 1 rfl ?_
              refine jw_goto (tgt := 137) C.1 dX6_ofKey_104 (by decide) ?_
              exact jw_iret (Q := Q) C h dX6_ofKey_137
          · have h := h.2 c3
            refine jw_tsOut C.1 138 dX6_ofKey_24 (by have e0 := lv_neT c0 (a := 0) rfl; have e1 := lv_neT c1 (a := 1) rfl; have e2 := lv_neT c2 (a := 2) rfl; have e3 := lv_neT c3 (a := 3) rfl; omega) (by decide) ?_
            refine jw_bipush C.1 dX6_ofKey_138 kb_m2 ?_
            exact jw_iret (Q := Q) C h dX6_ofKey_140
  · have h := h.2 c
    refine jw_iconst C.1 dX6_ofKey_7 ki_m1 ?_
    exact jw_iret (Q := Q) C h dX6_ofKey_8
set_option maxRecDepth 100000 in
set_option maxHeartbeats 4000000 in
theorem ctX6_ofNode (l : Launch) (a1 : Int32) (a2 : Int32) (μ : Mem) (Q : Int32 → Mem → Prop) (h : wpX6_ofNode a1 a2 μ Q) : Con l yX6_ofNode wsX6_ofNode rmX6_ofNode shM (fun ad => [.ref (ad 0), .int a1, .int a2]) μ (pI Q) := by
  refine Con.mk (cc := cX6_ofNode) (maxL := 3) (ret := (some .int)) (own := RX6) (by decide) rfl rfl (fun _ => Nat.le_of_ble_eq_true rfl) (fun K ad hN C => ?_)
  show JW K (0, 0) shM ad μ 0 [(0, .ref (ad 0)), (1, .int a1), (2, .int a2)] []
  unfold wpX6_ofNode at h
  refine jw_iload_n C.1 dX6_ofNode_0 rfl 1 rfl ?_
  refine jw_eSI (rest := []) C.1 dX6_ofNode_1 (ctX6_isNode l _ _ h _) miX6_isNode gX6_ofNode_X6_isNode (by decide) rfl rfl rfl (Nat.le_of_ble_eq_true rfl) ⟨Nat.zero_le _, Nat.zero_le _⟩ (fun r1 h => ?_)
  refine jw_if_ne C.1 9 dX6_ofNode_4 (by decide) (fun c => ?_) (fun c => ?_)
  · have h := h.1 c
    refine jw_iload_n C.1 dX6_ofNode_9 rfl 2 rfl ?_
    by_cases c0 : a2 = (0 : Int32)
    · have h := h.1 c0
      refine jw_tsIn C.1 (0 : Int32) 48 dX6_ofNode_10 c0 (by decide) (by decide) (off := 38) (by decide +kernel) (by decide) ?_
      refine jw_aload_n C.1 dX6_ofNode_48 rfl 0 rfl ?_
      refine jw_getR C.1 iwX6_ofNode_X6 rfl shM_0 rfl 0 (by decide) rfl (List.mem_of_getElem? (i := 1) rfl) dX6_ofNode_49 ?_
      refine jw_bipush C.1 dX6_ofNode_52 kb_72 ?_
      refine jw_iload_n C.1 dX6_ofNode_54 rfl 1 rfl ?_
      refine jw_iadd C.1 dX6_ofNode_55 ?_
      obtain ⟨hi, h⟩ := h
      refine jw_iald C.1 rfl shM_1 hi dX6_ofNode_56 ?_
      exact jw_iret (Q := Q) C h dX6_ofNode_57
    · have h := h.2 c0
      by_cases c1 : a2 = (1 : Int32)
      · have h := h.1 c1
        refine jw_tsIn C.1 (1 : Int32) 58 dX6_ofNode_10 c1 (by decide) (by decide) (off := 48) (by decide +kernel) (by decide) ?_
        refine jw_iload_n C.1 dX6_ofNode_58 rfl 1 rfl ?_
        refine jw_eSI (rest := []) C.1 dX6_ofNode_59 (ctX6_firstOf l _ _ h _) miX6_firstOf gX6_ofNode_X6_firstOf (by decide) rfl rfl rfl (Nat.le_of_ble_eq_true rfl) ⟨Nat.zero_le _, Nat.zero_le _⟩ (fun r2 h => ?_)
        exact jw_iret (Q := Q) C h dX6_ofNode_62
      · have h := h.2 c1
        by_cases c2 : a2 = (2 : Int32)
        · have h := h.1 c2
          refine jw_tsIn C.1 (2 : Int32) 63 dX6_ofNode_10 c2 (by decide) (by decide) (off := 53) (by decide +kernel) (by decide) ?_
          refine jw_iload_n C.1 dX6_ofNode_63 rfl 1 rfl ?_
          refine jw_eSI (rest := []) C.1 dX6_ofNode_64 (ctX6_firstOf l _ _ h _) miX6_firstOf gX6_ofNode_X6_firstOf (by decide) rfl rfl rfl (Nat.le_of_ble_eq_true rfl) ⟨Nat.zero_le _, Nat.zero_le _⟩ (fun r3 h => ?_)
          refine jw_iconst C.1 dX6_ofNode_67 ki_3 ?_
          refine jw_iload_n C.1 dX6_ofNode_68 rfl 1 rfl ?_
          refine jw_eSI (rest := [.int _, .int _]) C.1 dX6_ofNode_69 (ctX6_part l _ _ h _) miX6_part gX6_ofNode_X6_part (by decide) rfl rfl rfl (Nat.le_of_ble_eq_true rfl) ⟨Nat.zero_le _, Nat.zero_le _⟩ (fun r4 h => ?_)
          refine jw_imul C.1 dX6_ofNode_72 ?_
          refine jw_iadd C.1 dX6_ofNode_73 ?_
          refine jw_iconst C.1 dX6_ofNode_74 ki_1 ?_
          refine jw_isub C.1 dX6_ofNode_75 ?_
          exact jw_iret (Q := Q) C h dX6_ofNode_76
        · have h := h.2 c2
          by_cases c3 : a2 = (3 : Int32)
          · have h := h.1 c3
            refine jw_tsIn C.1 (3 : Int32) 77 dX6_ofNode_10 c3 (by decide) (by decide) (off := 67) (by decide +kernel) (by decide) ?_
            refine jw_aload_n C.1 dX6_ofNode_77 rfl 0 rfl ?_
            refine jw_getR C.1 iwX6_ofNode_X6 rfl shM_0 rfl 0 (by decide) rfl (List.mem_of_getElem? (i := 1) rfl) dX6_ofNode_78 ?_
            refine jw_bipush C.1 dX6_ofNode_81 kb_33 ?_
            refine jw_iload_n C.1 dX6_ofNode_83 rfl 1 rfl ?_
            refine jw_iadd C.1 dX6_ofNode_84 ?_
            obtain ⟨hi, h⟩ := h
            refine jw_iald C.1 rfl shM_1 hi dX6_ofNode_85 ?_
            exact jw_iret (Q := Q) C h dX6_ofNode_86
          · have h := h.2 c3
            by_cases c4 : a2 = (4 : Int32)
            · have h := h.1 c4
              refine jw_tsIn C.1 (4 : Int32) 87 dX6_ofNode_10 c4 (by decide) (by decide) (off := 77) (by decide +kernel) (by decide) ?_
              refine jw_aload_n C.1 dX6_ofNode_87 rfl 0 rfl ?_
              refine jw_getR C.1 iwX6_ofNode_X6 rfl shM_0 rfl 0 (by decide) rfl (List.mem_of_getElem? (i := 1) rfl) dX6_ofNode_88 ?_
              refine jw_bipush C.1 dX6_ofNode_91 kb_46 ?_
              refine jw_iload_n C.1 dX6_ofNode_93 rfl 1 rfl ?_
              refine jw_iadd C.1 dX6_ofNode_94 ?_
              obtain ⟨hi, h⟩ := h
              refine jw_iald C.1 rfl shM_1 hi dX6_ofNode_95 ?_
              exact jw_iret (Q := Q) C h dX6_ofNode_96
            · have h := h.2 c4
              by_cases c5 : a2 = (5 : Int32)
              · have h := h.1 c5
                refine jw_tsIn C.1 (5 : Int32) 97 dX6_ofNode_10 c5 (by decide) (by decide) (off := 87) (by decide +kernel) (by decide) ?_
                refine jw_aload_n C.1 dX6_ofNode_97 rfl 0 rfl ?_
                refine jw_getR C.1 iwX6_ofNode_X6 rfl shM_0 rfl 0 (by decide) rfl (List.mem_of_getElem? (i := 1) rfl) dX6_ofNode_98 ?_
                refine jw_bipush C.1 dX6_ofNode_101 kb_59 ?_
                refine jw_iload_n C.1 dX6_ofNode_103 rfl 1 rfl ?_
                refine jw_iadd C.1 dX6_ofNode_104 ?_
                obtain ⟨hi, h⟩ := h
                refine jw_iald C.1 rfl shM_1 hi dX6_ofNode_105 ?_
                exact jw_iret (Q := Q) C h dX6_ofNode_106
              · have h := h.2 c5
                refine jw_tsOut C.1 107 dX6_ofNode_10 (by have e0 := lv_neT c0 (a := 0) rfl; have e1 := lv_neT c1 (a := 1) rfl; have e2 := lv_neT c2 (a := 2) rfl; have e3 := lv_neT c3 (a := 3) rfl; have e4 := lv_neT c4 (a := 4) rfl; have e5 := lv_neT c5 (a := 5) rfl; omega) (by decide) ?_
                refine jw_bipush C.1 dX6_ofNode_107 kb_m2 ?_
                exact jw_iret (Q := Q) C h dX6_ofNode_109
  · have h := h.2 c
    refine jw_iconst C.1 dX6_ofNode_7 ki_m1 ?_
    exact jw_iret (Q := Q) C h dX6_ofNode_8
set_option maxRecDepth 100000 in
set_option maxHeartbeats 4000000 in
theorem jbX6_put_85 {K : KT} {l : Launch} {ad : Nat → Nat} {Q : Int32 → Mem → Prop} (hN : kN K = 7) (C : CtxM K l cX6_put RX6 wsX6_put rmX6_put shM ad (some .int) (pI Q)) : ∀ (n : Nat) (x3 : Int32) (x4 : Int64) (x6 : Int32) (μ : Mem), bkX6_put_85 Q n x3 x4 x6 μ → JW K (0, 0) shM ad μ 85 [(0, .ref (ad 0)), (3, .int x3), (4, .long x4), (6, .int x6)] [] := by
  have hN_3 : 3 < kN K := by rw [hN]; decide
  have hN_5 : 5 < kN K := by rw [hN]; decide
  have hN_6 : 6 < kN K := by rw [hN]; decide
  intro n
  induction n with
  | zero =>
    intro x3 x4 x6 μ h
    exact h.elim
  | succ n ih =>
    intro x3 x4 x6 μ h
    unfold bkX6_put_85 at h
    refine jw_iload C.1 dX6_put_85 3 rfl ?_
    refine jw_if_lt C.1 122 dX6_put_87 (by decide) (fun c => ?_) (fun c => ?_)
    · have h := h.1 c
      refine jw_aload_n C.1 dX6_put_122 rfl 0 rfl ?_
      refine jw_dup C.1 dX6_put_123 rfl ?_
      refine jw_getI C.1 iwX6_put_X6 rfl shM_0 rfl 9 (by decide) rfl (List.mem_of_getElem? (i := 2) rfl) dX6_put_124 ?_
      refine jw_iload_n C.1 dX6_put_127 rfl 1 rfl ?_
      refine jw_iadd C.1 dX6_put_128 ?_
      refine jw_putI C.1 iwX6_put_X6 rfl shM_0 rfl 9 (by decide) tyX6 tyX6_ok nmX6 (j := 1) rfl fuX6_9 (List.mem_of_getElem? (i := 2) rfl) rfl (ty := .int) (by decide +kernel) rfl rfl dX6_put_129 ?_
      have h := h _ rfl
      refine jw_aload_n C.1 dX6_put_132 rfl 0 rfl ?_
      refine jw_getI C.1 iwX6_put_X6 rfl shM_0 rfl 9 (by decide) rfl (List.mem_of_getElem? (i := 2) rfl) dX6_put_133 ?_
      exact jw_iret (Q := Q) C h dX6_put_136
    · have h := h.2 c
      refine jw_aload_n C.1 dX6_put_90 rfl 0 rfl ?_
      refine jw_getR C.1 iwX6_put_X6 rfl shM_0 rfl 8 (by decide) rfl (List.mem_of_getElem? (i := 3) rfl) dX6_put_91 ?_
      refine jw_aload_n C.1 dX6_put_94 rfl 0 rfl ?_
      refine jw_getI C.1 iwX6_put_X6 rfl shM_0 rfl 9 (by decide) rfl (List.mem_of_getElem? (i := 2) rfl) dX6_put_95 ?_
      refine jw_iload C.1 dX6_put_98 3 rfl ?_
      refine jw_iadd C.1 dX6_put_100 ?_
      refine jw_lload C.1 dX6_put_101 2 rfl ?_
      refine jw_ldc2 C.1 (v := 255) (List.mem_of_getElem? (i := 1) rfl) dX6_put_103 ?_
      refine jw_land C.1 dX6_put_106 ?_
      refine jw_l2i C.1 dX6_put_107 ?_
      obtain ⟨hi, h⟩ := h
      refine jw_iast C.1 rfl shM_8 hi dX6_put_108 ?_
      have h := h _ rfl
      refine jw_lload C.1 dX6_put_109 2 rfl ?_
      refine jw_bipush C.1 dX6_put_111 kb_8 ?_
      refine jw_lushr C.1 dX6_put_113 ?_
      refine jw_lstore (lw := [(4, .long _), (0, .ref _), (3, .int _), (6, .int _)]) C.1 dX6_put_114 hN_5 rfl ?_
      have h := h _ rfl
      refine jw_iinc (lw := [(6, .int _), (4, .long _), (0, .ref _), (3, .int _)]) (q := 3) C.1 dX6_put_116 rfl (ai_m1 _) hN_6 rfl ?_
      have h := h _ rfl
      refine jw_goto (tgt := 85) C.1 dX6_put_119 (by decide) ?_
      refine jw_sub [2, 3, 1, 0] rfl ?_
      exact ih _ _ _ _ h
set_option maxRecDepth 100000 in
set_option maxHeartbeats 4000000 in
theorem jbX6_put_5 {K : KT} {l : Launch} {ad : Nat → Nat} {Q : Int32 → Mem → Prop} (hN : kN K = 7) (C : CtxM K l cX6_put RX6 wsX6_put rmX6_put shM ad (some .int) (pI Q)) : ∀ (n : Nat) (x1 : Int64) (x3 : Int32) (x4 : Int64) (μ : Mem), bkX6_put_5 Q n x1 x3 x4 μ → JW K (0, 0) shM ad μ 5 [(0, .ref (ad 0)), (1, .long x1), (3, .int x3), (4, .long x4)] [] := by
  have hN_3 : 3 < kN K := by rw [hN]; decide
  have hN_5 : 5 < kN K := by rw [hN]; decide
  have hN_6 : 6 < kN K := by rw [hN]; decide
  intro n
  induction n with
  | zero =>
    intro x1 x3 x4 μ h
    exact h.elim
  | succ n ih =>
    intro x1 x3 x4 μ h
    unfold bkX6_put_5 at h
    refine jw_lload C.1 dX6_put_5 3 rfl ?_
    refine jw_ldc2 C.1 (v := 255) (List.mem_of_getElem? (i := 1) rfl) dX6_put_7 ?_
    refine jw_land C.1 dX6_put_10 ?_
    refine jw_lconst C.1 dX6_put_11 (v := 0) rfl ?_
    refine jw_lcmp C.1 dX6_put_12 ?_
    refine jw_if_eq C.1 49 dX6_put_13 (by decide) (fun c => ?_) (fun c => ?_)
    · have h := h.1 c
      refine jw_lload C.1 dX6_put_49 3 rfl ?_
      refine jw_lconst C.1 dX6_put_51 (v := 0) rfl ?_
      refine jw_lcmp C.1 dX6_put_52 ?_
      refine jw_if_ne C.1 60 dX6_put_53 (by decide) (fun c => ?_) (fun c => ?_)
      · have h := h.1 c
        refine jw_bipush C.1 dX6_put_60 kb_m2 ?_
        exact jw_iret (Q := Q) C h dX6_put_62
      · have h := h.2 c
        refine jw_iload_n C.1 dX6_put_56 rfl 2 rfl ?_
        refine jw_if_ne C.1 63 dX6_put_57 (by decide) (fun c => ?_) (fun c => ?_)
        · have h := h.1 c
          refine jw_aload_n C.1 dX6_put_63 rfl 0 rfl ?_
          refine jw_getI C.1 iwX6_put_X6 rfl shM_0 rfl 9 (by decide) rfl (List.mem_of_getElem? (i := 2) rfl) dX6_put_64 ?_
          refine jw_iload_n C.1 dX6_put_67 rfl 2 rfl ?_
          refine jw_iadd C.1 dX6_put_68 ?_
          refine jw_bipush C.1 dX6_put_69 kb_60 ?_
          refine jw_icmp_le C.1 77 dX6_put_71 (by decide) (fun c => ?_) (fun c => ?_)
          · have h := h.1 c
            refine jw_lload_n C.1 dX6_put_77 rfl 1 rfl ?_
            refine jw_lstore (lw := [(4, .long _), (0, .ref _), (1, .long _), (3, .int _)]) C.1 dX6_put_78 hN_5 rfl ?_
            refine jw_iload_n C.1 dX6_put_80 rfl 3 rfl ?_
            refine jw_iconst C.1 dX6_put_81 ki_1 ?_
            refine jw_isub C.1 dX6_put_82 ?_
            refine jw_istore (lw := [(6, .int _), (4, .long _), (0, .ref _), (1, .long _), (3, .int _)]) C.1 dX6_put_83 hN_6 rfl ?_
            have h := h _ rfl
            obtain ⟨n, h⟩ := h
            refine jw_sub [2, 4, 1, 0] rfl ?_
            exact jbX6_put_85 hN C n _ _ _ _ h
          · have h := h.2 c
            refine jw_bipush C.1 dX6_put_74 kb_m4 ?_
            exact jw_iret (Q := Q) C h dX6_put_76
        · have h := h.2 c
          refine jw_bipush C.1 dX6_put_60 kb_m2 ?_
          exact jw_iret (Q := Q) C h dX6_put_62
    · have h := h.2 c
      refine jw_lload C.1 dX6_put_16 3 rfl ?_
      refine jw_ldc2 C.1 (v := 255) (List.mem_of_getElem? (i := 1) rfl) dX6_put_18 ?_
      refine jw_land C.1 dX6_put_21 ?_
      refine jw_l2i C.1 dX6_put_22 ?_
      refine jw_bipush C.1 dX6_put_23 kb_33 ?_
      refine jw_bipush C.1 dX6_put_25 kb_126 ?_
      refine jw_eSI (rest := []) C.1 dX6_put_27 (ctX6_in l _ _ _ _ h _) miX6_in gX6_put_X6_in (by decide) rfl rfl rfl (Nat.le_of_ble_eq_true rfl) ⟨Nat.zero_le _, Nat.zero_le _⟩ (fun r2 h => ?_)
      refine jw_if_ne C.1 36 dX6_put_30 (by decide) (fun c => ?_) (fun c => ?_)
      · have h := h.1 c
        refine jw_iinc (lw := [(3, .int _), (0, .ref _), (1, .long _), (4, .long _)]) (q := 2) C.1 dX6_put_36 rfl (ai_1 _) hN_3 rfl ?_
        have h := h _ rfl
        refine jw_lload C.1 dX6_put_39 3 rfl ?_
        refine jw_bipush C.1 dX6_put_41 kb_8 ?_
        refine jw_lushr C.1 dX6_put_43 ?_
        refine jw_lstore (lw := [(4, .long _), (3, .int _), (0, .ref _), (1, .long _)]) C.1 dX6_put_44 hN_5 rfl ?_
        have h := h _ rfl
        refine jw_goto (tgt := 5) C.1 dX6_put_46 (by decide) ?_
        refine jw_sub [2, 3, 1, 0] rfl ?_
        exact ih _ _ _ _ h
      · have h := h.2 c
        refine jw_bipush C.1 dX6_put_33 kb_m2 ?_
        exact jw_iret (Q := Q) C h dX6_put_35
set_option maxRecDepth 100000 in
set_option maxHeartbeats 4000000 in
theorem ctX6_put (l : Launch) (a1 : Int64) (μ : Mem) (Q : Int32 → Mem → Prop) (h : wpX6_put a1 μ Q) : Con l yX6_put wsX6_put rmX6_put shM (fun ad => [.ref (ad 0), .long a1]) μ (pI Q) := by
  refine Con.mk (cc := cX6_put) (maxL := 7) (ret := (some .int)) (own := RX6) (by decide) rfl rfl (fun _ => Nat.le_of_ble_eq_true rfl) (fun K ad hN C => ?_)
  show JW K (0, 0) shM ad μ 0 [(0, .ref (ad 0)), (1, .long a1)] []
  have hN_3 : 3 < kN K := by rw [hN]; decide
  have hN_5 : 5 < kN K := by rw [hN]; decide
  have hN_6 : 6 < kN K := by rw [hN]; decide
  unfold wpX6_put at h
  refine jw_iconst C.1 dX6_put_0 ki_0 ?_
  refine jw_istore_n (lw := [(3, .int _), (0, .ref _), (1, .long _)]) C.1 dX6_put_1 rfl hN_3 rfl ?_
  refine jw_lload_n C.1 dX6_put_2 rfl 2 rfl ?_
  refine jw_lstore (lw := [(4, .long _), (3, .int _), (0, .ref _), (1, .long _)]) C.1 dX6_put_3 hN_5 rfl ?_
  obtain ⟨n, h⟩ := h
  refine jw_sub [2, 3, 1, 0] rfl ?_
  exact jbX6_put_5 hN C n _ _ _ _ h
set_option maxRecDepth 100000 in
set_option maxHeartbeats 4000000 in
theorem ctX6_read (l : Launch) (a1 : Int32) (μ : Mem) (Q : Int32 → Mem → Prop) (h : wpX6_read a1 μ Q) : Con l yX6_read wsX6_read rmX6_read shM (fun ad => [.ref (ad 0), .int a1]) μ (pI Q) := by
  refine Con.mk (cc := cX6_read) (maxL := 2) (ret := (some .int)) (own := RX6) (by decide) rfl rfl (fun _ => Nat.le_of_ble_eq_true rfl) (fun K ad hN C => ?_)
  show JW K (0, 0) shM ad μ 0 [(0, .ref (ad 0)), (1, .int a1)] []
  unfold wpX6_read at h
  refine jw_iload_n C.1 dX6_read_0 rfl 1 rfl ?_
  refine jw_eSI (rest := []) C.1 dX6_read_1 (ctX6_isKey l _ _ h _) miX6_isKey gX6_read_X6_isKey (by decide) rfl rfl rfl (Nat.le_of_ble_eq_true rfl) ⟨Nat.zero_le _, Nat.zero_le _⟩ (fun r1 h => ?_)
  refine jw_if_ne C.1 9 dX6_read_4 (by decide) (fun c => ?_) (fun c => ?_)
  · have h := h.1 c
    refine jw_aload_n C.1 dX6_read_9 rfl 0 rfl ?_
    refine jw_cVV (rest := []) C.1 dX6_read_10 em_shM_id (ctX6_record l _ _ h) miX6_record shM_0 rfl gX6_read_X6_record rfl (by decide) rfl rfl rfl (Nat.le_of_ble_eq_true rfl) ⟨Nat.zero_le _, Nat.zero_le _⟩ (fun μ3 h => ?_)
    refine jw_aload_n C.1 dX6_read_13 rfl 0 rfl ?_
    refine jw_getR C.1 iwX6_read_X6 rfl shM_0 rfl 0 (by decide) rfl (List.mem_of_getElem? (i := 1) rfl) dX6_read_14 ?_
    refine jw_iconst C.1 dX6_read_17 ki_5 ?_
    refine jw_dup2 C.1 dX6_read_18 rfl rfl ?_
    obtain ⟨hi, h⟩ := h
    refine jw_iald C.1 rfl shM_1 hi dX6_read_19 ?_
    refine jw_iconst C.1 dX6_read_20 ki_3 ?_
    refine jw_iadd C.1 dX6_read_21 ?_
    obtain ⟨hi, h⟩ := h
    refine jw_iast C.1 rfl shM_1 hi dX6_read_22 ?_
    have h := h _ rfl
    refine jw_aload_n C.1 dX6_read_23 rfl 0 rfl ?_
    refine jw_iload_n C.1 dX6_read_24 rfl 1 rfl ?_
    refine jw_cVI (rest := []) C.1 dX6_read_25 em_shM_id (ctX6_readOf l _ _ _ h) miX6_readOf shM_0 rfl gX6_read_X6_readOf rfl (by decide) rfl rfl rfl (Nat.le_of_ble_eq_true rfl) ⟨Nat.zero_le _, Nat.zero_le _⟩ (fun r5 μ6 h => ?_)
    exact jw_iret (Q := Q) C h dX6_read_28
  · have h := h.2 c
    refine jw_iconst C.1 dX6_read_7 ki_m1 ?_
    exact jw_iret (Q := Q) C h dX6_read_8
set_option maxRecDepth 100000 in
set_option maxHeartbeats 4000000 in
theorem jbX6_restore_30 {K : KT} {l : Launch} {ad : Nat → Nat} {Q : Int32 → Mem → Prop} (hN : kN K = 3) (C : CtxM K l cX6_restore RX6 wsX6_restore rmX6_restore shM ad (some .int) (pI Q)) : ∀ (n : Nat) (x1 : Int32) (x2 : Int32) (μ : Mem), bkX6_restore_30 Q n x1 x2 μ → JW K (0, 0) shM ad μ 30 [(0, .ref (ad 0)), (1, .int x1), (2, .int x2)] [] := by
  have hN_2 : 2 < kN K := by rw [hN]; decide
  intro n
  induction n with
  | zero =>
    intro x1 x2 μ h
    exact h.elim
  | succ n ih =>
    intro x1 x2 μ h
    unfold bkX6_restore_30 at h
    refine jw_iload_n C.1 dX6_restore_30 rfl 2 rfl ?_
    refine jw_sipush C.1 dX6_restore_31 ks_1333 ?_
    refine jw_icmp_ge C.1 61 dX6_restore_34 (by decide) (fun c => ?_) (fun c => ?_)
    · have h := h.1 c
      refine jw_aload_n C.1 dX6_restore_61 rfl 0 rfl ?_
      refine jw_cVI (rest := []) C.1 dX6_restore_62 em_shM_id (ctX6_allStones l _ _ h) miX6_allStones shM_0 rfl gX6_restore_X6_allStones rfl (by decide) rfl rfl rfl (Nat.le_of_ble_eq_true rfl) ⟨Nat.zero_le _, Nat.zero_le _⟩ (fun r4 μ5 h => ?_)
      exact jw_iret (Q := Q) C h dX6_restore_65
    · have h := h.2 c
      refine jw_aload_n C.1 dX6_restore_37 rfl 0 rfl ?_
      refine jw_getR C.1 iwX6_restore_X6 rfl shM_0 rfl 0 (by decide) rfl (List.mem_of_getElem? (i := 2) rfl) dX6_restore_38 ?_
      refine jw_iload_n C.1 dX6_restore_41 rfl 2 rfl ?_
      refine jw_aload_n C.1 dX6_restore_42 rfl 0 rfl ?_
      refine jw_getR C.1 iwX6_restore_X6 rfl shM_0 rfl 3 (by decide) rfl (List.mem_of_getElem? (i := 3) rfl) dX6_restore_43 ?_
      refine jw_sipush C.1 dX6_restore_46 ks_1333 ?_
      refine jw_iload_n C.1 dX6_restore_49 rfl 1 rfl ?_
      refine jw_imul C.1 dX6_restore_50 ?_
      refine jw_iload_n C.1 dX6_restore_51 rfl 2 rfl ?_
      refine jw_iadd C.1 dX6_restore_52 ?_
      obtain ⟨hi, h⟩ := h
      refine jw_iald C.1 rfl shM_3 hi dX6_restore_53 ?_
      obtain ⟨hi, h⟩ := h
      refine jw_iast C.1 rfl shM_1 hi dX6_restore_54 ?_
      have h := h _ rfl
      refine jw_iinc (lw := [(2, .int _), (0, .ref _), (1, .int _)]) (q := 2) C.1 dX6_restore_55 rfl (ai_1 _) hN_2 rfl ?_
      have h := h _ rfl
      refine jw_goto (tgt := 30) C.1 dX6_restore_58 (by decide) ?_
      refine jw_sub [1, 2, 0] rfl ?_
      exact ih _ _ _ h
set_option maxRecDepth 100000 in
set_option maxHeartbeats 4000000 in
theorem ctX6_restore (l : Launch) (a1 : Int32) (μ : Mem) (Q : Int32 → Mem → Prop) (h : wpX6_restore a1 μ Q) : Con l yX6_restore wsX6_restore rmX6_restore shM (fun ad => [.ref (ad 0), .int a1]) μ (pI Q) := by
  refine Con.mk (cc := cX6_restore) (maxL := 3) (ret := (some .int)) (own := RX6) (by decide) rfl rfl (fun _ => Nat.le_of_ble_eq_true rfl) (fun K ad hN C => ?_)
  show JW K (0, 0) shM ad μ 0 [(0, .ref (ad 0)), (1, .int a1)] []
  have hN_2 : 2 < kN K := by rw [hN]; decide
  unfold wpX6_restore at h
  refine jw_iload_n C.1 dX6_restore_0 rfl 1 rfl ?_
  refine jw_iconst C.1 dX6_restore_1 ki_0 ?_
  refine jw_iconst C.1 dX6_restore_2 ki_1 ?_
  refine jw_eSI (rest := []) C.1 dX6_restore_3 (ctX6_in l _ _ _ _ h _) miX6_in gX6_restore_X6_in (by decide) rfl rfl rfl (Nat.le_of_ble_eq_true rfl) ⟨Nat.zero_le _, Nat.zero_le _⟩ (fun r1 h => ?_)
  refine jw_if_ne C.1 12 dX6_restore_6 (by decide) (fun c => ?_) (fun c => ?_)
  · have h := h.1 c
    refine jw_aload_n C.1 dX6_restore_12 rfl 0 rfl ?_
    refine jw_getR C.1 iwX6_restore_X6 rfl shM_0 rfl 4 (by decide) rfl (List.mem_of_getElem? (i := 1) rfl) dX6_restore_13 ?_
    refine jw_iload_n C.1 dX6_restore_16 rfl 1 rfl ?_
    obtain ⟨hi, h⟩ := h
    refine jw_zald C.1 rfl shM_4 hi dX6_restore_17 ?_
    refine jw_if_ne C.1 24 dX6_restore_18 (by decide) (fun c => ?_) (fun c => ?_)
    · have h := h.1 c
      refine jw_aload_n C.1 dX6_restore_24 rfl 0 rfl ?_
      refine jw_cVV (rest := []) C.1 dX6_restore_25 em_shM_id (ctX6_record l _ _ h) miX6_record shM_0 rfl gX6_restore_X6_record rfl (by decide) rfl rfl rfl (Nat.le_of_ble_eq_true rfl) ⟨Nat.zero_le _, Nat.zero_le _⟩ (fun μ3 h => ?_)
      refine jw_iconst C.1 dX6_restore_28 ki_0 ?_
      refine jw_istore_n (lw := [(2, .int _), (0, .ref _), (1, .int _)]) C.1 dX6_restore_29 rfl hN_2 rfl ?_
      obtain ⟨n, h⟩ := h
      refine jw_sub [1, 2, 0] rfl ?_
      exact jbX6_restore_30 hN C n _ _ _ h
    · have h := h.2 c
      refine jw_bipush C.1 dX6_restore_21 kb_m5 ?_
      exact jw_iret (Q := Q) C h dX6_restore_23
  · have h := h.2 c
    refine jw_bipush C.1 dX6_restore_9 kb_m2 ?_
    exact jw_iret (Q := Q) C h dX6_restore_11
set_option maxRecDepth 100000 in
set_option maxHeartbeats 4000000 in
theorem ctX6_same (l : Launch) (a1 : Int32) (a2 : Int32) (μ : Mem) (Q : Int32 → Mem → Prop) (h : wpX6_same a1 a2 μ Q) : Con l yX6_same wsX6_same rmX6_same shM (fun ad => [.ref (ad 0), .int a1, .int a2]) μ (pI Q) := by
  refine Con.mk (cc := cX6_same) (maxL := 3) (ret := (some .int)) (own := RX6) (by decide) rfl rfl (fun _ => Nat.le_of_ble_eq_true rfl) (fun K ad hN C => ?_)
  show JW K (0, 0) shM ad μ 0 [(0, .ref (ad 0)), (1, .int a1), (2, .int a2)] []
  unfold wpX6_same at h
  refine jw_iload_n C.1 dX6_same_0 rfl 1 rfl ?_
  refine jw_eSI (rest := []) C.1 dX6_same_1 (ctX6_isKey l _ _ h _) miX6_isKey gX6_same_X6_isKey (by decide) rfl rfl rfl (Nat.le_of_ble_eq_true rfl) ⟨Nat.zero_le _, Nat.zero_le _⟩ (fun r1 h => ?_)
  refine jw_if_eq C.1 14 dX6_same_4 (by decide) (fun c => ?_) (fun c => ?_)
  · have h := h.1 c
    refine jw_iconst C.1 dX6_same_14 ki_m1 ?_
    exact jw_iret (Q := Q) C h dX6_same_15
  · have h := h.2 c
    refine jw_iload_n C.1 dX6_same_7 rfl 2 rfl ?_
    refine jw_eSI (rest := []) C.1 dX6_same_8 (ctX6_isKey l _ _ h _) miX6_isKey gX6_same_X6_isKey (by decide) rfl rfl rfl (Nat.le_of_ble_eq_true rfl) ⟨Nat.zero_le _, Nat.zero_le _⟩ (fun r2 h => ?_)
    refine jw_if_ne C.1 16 dX6_same_11 (by decide) (fun c => ?_) (fun c => ?_)
    · have h := h.1 c
      refine jw_aload_n C.1 dX6_same_16 rfl 0 rfl ?_
      refine jw_iload_n C.1 dX6_same_17 rfl 1 rfl ?_
      refine jw_cVI (rest := []) C.1 dX6_same_18 em_shM_id (ctX6_readOf l _ _ _ h) miX6_readOf shM_0 rfl gX6_same_X6_readOf rfl (by decide) rfl rfl rfl (Nat.le_of_ble_eq_true rfl) ⟨Nat.zero_le _, Nat.zero_le _⟩ (fun r3 μ4 h => ?_)
      refine jw_aload_n C.1 dX6_same_21 rfl 0 rfl ?_
      refine jw_iload_n C.1 dX6_same_22 rfl 2 rfl ?_
      refine jw_cVI (rest := [.int _]) C.1 dX6_same_23 em_shM_id (ctX6_readOf l _ _ _ h) miX6_readOf shM_0 rfl gX6_same_X6_readOf rfl (by decide) rfl rfl rfl (Nat.le_of_ble_eq_true rfl) ⟨Nat.zero_le _, Nat.zero_le _⟩ (fun r5 μ6 h => ?_)
      refine jw_icmp_ne C.1 33 dX6_same_26 (by decide) (fun c => ?_) (fun c => ?_)
      · have h := h.1 c
        refine jw_iconst C.1 dX6_same_33 ki_0 ?_
        exact jw_iret (Q := Q) C h dX6_same_34
      · have h := h.2 c
        refine jw_iconst C.1 dX6_same_29 ki_1 ?_
        refine jw_goto (tgt := 34) C.1 dX6_same_30 (by decide) ?_
        exact jw_iret (Q := Q) C h dX6_same_34
    · have h := h.2 c
      refine jw_iconst C.1 dX6_same_14 ki_m1 ?_
      exact jw_iret (Q := Q) C h dX6_same_15
set_option maxRecDepth 100000 in
set_option maxHeartbeats 4000000 in
theorem jbX6_save_14 {K : KT} {l : Launch} {ad : Nat → Nat} {Q : Int32 → Mem → Prop} (hN : kN K = 3) (C : CtxM K l cX6_save RX6 wsX6_save rmX6_save shM ad (some .int) (pI Q)) : ∀ (n : Nat) (x1 : Int32) (x2 : Int32) (μ : Mem), bkX6_save_14 Q n x1 x2 μ → JW K (0, 0) shM ad μ 14 [(0, .ref (ad 0)), (1, .int x1), (2, .int x2)] [] := by
  have hN_2 : 2 < kN K := by rw [hN]; decide
  intro n
  induction n with
  | zero =>
    intro x1 x2 μ h
    exact h.elim
  | succ n ih =>
    intro x1 x2 μ h
    unfold bkX6_save_14 at h
    refine jw_iload_n C.1 dX6_save_14 rfl 2 rfl ?_
    refine jw_sipush C.1 dX6_save_15 ks_1333 ?_
    refine jw_icmp_ge C.1 45 dX6_save_18 (by decide) (fun c => ?_) (fun c => ?_)
    · have h := h.1 c
      refine jw_aload_n C.1 dX6_save_45 rfl 0 rfl ?_
      refine jw_getR C.1 iwX6_save_X6 rfl shM_0 rfl 4 (by decide) rfl (List.mem_of_getElem? (i := 3) rfl) dX6_save_46 ?_
      refine jw_iload_n C.1 dX6_save_49 rfl 1 rfl ?_
      refine jw_iconst C.1 dX6_save_50 ki_1 ?_
      obtain ⟨hi, h⟩ := h
      refine jw_zast C.1 rfl shM_4 hi dX6_save_51 ?_
      have h := h _ rfl
      refine jw_aload_n C.1 dX6_save_52 rfl 0 rfl ?_
      refine jw_cVI (rest := []) C.1 dX6_save_53 em_shM_id (ctX6_allStones l _ _ h) miX6_allStones shM_0 rfl gX6_save_X6_allStones rfl (by decide) rfl rfl rfl (Nat.le_of_ble_eq_true rfl) ⟨Nat.zero_le _, Nat.zero_le _⟩ (fun r3 μ4 h => ?_)
      exact jw_iret (Q := Q) C h dX6_save_56
    · have h := h.2 c
      refine jw_aload_n C.1 dX6_save_21 rfl 0 rfl ?_
      refine jw_getR C.1 iwX6_save_X6 rfl shM_0 rfl 3 (by decide) rfl (List.mem_of_getElem? (i := 1) rfl) dX6_save_22 ?_
      refine jw_sipush C.1 dX6_save_25 ks_1333 ?_
      refine jw_iload_n C.1 dX6_save_28 rfl 1 rfl ?_
      refine jw_imul C.1 dX6_save_29 ?_
      refine jw_iload_n C.1 dX6_save_30 rfl 2 rfl ?_
      refine jw_iadd C.1 dX6_save_31 ?_
      refine jw_aload_n C.1 dX6_save_32 rfl 0 rfl ?_
      refine jw_getR C.1 iwX6_save_X6 rfl shM_0 rfl 0 (by decide) rfl (List.mem_of_getElem? (i := 2) rfl) dX6_save_33 ?_
      refine jw_iload_n C.1 dX6_save_36 rfl 2 rfl ?_
      obtain ⟨hi, h⟩ := h
      refine jw_iald C.1 rfl shM_1 hi dX6_save_37 ?_
      obtain ⟨hi, h⟩ := h
      refine jw_iast C.1 rfl shM_3 hi dX6_save_38 ?_
      have h := h _ rfl
      refine jw_iinc (lw := [(2, .int _), (0, .ref _), (1, .int _)]) (q := 2) C.1 dX6_save_39 rfl (ai_1 _) hN_2 rfl ?_
      have h := h _ rfl
      refine jw_goto (tgt := 14) C.1 dX6_save_42 (by decide) ?_
      refine jw_sub [1, 2, 0] rfl ?_
      exact ih _ _ _ h
set_option maxRecDepth 100000 in
set_option maxHeartbeats 4000000 in
theorem ctX6_save (l : Launch) (a1 : Int32) (μ : Mem) (Q : Int32 → Mem → Prop) (h : wpX6_save a1 μ Q) : Con l yX6_save wsX6_save rmX6_save shM (fun ad => [.ref (ad 0), .int a1]) μ (pI Q) := by
  refine Con.mk (cc := cX6_save) (maxL := 3) (ret := (some .int)) (own := RX6) (by decide) rfl rfl (fun _ => Nat.le_of_ble_eq_true rfl) (fun K ad hN C => ?_)
  show JW K (0, 0) shM ad μ 0 [(0, .ref (ad 0)), (1, .int a1)] []
  have hN_2 : 2 < kN K := by rw [hN]; decide
  unfold wpX6_save at h
  refine jw_iload_n C.1 dX6_save_0 rfl 1 rfl ?_
  refine jw_iconst C.1 dX6_save_1 ki_0 ?_
  refine jw_iconst C.1 dX6_save_2 ki_1 ?_
  refine jw_eSI (rest := []) C.1 dX6_save_3 (ctX6_in l _ _ _ _ h _) miX6_in gX6_save_X6_in (by decide) rfl rfl rfl (Nat.le_of_ble_eq_true rfl) ⟨Nat.zero_le _, Nat.zero_le _⟩ (fun r1 h => ?_)
  refine jw_if_ne C.1 12 dX6_save_6 (by decide) (fun c => ?_) (fun c => ?_)
  · have h := h.1 c
    refine jw_iconst C.1 dX6_save_12 ki_0 ?_
    refine jw_istore_n (lw := [(2, .int _), (0, .ref _), (1, .int _)]) C.1 dX6_save_13 rfl hN_2 rfl ?_
    obtain ⟨n, h⟩ := h
    refine jw_sub [1, 2, 0] rfl ?_
    exact jbX6_save_14 hN C n _ _ _ h
  · have h := h.2 c
    refine jw_bipush C.1 dX6_save_9 kb_m2 ?_
    exact jw_iret (Q := Q) C h dX6_save_11
set_option maxRecDepth 100000 in
set_option maxHeartbeats 4000000 in
theorem jbX6_send_64 {K : KT} {l : Launch} {ad : Nat → Nat} {Q : Int32 → Mem → Prop} (hN : kN K = 5) (C : CtxM K l cX6_send RX6 wsX6_send rmX6_send shM ad (some .int) (pI Q)) (x1 : Int32) (x2 : Int32) (x3 : Int32) (x4 : Int32) (μ : Mem) (h : bkX6_send_64 Q x1 x2 x3 x4 μ) : JW K (0, 0) shM ad μ 64 [(0, .ref (ad 0)), (1, .int x1), (2, .int x2), (3, .int x3), (4, .int x4)] [] := by
  unfold bkX6_send_64 at h
  refine jw_aload_n C.1 dX6_send_64 rfl 0 rfl ?_
  refine jw_cVV (rest := []) C.1 dX6_send_65 em_shM_id (ctX6_record l _ _ h) miX6_record shM_0 rfl gX6_send_X6_record rfl (by decide) rfl rfl rfl (Nat.le_of_ble_eq_true rfl) ⟨Nat.zero_le _, Nat.zero_le _⟩ (fun μ6 h => ?_)
  refine jw_aload_n C.1 dX6_send_68 rfl 0 rfl ?_
  refine jw_iload_n C.1 dX6_send_69 rfl 1 rfl ?_
  refine jw_iload_n C.1 dX6_send_70 rfl 2 rfl ?_
  refine jw_iload_n C.1 dX6_send_71 rfl 3 rfl ?_
  refine jw_iload C.1 dX6_send_72 4 rfl ?_
  refine jw_cVV (rest := []) C.1 dX6_send_74 em_shM_id (ctX6_comesRoot l _ _ _ _ _ _ h) miX6_comesRoot shM_0 rfl gX6_send_X6_comesRoot rfl (by decide) rfl rfl rfl (Nat.le_of_ble_eq_true rfl) ⟨Nat.zero_le _, Nat.zero_le _⟩ (fun μ8 h => ?_)
  refine jw_aload_n C.1 dX6_send_77 rfl 0 rfl ?_
  refine jw_cVI (rest := []) C.1 dX6_send_78 em_shM_id (ctX6_allStones l _ _ h) miX6_allStones shM_0 rfl gX6_send_X6_allStones rfl (by decide) rfl rfl rfl (Nat.le_of_ble_eq_true rfl) ⟨Nat.zero_le _, Nat.zero_le _⟩ (fun r9 μ10 h => ?_)
  exact jw_iret (Q := Q) C h dX6_send_81
set_option maxRecDepth 100000 in
set_option maxHeartbeats 4000000 in
theorem jbX6_send_24 {K : KT} {l : Launch} {ad : Nat → Nat} {Q : Int32 → Mem → Prop} (hN : kN K = 5) (C : CtxM K l cX6_send RX6 wsX6_send rmX6_send shM ad (some .int) (pI Q)) (x1 : Int32) (x2 : Int32) (x3 : Int32) (x4 : Int32) (s0 : Int32) (s1 : Int32) (s2 : Int32) (μ : Mem) (h : bkX6_send_24 Q x1 x2 x3 x4 s0 s1 s2 μ) : JW K (0, 0) shM ad μ 24 [(0, .ref (ad 0)), (1, .int x1), (2, .int x2), (3, .int x3), (4, .int x4)] [.int s0, .int s1, .int s2] := by
  unfold bkX6_send_24 at h
  refine jw_eSI (rest := []) C.1 dX6_send_24 (ctX6_in l _ _ _ _ h _) miX6_in gX6_send_X6_in (by decide) rfl rfl rfl (Nat.le_of_ble_eq_true rfl) ⟨Nat.zero_le _, Nat.zero_le _⟩ (fun r2 h => ?_)
  refine jw_if_ne C.1 33 dX6_send_27 (by decide) (fun c => ?_) (fun c => ?_)
  · have h := h.1 c
    refine jw_iload_n C.1 dX6_send_33 rfl 2 rfl ?_
    refine jw_eSI (rest := []) C.1 dX6_send_34 (ctX6_isKey l _ _ h _) miX6_isKey gX6_send_X6_isKey (by decide) rfl rfl rfl (Nat.le_of_ble_eq_true rfl) ⟨Nat.zero_le _, Nat.zero_le _⟩ (fun r3 h => ?_)
    refine jw_if_eq C.1 62 dX6_send_37 (by decide) (fun c => ?_) (fun c => ?_)
    · have h := h.1 c
      refine jw_iconst C.1 dX6_send_62 ki_m1 ?_
      exact jw_iret (Q := Q) C h dX6_send_63
    · have h := h.2 c
      refine jw_iload_n C.1 dX6_send_40 rfl 3 rfl ?_
      refine jw_eSI (rest := []) C.1 dX6_send_41 (ctX6_isKey l _ _ h _) miX6_isKey gX6_send_X6_isKey (by decide) rfl rfl rfl (Nat.le_of_ble_eq_true rfl) ⟨Nat.zero_le _, Nat.zero_le _⟩ (fun r4 h => ?_)
      refine jw_if_eq C.1 62 dX6_send_44 (by decide) (fun c => ?_) (fun c => ?_)
      · have h := h.1 c
        refine jw_iconst C.1 dX6_send_62 ki_m1 ?_
        exact jw_iret (Q := Q) C h dX6_send_63
      · have h := h.2 c
        refine jw_iload_n C.1 dX6_send_47 rfl 3 rfl ?_
        refine jw_iload_n C.1 dX6_send_48 rfl 2 rfl ?_
        refine jw_icmp_lt C.1 62 dX6_send_49 (by decide) (fun c => ?_) (fun c => ?_)
        · have h := h.1 c
          refine jw_iconst C.1 dX6_send_62 ki_m1 ?_
          exact jw_iret (Q := Q) C h dX6_send_63
        · have h := h.2 c
          refine jw_iload_n C.1 dX6_send_52 rfl 1 rfl ?_
          refine jw_iconst C.1 dX6_send_53 ki_1 ?_
          refine jw_icmp_eq C.1 64 dX6_send_54 (by decide) (fun c => ?_) (fun c => ?_)
          · have h := h.1 c
            exact jbX6_send_64 hN C _ _ _ _ _ h
          · have h := h.2 c
            refine jw_iload_n C.1 dX6_send_57 rfl 3 rfl ?_
            refine jw_iload_n C.1 dX6_send_58 rfl 2 rfl ?_
            refine jw_icmp_eq C.1 64 dX6_send_59 (by decide) (fun c => ?_) (fun c => ?_)
            · have h := h.1 c
              exact jbX6_send_64 hN C _ _ _ _ _ h
            · have h := h.2 c
              refine jw_iconst C.1 dX6_send_62 ki_m1 ?_
              exact jw_iret (Q := Q) C h dX6_send_63
  · have h := h.2 c
    refine jw_bipush C.1 dX6_send_30 kb_m2 ?_
    exact jw_iret (Q := Q) C h dX6_send_32
set_option maxRecDepth 100000 in
set_option maxHeartbeats 4000000 in
theorem ctX6_send (l : Launch) (a1 : Int32) (a2 : Int32) (a3 : Int32) (a4 : Int32) (μ : Mem) (Q : Int32 → Mem → Prop) (h : wpX6_send a1 a2 a3 a4 μ Q) : Con l yX6_send wsX6_send rmX6_send shM (fun ad => [.ref (ad 0), .int a1, .int a2, .int a3, .int a4]) μ (pI Q) := by
  refine Con.mk (cc := cX6_send) (maxL := 5) (ret := (some .int)) (own := RX6) (by decide) rfl rfl (fun _ => Nat.le_of_ble_eq_true rfl) (fun K ad hN C => ?_)
  show JW K (0, 0) shM ad μ 0 [(0, .ref (ad 0)), (1, .int a1), (2, .int a2), (3, .int a3), (4, .int a4)] []
  unfold wpX6_send at h
  refine jw_iload_n C.1 dX6_send_0 rfl 1 rfl ?_
  refine jw_iconst C.1 dX6_send_1 ki_0 ?_
  refine jw_iconst C.1 dX6_send_2 ki_2 ?_
  refine jw_eSI (rest := []) C.1 dX6_send_3 (ctX6_in l _ _ _ _ h _) miX6_in gX6_send_X6_in (by decide) rfl rfl rfl (Nat.le_of_ble_eq_true rfl) ⟨Nat.zero_le _, Nat.zero_le _⟩ (fun r1 h => ?_)
  refine jw_if_eq C.1 30 dX6_send_6 (by decide) (fun c => ?_) (fun c => ?_)
  · have h := h.1 c
    refine jw_bipush C.1 dX6_send_30 kb_m2 ?_
    exact jw_iret (Q := Q) C h dX6_send_32
  · have h := h.2 c
    refine jw_iload C.1 dX6_send_9 4 rfl ?_
    refine jw_iconst C.1 dX6_send_11 ki_0 ?_
    refine jw_iload_n C.1 dX6_send_12 rfl 1 rfl ?_
    refine jw_iconst C.1 dX6_send_13 ki_2 ?_
    refine jw_icmp_ne C.1 21 dX6_send_14 (by decide) (fun c => ?_) (fun c => ?_)
    · have h := h.1 c
      refine jw_sipush C.1 dX6_send_21 ks_999 ?_
      exact jbX6_send_24 hN C _ _ _ _ _ _ _ _ h
    · have h := h.2 c
      refine jw_iconst C.1 dX6_send_17 ki_0 ?_
      refine jw_goto (tgt := 24) C.1 dX6_send_18 (by decide) ?_
      exact jbX6_send_24 hN C _ _ _ _ _ _ _ _ h
set_option maxRecDepth 100000 in
set_option maxHeartbeats 4000000 in
theorem jbX6_set_33 {K : KT} {l : Launch} {ad : Nat → Nat} {Q : Int32 → Mem → Prop} (hN : kN K = 5) (C : CtxM K l cX6_set RX6 wsX6_set rmX6_set shM ad (some .int) (pI Q)) (x1 : Int32) (x2 : Int32) (s0 : Int32) (μ : Mem) (h : bkX6_set_33 Q x1 x2 s0 μ) : JW K (0, 0) shM ad μ 33 [(0, .ref (ad 0)), (1, .int x1), (2, .int x2)] [.int s0] := by
  have hN_3 : 3 < kN K := by rw [hN]; decide
  have hN_4 : 4 < kN K := by rw [hN]; decide
  unfold bkX6_set_33 at h
  refine jw_istore_n (lw := [(3, .int _), (0, .ref _), (1, .int _), (2, .int _)]) C.1 dX6_set_33 rfl hN_3 rfl ?_
  refine jw_iload_n C.1 dX6_set_34 rfl 0 rfl ?_
  refine jw_if_ne C.1 41 dX6_set_35 (by decide) (fun c => ?_) (fun c => ?_)
  · have h := h.1 c
    refine jw_aload_n C.1 dX6_set_41 rfl 1 rfl ?_
    refine jw_cVV (rest := []) C.1 dX6_set_42 em_shM_id (ctX6_record l _ _ h) miX6_record shM_0 rfl gX6_set_X6_record rfl (by decide) rfl rfl rfl (Nat.le_of_ble_eq_true rfl) ⟨Nat.zero_le _, Nat.zero_le _⟩ (fun μ4 h => ?_)
    refine jw_aload_n C.1 dX6_set_45 rfl 1 rfl ?_
    refine jw_getR C.1 iwX6_set_X6 rfl shM_0 rfl 0 (by decide) rfl (List.mem_of_getElem? (i := 1) rfl) dX6_set_46 ?_
    refine jw_iload_n C.1 dX6_set_49 rfl 2 rfl ?_
    obtain ⟨hi, h⟩ := h
    refine jw_iald C.1 rfl shM_1 hi dX6_set_50 ?_
    refine jw_istore (lw := [(4, .int _), (3, .int _), (0, .ref _), (1, .int _), (2, .int _)]) C.1 dX6_set_51 hN_4 rfl ?_
    have h := h _ rfl
    refine jw_aload_n C.1 dX6_set_53 rfl 2 rfl ?_
    refine jw_getR C.1 iwX6_set_X6 rfl shM_0 rfl 0 (by decide) rfl (List.mem_of_getElem? (i := 1) rfl) dX6_set_54 ?_
    refine jw_iload_n C.1 dX6_set_57 rfl 3 rfl ?_
    refine jw_iload_n C.1 dX6_set_58 rfl 4 rfl ?_
    obtain ⟨hi, h⟩ := h
    refine jw_iast C.1 rfl shM_1 hi dX6_set_59 ?_
    have h := h _ rfl
    refine jw_iload C.1 dX6_set_60 0 rfl ?_
    exact jw_iret (Q := Q) C h dX6_set_62
  · have h := h.2 c
    refine jw_bipush C.1 dX6_set_38 kb_m2 ?_
    exact jw_iret (Q := Q) C h dX6_set_40
set_option maxRecDepth 100000 in
set_option maxHeartbeats 4000000 in
theorem jbX6_set_32 {K : KT} {l : Launch} {ad : Nat → Nat} {Q : Int32 → Mem → Prop} (hN : kN K = 5) (C : CtxM K l cX6_set RX6 wsX6_set rmX6_set shM ad (some .int) (pI Q)) (x1 : Int32) (x2 : Int32) (μ : Mem) (h : bkX6_set_32 Q x1 x2 μ) : JW K (0, 0) shM ad μ 32 [(0, .ref (ad 0)), (1, .int x1), (2, .int x2)] [] := by
  have hN_3 : 3 < kN K := by rw [hN]; decide
  have hN_4 : 4 < kN K := by rw [hN]; decide
  unfold bkX6_set_32 at h
  refine jw_iconst C.1 dX6_set_32 ki_0 ?_
  exact jbX6_set_33 hN C _ _ _ _ h
set_option maxRecDepth 100000 in
set_option maxHeartbeats 4000000 in
theorem ctX6_set (l : Launch) (a1 : Int32) (a2 : Int32) (μ : Mem) (Q : Int32 → Mem → Prop) (h : wpX6_set a1 a2 μ Q) : Con l yX6_set wsX6_set rmX6_set shM (fun ad => [.ref (ad 0), .int a1, .int a2]) μ (pI Q) := by
  refine Con.mk (cc := cX6_set) (maxL := 5) (ret := (some .int)) (own := RX6) (by decide) rfl rfl (fun _ => Nat.le_of_ble_eq_true rfl) (fun K ad hN C => ?_)
  show JW K (0, 0) shM ad μ 0 [(0, .ref (ad 0)), (1, .int a1), (2, .int a2)] []
  have hN_3 : 3 < kN K := by rw [hN]; decide
  have hN_4 : 4 < kN K := by rw [hN]; decide
  unfold wpX6_set at h
  refine jw_iload_n C.1 dX6_set_0 rfl 1 rfl ?_
  refine jw_if_ne C.1 14 dX6_set_1 (by decide) (fun c => ?_) (fun c => ?_)
  · have h := h.1 c
    refine jw_iload_n C.1 dX6_set_14 rfl 1 rfl ?_
    refine jw_iconst C.1 dX6_set_15 ki_1 ?_
    refine jw_icmp_ne C.1 32 dX6_set_16 (by decide) (fun c => ?_) (fun c => ?_)
    · have h := h.1 c
      exact jbX6_set_32 hN C _ _ _ h
    · have h := h.2 c
      refine jw_iload_n C.1 dX6_set_19 rfl 2 rfl ?_
      refine jw_iconst C.1 dX6_set_20 ki_0 ?_
      refine jw_iconst C.1 dX6_set_21 ki_1 ?_
      refine jw_eSI (rest := []) C.1 dX6_set_22 (ctX6_in l _ _ _ _ h _) miX6_in gX6_set_X6_in (by decide) rfl rfl rfl (Nat.le_of_ble_eq_true rfl) ⟨Nat.zero_le _, Nat.zero_le _⟩ (fun r1 h => ?_)
      refine jw_if_eq C.1 32 dX6_set_25 (by decide) (fun c => ?_) (fun c => ?_)
      · have h := h.1 c
        exact jbX6_set_32 hN C _ _ _ h
      · have h := h.2 c
        refine jw_iconst C.1 dX6_set_28 ki_1 ?_
        refine jw_goto (tgt := 33) C.1 dX6_set_29 (by decide) ?_
        exact jbX6_set_33 hN C _ _ _ _ h
  · have h := h.2 c
    refine jw_iload_n C.1 dX6_set_4 rfl 2 rfl ?_
    refine jw_iconst C.1 dX6_set_5 ki_1 ?_
    refine jw_bipush C.1 dX6_set_6 kb_10 ?_
    refine jw_eSI (rest := []) C.1 dX6_set_8 (ctX6_in l _ _ _ _ h _) miX6_in gX6_set_X6_in (by decide) rfl rfl rfl (Nat.le_of_ble_eq_true rfl) ⟨Nat.zero_le _, Nat.zero_le _⟩ (fun r2 h => ?_)
    refine jw_goto (tgt := 33) C.1 dX6_set_11 (by decide) ?_
    exact jbX6_set_33 hN C _ _ _ _ h
set_option maxRecDepth 100000 in
set_option maxHeartbeats 4000000 in
theorem ctX6_sinks (l : Launch) (a1 : Int32) (μ : Mem) (Q : Int32 → Mem → Prop) (h : wpX6_sinks a1 μ Q) : Con l yX6_sinks wsX6_sinks rmX6_sinks shM (fun ad => [.ref (ad 0), .int a1]) μ (pI Q) := by
  refine Con.mk (cc := cX6_sinks) (maxL := 3) (ret := (some .int)) (own := RX6) (by decide) rfl rfl (fun _ => Nat.le_of_ble_eq_true rfl) (fun K ad hN C => ?_)
  show JW K (0, 0) shM ad μ 0 [(0, .ref (ad 0)), (1, .int a1)] []
  have hN_2 : 2 < kN K := by rw [hN]; decide
  unfold wpX6_sinks at h
  refine jw_aload_n C.1 dX6_sinks_0 rfl 0 rfl ?_
  refine jw_cVV (rest := []) C.1 dX6_sinks_1 em_shM_id (ctX6_layAside l _ _ h) miX6_layAside shM_0 rfl gX6_sinks_X6_layAside rfl (by decide) rfl rfl rfl (Nat.le_of_ble_eq_true rfl) ⟨Nat.zero_le _, Nat.zero_le _⟩ (fun μ2 h => ?_)
  refine jw_aload_n C.1 dX6_sinks_4 rfl 0 rfl ?_
  refine jw_iconst C.1 dX6_sinks_5 ki_0 ?_
  refine jw_iload_n C.1 dX6_sinks_6 rfl 1 rfl ?_
  refine jw_iload_n C.1 dX6_sinks_7 rfl 1 rfl ?_
  refine jw_iconst C.1 dX6_sinks_8 ki_0 ?_
  refine jw_cVV (rest := []) C.1 dX6_sinks_9 em_shM_id (ctX6_comesRoot l _ _ _ _ _ _ h) miX6_comesRoot shM_0 rfl gX6_sinks_X6_comesRoot rfl (by decide) rfl rfl rfl (Nat.le_of_ble_eq_true rfl) ⟨Nat.zero_le _, Nat.zero_le _⟩ (fun μ4 h => ?_)
  refine jw_aload_n C.1 dX6_sinks_12 rfl 0 rfl ?_
  refine jw_getR C.1 iwX6_sinks_X6 rfl shM_0 rfl 0 (by decide) rfl (List.mem_of_getElem? (i := 1) rfl) dX6_sinks_13 ?_
  refine jw_iconst C.1 dX6_sinks_16 ki_3 ?_
  obtain ⟨hi, h⟩ := h
  refine jw_iald C.1 rfl shM_1 hi dX6_sinks_17 ?_
  refine jw_aload_n C.1 dX6_sinks_18 rfl 0 rfl ?_
  refine jw_getR C.1 iwX6_sinks_X6 rfl shM_0 rfl 5 (by decide) rfl (List.mem_of_getElem? (i := 2) rfl) dX6_sinks_19 ?_
  refine jw_iconst C.1 dX6_sinks_22 ki_3 ?_
  obtain ⟨hi, h⟩ := h
  refine jw_iald C.1 rfl shM_5 hi dX6_sinks_23 ?_
  refine jw_isub C.1 dX6_sinks_24 ?_
  refine jw_istore_n (lw := [(2, .int _), (0, .ref _), (1, .int _)]) C.1 dX6_sinks_25 rfl hN_2 rfl ?_
  have h := h _ rfl
  refine jw_aload_n C.1 dX6_sinks_26 rfl 1 rfl ?_
  refine jw_cVV (rest := []) C.1 dX6_sinks_27 em_shM_id (ctX6_bringBack l _ _ h) miX6_bringBack shM_0 rfl gX6_sinks_X6_bringBack rfl (by decide) rfl rfl rfl (Nat.le_of_ble_eq_true rfl) ⟨Nat.zero_le _, Nat.zero_le _⟩ (fun μ7 h => ?_)
  refine jw_iload_n C.1 dX6_sinks_30 rfl 0 rfl ?_
  exact jw_iret (Q := Q) C h dX6_sinks_31
set_option maxRecDepth 100000 in
set_option maxHeartbeats 4000000 in
theorem ctX6_stone (l : Launch) (a1 : Int32) (a2 : Int32) (a3 : Int32) (μ : Mem) (Q : Int32 → Mem → Prop) (h : wpX6_stone a1 a2 a3 μ Q) : Con l yX6_stone wsX6_stone rmX6_stone shM (fun ad => [.ref (ad 0), .int a1, .int a2, .int a3]) μ (pI Q) := by
  refine Con.mk (cc := cX6_stone) (maxL := 4) (ret := (some .int)) (own := RX6) (by decide) rfl rfl (fun _ => Nat.le_of_ble_eq_true rfl) (fun K ad hN C => ?_)
  show JW K (0, 0) shM ad μ 0 [(0, .ref (ad 0)), (1, .int a1), (2, .int a2), (3, .int a3)] []
  unfold wpX6_stone at h
  refine jw_iload_n C.1 dX6_stone_0 rfl 1 rfl ?_
  refine jw_eSI (rest := []) C.1 dX6_stone_1 (ctX6_isNode l _ _ h _) miX6_isNode gX6_stone_X6_isNode (by decide) rfl rfl rfl (Nat.le_of_ble_eq_true rfl) ⟨Nat.zero_le _, Nat.zero_le _⟩ (fun r1 h => ?_)
  refine jw_if_eq C.1 26 dX6_stone_4 (by decide) (fun c => ?_) (fun c => ?_)
  · have h := h.1 c
    refine jw_iconst C.1 dX6_stone_26 ki_m1 ?_
    exact jw_iret (Q := Q) C h dX6_stone_27
  · have h := h.2 c
    refine jw_iload_n C.1 dX6_stone_7 rfl 2 rfl ?_
    refine jw_iconst C.1 dX6_stone_8 ki_0 ?_
    refine jw_aload_n C.1 dX6_stone_9 rfl 0 rfl ?_
    refine jw_getR C.1 iwX6_stone_X6 rfl shM_0 rfl 0 (by decide) rfl (List.mem_of_getElem? (i := 1) rfl) dX6_stone_10 ?_
    refine jw_bipush C.1 dX6_stone_13 kb_72 ?_
    refine jw_iload_n C.1 dX6_stone_15 rfl 1 rfl ?_
    refine jw_iadd C.1 dX6_stone_16 ?_
    obtain ⟨hi, h⟩ := h
    refine jw_iald C.1 rfl shM_1 hi dX6_stone_17 ?_
    refine jw_iconst C.1 dX6_stone_18 ki_1 ?_
    refine jw_isub C.1 dX6_stone_19 ?_
    refine jw_eSI (rest := []) C.1 dX6_stone_20 (ctX6_in l _ _ _ _ h _) miX6_in gX6_stone_X6_in (by decide) rfl rfl rfl (Nat.le_of_ble_eq_true rfl) ⟨Nat.zero_le _, Nat.zero_le _⟩ (fun r2 h => ?_)
    refine jw_if_ne C.1 28 dX6_stone_23 (by decide) (fun c => ?_) (fun c => ?_)
    · have h := h.1 c
      refine jw_iload_n C.1 dX6_stone_28 rfl 3 rfl ?_
      refine jw_iconst C.1 dX6_stone_29 ki_0 ?_
      refine jw_iconst C.1 dX6_stone_30 ki_3 ?_
      refine jw_eSI (rest := []) C.1 dX6_stone_31 (ctX6_in l _ _ _ _ h _) miX6_in gX6_stone_X6_in (by decide) rfl rfl rfl (Nat.le_of_ble_eq_true rfl) ⟨Nat.zero_le _, Nat.zero_le _⟩ (fun r3 h => ?_)
      refine jw_if_eq C.1 58 dX6_stone_34 (by decide) (fun c => ?_) (fun c => ?_)
      · have h := h.1 c
        refine jw_bipush C.1 dX6_stone_58 kb_m2 ?_
        exact jw_iret (Q := Q) C h dX6_stone_60
      · have h := h.2 c
        refine jw_aload_n C.1 dX6_stone_37 rfl 0 rfl ?_
        refine jw_getR C.1 iwX6_stone_X6 rfl shM_0 rfl 0 (by decide) rfl (List.mem_of_getElem? (i := 1) rfl) dX6_stone_38 ?_
        refine jw_bipush C.1 dX6_stone_41 kb_85 ?_
        refine jw_bipush C.1 dX6_stone_43 kb_96 ?_
        refine jw_iload_n C.1 dX6_stone_45 rfl 1 rfl ?_
        refine jw_imul C.1 dX6_stone_46 ?_
        refine jw_iadd C.1 dX6_stone_47 ?_
        refine jw_iconst C.1 dX6_stone_48 ki_4 ?_
        refine jw_iload_n C.1 dX6_stone_49 rfl 2 rfl ?_
        refine jw_imul C.1 dX6_stone_50 ?_
        refine jw_iadd C.1 dX6_stone_51 ?_
        refine jw_iload_n C.1 dX6_stone_52 rfl 3 rfl ?_
        refine jw_iadd C.1 dX6_stone_53 ?_
        obtain ⟨hi, h⟩ := h
        refine jw_iald C.1 rfl shM_1 hi dX6_stone_54 ?_
        refine jw_goto (tgt := 60) C.1 dX6_stone_55 (by decide) ?_
        exact jw_iret (Q := Q) C h dX6_stone_60
    · have h := h.2 c
      refine jw_iconst C.1 dX6_stone_26 ki_m1 ?_
      exact jw_iret (Q := Q) C h dX6_stone_27
set_option maxRecDepth 100000 in
set_option maxHeartbeats 4000000 in
theorem jbX6_sum_26 {K : KT} {l : Launch} {ad : Nat → Nat} {Q : Int32 → Mem → Prop} (hN : kN K = 6) (C : CtxM K l cX6_sum RX6 wsX6_sum rmX6_sum shM ad (some .int) (pI Q)) : ∀ (n : Nat) (x2 : Int32) (x3 : Int32) (x4 : Int32) (μ : Mem), bkX6_sum_26 Q n x2 x3 x4 μ → JW K (0, 0) shM ad μ 26 [(0, .ref (ad 0)), (2, .int x2), (3, .int x3), (4, .int x4)] [] := by
  have hN_3 : 3 < kN K := by rw [hN]; decide
  have hN_4 : 4 < kN K := by rw [hN]; decide
  have hN_5 : 5 < kN K := by rw [hN]; decide
  intro n
  induction n with
  | zero =>
    intro x2 x3 x4 μ h
    exact h.elim
  | succ n ih =>
    intro x2 x3 x4 μ h
    unfold bkX6_sum_26 at h
    refine jw_iload C.1 dX6_sum_26 3 rfl ?_
    refine jw_iload_n C.1 dX6_sum_28 rfl 1 rfl ?_
    refine jw_icmp_gt C.1 62 dX6_sum_29 (by decide) (fun c => ?_) (fun c => ?_)
    · have h := h.1 c
      refine jw_iload_n C.1 dX6_sum_62 rfl 2 rfl ?_
      exact jw_iret (Q := Q) C h dX6_sum_63
    · have h := h.2 c
      refine jw_aload_n C.1 dX6_sum_32 rfl 0 rfl ?_
      refine jw_iload C.1 dX6_sum_33 3 rfl ?_
      refine jw_cVI (rest := []) C.1 dX6_sum_35 em_shM_id (ctX6_readOf l _ _ _ h) miX6_readOf shM_0 rfl gX6_sum_X6_readOf rfl (by decide) rfl rfl rfl (Nat.le_of_ble_eq_true rfl) ⟨Nat.zero_le _, Nat.zero_le _⟩ (fun r3 μ4 h => ?_)
      refine jw_istore (lw := [(5, .int _), (0, .ref _), (2, .int _), (3, .int _), (4, .int _)]) C.1 dX6_sum_38 hN_5 rfl ?_
      refine jw_iload_n C.1 dX6_sum_40 rfl 3 rfl ?_
      refine jw_iload C.1 dX6_sum_41 0 rfl ?_
      refine jw_bipush C.1 dX6_sum_43 kb_m6 ?_
      refine jw_icmp_ne C.1 52 dX6_sum_45 (by decide) (fun c => ?_) (fun c => ?_)
      · have h := h.1 c
        refine jw_iload C.1 dX6_sum_52 0 rfl ?_
        refine jw_iadd C.1 dX6_sum_54 ?_
        refine jw_istore_n (lw := [(3, .int _), (5, .int _), (0, .ref _), (2, .int _), (4, .int _)]) C.1 dX6_sum_55 rfl hN_3 rfl ?_
        have h := h _ rfl
        refine jw_iinc (lw := [(4, .int _), (3, .int _), (5, .int _), (0, .ref _), (2, .int _)]) (q := 4) C.1 dX6_sum_56 rfl (ai_1 _) hN_4 rfl ?_
        have h := h _ rfl
        refine jw_goto (tgt := 26) C.1 dX6_sum_59 (by decide) ?_
        refine jw_sub [3, 4, 1, 0] rfl ?_
        exact ih _ _ _ _ h
      · have h := h.2 c
        refine jw_iconst C.1 dX6_sum_48 ki_0 ?_
        refine jw_goto (tgt := 54) C.1 dX6_sum_49 (by decide) ?_
        refine jw_iadd C.1 dX6_sum_54 ?_
        refine jw_istore_n (lw := [(3, .int _), (5, .int _), (0, .ref _), (2, .int _), (4, .int _)]) C.1 dX6_sum_55 rfl hN_3 rfl ?_
        have h := h _ rfl
        refine jw_iinc (lw := [(4, .int _), (3, .int _), (5, .int _), (0, .ref _), (2, .int _)]) (q := 4) C.1 dX6_sum_56 rfl (ai_1 _) hN_4 rfl ?_
        have h := h _ rfl
        refine jw_goto (tgt := 26) C.1 dX6_sum_59 (by decide) ?_
        refine jw_sub [3, 4, 1, 0] rfl ?_
        exact ih _ _ _ _ h
set_option maxRecDepth 100000 in
set_option maxHeartbeats 4000000 in
theorem ctX6_sum (l : Launch) (a1 : Int32) (a2 : Int32) (μ : Mem) (Q : Int32 → Mem → Prop) (h : wpX6_sum a1 a2 μ Q) : Con l yX6_sum wsX6_sum rmX6_sum shM (fun ad => [.ref (ad 0), .int a1, .int a2]) μ (pI Q) := by
  refine Con.mk (cc := cX6_sum) (maxL := 6) (ret := (some .int)) (own := RX6) (by decide) rfl rfl (fun _ => Nat.le_of_ble_eq_true rfl) (fun K ad hN C => ?_)
  show JW K (0, 0) shM ad μ 0 [(0, .ref (ad 0)), (1, .int a1), (2, .int a2)] []
  have hN_3 : 3 < kN K := by rw [hN]; decide
  have hN_4 : 4 < kN K := by rw [hN]; decide
  have hN_5 : 5 < kN K := by rw [hN]; decide
  unfold wpX6_sum at h
  refine jw_iload_n C.1 dX6_sum_0 rfl 1 rfl ?_
  refine jw_eSI (rest := []) C.1 dX6_sum_1 (ctX6_isKey l _ _ h _) miX6_isKey gX6_sum_X6_isKey (by decide) rfl rfl rfl (Nat.le_of_ble_eq_true rfl) ⟨Nat.zero_le _, Nat.zero_le _⟩ (fun r1 h => ?_)
  refine jw_if_eq C.1 19 dX6_sum_4 (by decide) (fun c => ?_) (fun c => ?_)
  · have h := h.1 c
    refine jw_iconst C.1 dX6_sum_19 ki_m1 ?_
    exact jw_iret (Q := Q) C h dX6_sum_20
  · have h := h.2 c
    refine jw_iload_n C.1 dX6_sum_7 rfl 2 rfl ?_
    refine jw_eSI (rest := []) C.1 dX6_sum_8 (ctX6_isKey l _ _ h _) miX6_isKey gX6_sum_X6_isKey (by decide) rfl rfl rfl (Nat.le_of_ble_eq_true rfl) ⟨Nat.zero_le _, Nat.zero_le _⟩ (fun r2 h => ?_)
    refine jw_if_eq C.1 19 dX6_sum_11 (by decide) (fun c => ?_) (fun c => ?_)
    · have h := h.1 c
      refine jw_iconst C.1 dX6_sum_19 ki_m1 ?_
      exact jw_iret (Q := Q) C h dX6_sum_20
    · have h := h.2 c
      refine jw_iload_n C.1 dX6_sum_14 rfl 2 rfl ?_
      refine jw_iload_n C.1 dX6_sum_15 rfl 1 rfl ?_
      refine jw_icmp_ge C.1 21 dX6_sum_16 (by decide) (fun c => ?_) (fun c => ?_)
      · have h := h.1 c
        refine jw_iconst C.1 dX6_sum_21 ki_0 ?_
        refine jw_istore_n (lw := [(3, .int _), (0, .ref _), (1, .int _), (2, .int _)]) C.1 dX6_sum_22 rfl hN_3 rfl ?_
        refine jw_iload_n C.1 dX6_sum_23 rfl 2 rfl ?_
        refine jw_istore (lw := [(4, .int _), (3, .int _), (0, .ref _), (1, .int _), (2, .int _)]) C.1 dX6_sum_24 hN_4 rfl ?_
        obtain ⟨n, h⟩ := h
        refine jw_sub [2, 4, 1, 0] rfl ?_
        exact jbX6_sum_26 hN C n _ _ _ _ h
      · have h := h.2 c
        refine jw_iconst C.1 dX6_sum_19 ki_m1 ?_
        exact jw_iret (Q := Q) C h dX6_sum_20
set_option maxRecDepth 100000 in
set_option maxHeartbeats 4000000 in
theorem jbX6_toEmptyAll_6 {K : KT} {l : Launch} {ad : Nat → Nat} {Q : Int32 → Mem → Prop} (hN : kN K = 2) (C : CtxM K l cX6_toEmptyAll RX6 wsX6_toEmptyAll rmX6_toEmptyAll shM ad (some .int) (pI Q)) : ∀ (n : Nat) (x1 : Int32) (μ : Mem), bkX6_toEmptyAll_6 Q n x1 μ → JW K (0, 0) shM ad μ 6 [(0, .ref (ad 0)), (1, .int x1)] [] := by
  have hN_1 : 1 < kN K := by rw [hN]; decide
  intro n
  induction n with
  | zero =>
    intro x1 μ h
    exact h.elim
  | succ n ih =>
    intro x1 μ h
    unfold bkX6_toEmptyAll_6 at h
    refine jw_iload_n C.1 dX6_toEmptyAll_6 rfl 1 rfl ?_
    refine jw_bipush C.1 dX6_toEmptyAll_7 kb_13 ?_
    refine jw_icmp_ge C.1 23 dX6_toEmptyAll_9 (by decide) (fun c => ?_) (fun c => ?_)
    · have h := h.1 c
      refine jw_aload_n C.1 dX6_toEmptyAll_23 rfl 0 rfl ?_
      refine jw_getR C.1 iwX6_toEmptyAll_X6 rfl shM_0 rfl 0 (by decide) rfl (List.mem_of_getElem? (i := 1) rfl) dX6_toEmptyAll_24 ?_
      refine jw_iconst C.1 dX6_toEmptyAll_27 ki_3 ?_
      obtain ⟨hi, h⟩ := h
      refine jw_iald C.1 rfl shM_1 hi dX6_toEmptyAll_28 ?_
      refine jw_aload_n C.1 dX6_toEmptyAll_29 rfl 0 rfl ?_
      refine jw_getR C.1 iwX6_toEmptyAll_X6 rfl shM_0 rfl 5 (by decide) rfl (List.mem_of_getElem? (i := 2) rfl) dX6_toEmptyAll_30 ?_
      refine jw_iconst C.1 dX6_toEmptyAll_33 ki_3 ?_
      obtain ⟨hi, h⟩ := h
      refine jw_iald C.1 rfl shM_5 hi dX6_toEmptyAll_34 ?_
      refine jw_isub C.1 dX6_toEmptyAll_35 ?_
      refine jw_istore_n (lw := [(1, .int _), (0, .ref _)]) C.1 dX6_toEmptyAll_36 rfl hN_1 rfl ?_
      have h := h _ rfl
      refine jw_aload_n C.1 dX6_toEmptyAll_37 rfl 1 rfl ?_
      refine jw_cVV (rest := []) C.1 dX6_toEmptyAll_38 em_shM_id (ctX6_bringBack l _ _ h) miX6_bringBack shM_0 rfl gX6_toEmptyAll_X6_bringBack rfl (by decide) rfl rfl rfl (Nat.le_of_ble_eq_true rfl) ⟨Nat.zero_le _, Nat.zero_le _⟩ (fun μ5 h => ?_)
      refine jw_iload_n C.1 dX6_toEmptyAll_41 rfl 0 rfl ?_
      exact jw_iret (Q := Q) C h dX6_toEmptyAll_42
    · have h := h.2 c
      refine jw_aload_n C.1 dX6_toEmptyAll_12 rfl 0 rfl ?_
      refine jw_iload_n C.1 dX6_toEmptyAll_13 rfl 1 rfl ?_
      refine jw_cVV (rest := []) C.1 dX6_toEmptyAll_14 em_shM_id (ctX6_empties l _ _ _ h) miX6_empties shM_0 rfl gX6_toEmptyAll_X6_empties rfl (by decide) rfl rfl rfl (Nat.le_of_ble_eq_true rfl) ⟨Nat.zero_le _, Nat.zero_le _⟩ (fun μ7 h => ?_)
      refine jw_iinc (lw := [(1, .int _), (0, .ref _)]) (q := 1) C.1 dX6_toEmptyAll_17 rfl (ai_1 _) hN_1 rfl ?_
      have h := h _ rfl
      refine jw_goto (tgt := 6) C.1 dX6_toEmptyAll_20 (by decide) ?_
      refine jw_sub [1, 0] rfl ?_
      exact ih _ _ h
set_option maxRecDepth 100000 in
set_option maxHeartbeats 4000000 in
theorem ctX6_toEmptyAll (l : Launch) (μ : Mem) (Q : Int32 → Mem → Prop) (h : wpX6_toEmptyAll μ Q) : Con l yX6_toEmptyAll wsX6_toEmptyAll rmX6_toEmptyAll shM (fun ad => [.ref (ad 0)]) μ (pI Q) := by
  refine Con.mk (cc := cX6_toEmptyAll) (maxL := 2) (ret := (some .int)) (own := RX6) (by decide) rfl rfl (fun _ => Nat.le_of_ble_eq_true rfl) (fun K ad hN C => ?_)
  show JW K (0, 0) shM ad μ 0 [(0, .ref (ad 0))] []
  have hN_1 : 1 < kN K := by rw [hN]; decide
  unfold wpX6_toEmptyAll at h
  refine jw_aload_n C.1 dX6_toEmptyAll_0 rfl 0 rfl ?_
  refine jw_cVV (rest := []) C.1 dX6_toEmptyAll_1 em_shM_id (ctX6_layAside l _ _ h) miX6_layAside shM_0 rfl gX6_toEmptyAll_X6_layAside rfl (by decide) rfl rfl rfl (Nat.le_of_ble_eq_true rfl) ⟨Nat.zero_le _, Nat.zero_le _⟩ (fun μ2 h => ?_)
  refine jw_iconst C.1 dX6_toEmptyAll_4 ki_0 ?_
  refine jw_istore_n (lw := [(1, .int _), (0, .ref _)]) C.1 dX6_toEmptyAll_5 rfl hN_1 rfl ?_
  obtain ⟨n, h⟩ := h
  refine jw_sub [1, 0] rfl ?_
  exact jbX6_toEmptyAll_6 hN C n _ _ h
set_option maxRecDepth 100000 in
set_option maxHeartbeats 4000000 in
theorem jbX6_undo_22 {K : KT} {l : Launch} {ad : Nat → Nat} {Q : Int32 → Mem → Prop} (hN : kN K = 2) (C : CtxM K l cX6_undo RX6 wsX6_undo rmX6_undo shM ad (some .int) (pI Q)) : ∀ (n : Nat) (x1 : Int32) (μ : Mem), bkX6_undo_22 Q n x1 μ → JW K (0, 0) shM ad μ 22 [(0, .ref (ad 0)), (1, .int x1)] [] := by
  have hN_1 : 1 < kN K := by rw [hN]; decide
  intro n
  induction n with
  | zero =>
    intro x1 μ h
    exact h.elim
  | succ n ih =>
    intro x1 μ h
    unfold bkX6_undo_22 at h
    refine jw_iload_n C.1 dX6_undo_22 rfl 1 rfl ?_
    refine jw_sipush C.1 dX6_undo_23 ks_1333 ?_
    refine jw_icmp_ge C.1 56 dX6_undo_26 (by decide) (fun c => ?_) (fun c => ?_)
    · have h := h.1 c
      refine jw_aload_n C.1 dX6_undo_56 rfl 0 rfl ?_
      refine jw_getI C.1 iwX6_undo_X6 rfl shM_0 rfl 2 (by decide) rfl (List.mem_of_getElem? (i := 1) rfl) dX6_undo_57 ?_
      exact jw_iret (Q := Q) C h dX6_undo_60
    · have h := h.2 c
      refine jw_aload_n C.1 dX6_undo_29 rfl 0 rfl ?_
      refine jw_getR C.1 iwX6_undo_X6 rfl shM_0 rfl 0 (by decide) rfl (List.mem_of_getElem? (i := 2) rfl) dX6_undo_30 ?_
      refine jw_iload_n C.1 dX6_undo_33 rfl 1 rfl ?_
      refine jw_aload_n C.1 dX6_undo_34 rfl 0 rfl ?_
      refine jw_getR C.1 iwX6_undo_X6 rfl shM_0 rfl 1 (by decide) rfl (List.mem_of_getElem? (i := 3) rfl) dX6_undo_35 ?_
      refine jw_sipush C.1 dX6_undo_38 ks_1333 ?_
      refine jw_aload_n C.1 dX6_undo_41 rfl 0 rfl ?_
      refine jw_getI C.1 iwX6_undo_X6 rfl shM_0 rfl 2 (by decide) rfl (List.mem_of_getElem? (i := 1) rfl) dX6_undo_42 ?_
      refine jw_imul C.1 dX6_undo_45 ?_
      refine jw_iload_n C.1 dX6_undo_46 rfl 1 rfl ?_
      refine jw_iadd C.1 dX6_undo_47 ?_
      obtain ⟨hi, h⟩ := h
      refine jw_iald C.1 rfl shM_2 hi dX6_undo_48 ?_
      obtain ⟨hi, h⟩ := h
      refine jw_iast C.1 rfl shM_1 hi dX6_undo_49 ?_
      have h := h _ rfl
      refine jw_iinc (lw := [(1, .int _), (0, .ref _)]) (q := 1) C.1 dX6_undo_50 rfl (ai_1 _) hN_1 rfl ?_
      have h := h _ rfl
      refine jw_goto (tgt := 22) C.1 dX6_undo_53 (by decide) ?_
      refine jw_sub [1, 0] rfl ?_
      exact ih _ _ h
set_option maxRecDepth 100000 in
set_option maxHeartbeats 4000000 in
theorem ctX6_undo (l : Launch) (μ : Mem) (Q : Int32 → Mem → Prop) (h : wpX6_undo μ Q) : Con l yX6_undo wsX6_undo rmX6_undo shM (fun ad => [.ref (ad 0)]) μ (pI Q) := by
  refine Con.mk (cc := cX6_undo) (maxL := 2) (ret := (some .int)) (own := RX6) (by decide) rfl rfl (fun _ => Nat.le_of_ble_eq_true rfl) (fun K ad hN C => ?_)
  show JW K (0, 0) shM ad μ 0 [(0, .ref (ad 0))] []
  have hN_1 : 1 < kN K := by rw [hN]; decide
  unfold wpX6_undo at h
  refine jw_aload_n C.1 dX6_undo_0 rfl 0 rfl ?_
  refine jw_getI C.1 iwX6_undo_X6 rfl shM_0 rfl 2 (by decide) rfl (List.mem_of_getElem? (i := 1) rfl) dX6_undo_1 ?_
  refine jw_if_ne C.1 10 dX6_undo_4 (by decide) (fun c => ?_) (fun c => ?_)
  · have h := h.1 c
    refine jw_aload_n C.1 dX6_undo_10 rfl 0 rfl ?_
    refine jw_dup C.1 dX6_undo_11 rfl ?_
    refine jw_getI C.1 iwX6_undo_X6 rfl shM_0 rfl 2 (by decide) rfl (List.mem_of_getElem? (i := 1) rfl) dX6_undo_12 ?_
    refine jw_iconst C.1 dX6_undo_15 ki_1 ?_
    refine jw_isub C.1 dX6_undo_16 ?_
    refine jw_putI C.1 iwX6_undo_X6 rfl shM_0 rfl 2 (by decide) tyX6 tyX6_ok nmX6 (j := 0) rfl fuX6_2 (List.mem_of_getElem? (i := 1) rfl) rfl (ty := .int) (by decide +kernel) rfl rfl dX6_undo_17 ?_
    have h := h _ rfl
    refine jw_iconst C.1 dX6_undo_20 ki_0 ?_
    refine jw_istore_n (lw := [(1, .int _), (0, .ref _)]) C.1 dX6_undo_21 rfl hN_1 rfl ?_
    obtain ⟨n, h⟩ := h
    refine jw_sub [1, 0] rfl ?_
    exact jbX6_undo_22 hN C n _ _ h
  · have h := h.2 c
    refine jw_bipush C.1 dX6_undo_7 kb_m5 ?_
    exact jw_iret (Q := Q) C h dX6_undo_9
set_option maxRecDepth 100000 in
set_option maxHeartbeats 4000000 in
theorem ctX6_wipe (l : Launch) (μ : Mem) (Q : Int32 → Mem → Prop) (h : wpX6_wipe μ Q) : Con l yX6_wipe wsX6_wipe rmX6_wipe shM (fun ad => [.ref (ad 0)]) μ (pI Q) := by
  refine Con.mk (cc := cX6_wipe) (maxL := 2) (ret := (some .int)) (own := RX6) (by decide) rfl rfl (fun _ => Nat.le_of_ble_eq_true rfl) (fun K ad hN C => ?_)
  show JW K (0, 0) shM ad μ 0 [(0, .ref (ad 0))] []
  have hN_1 : 1 < kN K := by rw [hN]; decide
  unfold wpX6_wipe at h
  refine jw_aload_n C.1 dX6_wipe_0 rfl 0 rfl ?_
  refine jw_getI C.1 iwX6_wipe_X6 rfl shM_0 rfl 9 (by decide) rfl (List.mem_of_getElem? (i := 1) rfl) dX6_wipe_1 ?_
  refine jw_istore_n (lw := [(1, .int _), (0, .ref _)]) C.1 dX6_wipe_4 rfl hN_1 rfl ?_
  have h := h _ rfl
  refine jw_aload_n C.1 dX6_wipe_5 rfl 1 rfl ?_
  refine jw_iconst C.1 dX6_wipe_6 ki_0 ?_
  refine jw_putI C.1 iwX6_wipe_X6 rfl shM_0 rfl 9 (by decide) tyX6 tyX6_ok nmX6 (j := 1) rfl fuX6_9 (List.mem_of_getElem? (i := 1) rfl) rfl (ty := .int) (by decide +kernel) rfl rfl dX6_wipe_7 ?_
  have h := h _ rfl
  refine jw_iload_n C.1 dX6_wipe_10 rfl 0 rfl ?_
  exact jw_iret (Q := Q) C h dX6_wipe_11
set_option maxRecDepth 100000 in
set_option maxHeartbeats 4000000 in
theorem jbX6_worstKey_46 {K : KT} {l : Launch} {ad : Nat → Nat} {Q : Int32 → Mem → Prop} (hN : kN K = 6) (C : CtxM K l cX6_worstKey RX6 wsX6_worstKey rmX6_worstKey shM ad (some .int) (pI Q)) (L19 : Int32 → Int32 → Int32 → Int32 → Mem → Prop) (hL19 : ∀ (x1 : Int32) (x2 : Int32) (x3 : Int32) (x4 : Int32) (μ : Mem), L19 x1 x2 x3 x4 μ → JW K (0, 0) shM ad μ 19 [(0, .ref (ad 0)), (1, .int x1), (2, .int x2), (3, .int x3), (4, .int x4)] []) (x1 : Int32) (x3 : Int32) (x4 : Int32) (x5 : Int32) (s0 : Int32) (μ : Mem) (h : bkX6_worstKey_46 Q L19 x1 x3 x4 x5 s0 μ) : JW K (0, 0) shM ad μ 46 [(0, .ref (ad 0)), (1, .int x1), (3, .int x3), (4, .int x4), (5, .int x5)] [.int s0] := by
  have hN_2 : 2 < kN K := by rw [hN]; decide
  have hN_3 : 3 < kN K := by rw [hN]; decide
  have hN_4 : 4 < kN K := by rw [hN]; decide
  have hN_5 : 5 < kN K := by rw [hN]; decide
  unfold bkX6_worstKey_46 at h
  refine jw_istore_n (lw := [(2, .int _), (0, .ref _), (1, .int _), (3, .int _), (4, .int _), (5, .int _)]) C.1 dX6_worstKey_46 rfl hN_2 rfl ?_
  refine jw_iload C.1 dX6_worstKey_47 5 rfl ?_
  refine jw_iload_n C.1 dX6_worstKey_49 rfl 3 rfl ?_
  refine jw_icmp_le C.1 58 dX6_worstKey_50 (by decide) (fun c => ?_) (fun c => ?_)
  · have h := h.1 c
    refine jw_iload_n C.1 dX6_worstKey_58 rfl 3 rfl ?_
    refine jw_istore_n (lw := [(3, .int _), (2, .int _), (0, .ref _), (1, .int _), (4, .int _), (5, .int _)]) C.1 dX6_worstKey_59 rfl hN_3 rfl ?_
    refine jw_iinc (lw := [(4, .int _), (3, .int _), (2, .int _), (0, .ref _), (1, .int _), (5, .int _)]) (q := 4) C.1 dX6_worstKey_60 rfl (ai_1 _) hN_4 rfl ?_
    have h := h _ rfl
    refine jw_goto (tgt := 19) C.1 dX6_worstKey_63 (by decide) ?_
    refine jw_sub [3, 4, 2, 1, 0] rfl ?_
    exact hL19 _ _ _ _ _ h
  · have h := h.2 c
    refine jw_iload C.1 dX6_worstKey_53 5 rfl ?_
    refine jw_goto (tgt := 59) C.1 dX6_worstKey_55 (by decide) ?_
    refine jw_istore_n (lw := [(3, .int _), (2, .int _), (0, .ref _), (1, .int _), (4, .int _), (5, .int _)]) C.1 dX6_worstKey_59 rfl hN_3 rfl ?_
    refine jw_iinc (lw := [(4, .int _), (3, .int _), (2, .int _), (0, .ref _), (1, .int _), (5, .int _)]) (q := 4) C.1 dX6_worstKey_60 rfl (ai_1 _) hN_4 rfl ?_
    have h := h _ rfl
    refine jw_goto (tgt := 19) C.1 dX6_worstKey_63 (by decide) ?_
    refine jw_sub [3, 4, 2, 1, 0] rfl ?_
    exact hL19 _ _ _ _ _ h
set_option maxRecDepth 100000 in
set_option maxHeartbeats 4000000 in
theorem jbX6_worstKey_19 {K : KT} {l : Launch} {ad : Nat → Nat} {Q : Int32 → Mem → Prop} (hN : kN K = 6) (C : CtxM K l cX6_worstKey RX6 wsX6_worstKey rmX6_worstKey shM ad (some .int) (pI Q)) : ∀ (n : Nat) (x1 : Int32) (x2 : Int32) (x3 : Int32) (x4 : Int32) (μ : Mem), bkX6_worstKey_19 Q n x1 x2 x3 x4 μ → JW K (0, 0) shM ad μ 19 [(0, .ref (ad 0)), (1, .int x1), (2, .int x2), (3, .int x3), (4, .int x4)] [] := by
  have hN_2 : 2 < kN K := by rw [hN]; decide
  have hN_3 : 3 < kN K := by rw [hN]; decide
  have hN_4 : 4 < kN K := by rw [hN]; decide
  have hN_5 : 5 < kN K := by rw [hN]; decide
  intro n
  induction n with
  | zero =>
    intro x1 x2 x3 x4 μ h
    exact h.elim
  | succ n ih =>
    intro x1 x2 x3 x4 μ h
    unfold bkX6_worstKey_19 at h
    refine jw_iload C.1 dX6_worstKey_19 4 rfl ?_
    refine jw_bipush C.1 dX6_worstKey_21 kb_27 ?_
    refine jw_icmp_ge C.1 66 dX6_worstKey_23 (by decide) (fun c => ?_) (fun c => ?_)
    · have h := h.1 c
      refine jw_iload_n C.1 dX6_worstKey_66 rfl 1 rfl ?_
      refine jw_if_ne C.1 74 dX6_worstKey_67 (by decide) (fun c => ?_) (fun c => ?_)
      · have h := h.1 c
        refine jw_iload_n C.1 dX6_worstKey_74 rfl 3 rfl ?_
        exact jw_iret (Q := Q) C h dX6_worstKey_75
      · have h := h.2 c
        refine jw_iload_n C.1 dX6_worstKey_70 rfl 2 rfl ?_
        refine jw_goto (tgt := 75) C.1 dX6_worstKey_71 (by decide) ?_
        exact jw_iret (Q := Q) C h dX6_worstKey_75
    · have h := h.2 c
      refine jw_aload_n C.1 dX6_worstKey_26 rfl 0 rfl ?_
      refine jw_iload C.1 dX6_worstKey_27 4 rfl ?_
      refine jw_cVI (rest := []) C.1 dX6_worstKey_29 em_shM_id (ctX6_sinks l _ _ _ h) miX6_sinks shM_0 rfl gX6_worstKey_X6_sinks rfl (by decide) rfl rfl rfl (Nat.le_of_ble_eq_true rfl) ⟨Nat.zero_le _, Nat.zero_le _⟩ (fun r2 μ3 h => ?_)
      refine jw_istore (lw := [(5, .int _), (0, .ref _), (1, .int _), (2, .int _), (3, .int _), (4, .int _)]) C.1 dX6_worstKey_32 hN_5 rfl ?_
      refine jw_iload C.1 dX6_worstKey_34 0 rfl ?_
      refine jw_iload_n C.1 dX6_worstKey_36 rfl 4 rfl ?_
      refine jw_icmp_le C.1 45 dX6_worstKey_37 (by decide) (fun c => ?_) (fun c => ?_)
      · have h := h.1 c
        refine jw_iload_n C.1 dX6_worstKey_45 rfl 3 rfl ?_
        refine jw_sub [1, 2, 4, 5, 0] rfl ?_
        exact jbX6_worstKey_46 hN C _ ih _ _ _ _ _ _ h
      · have h := h.2 c
        refine jw_iload C.1 dX6_worstKey_40 5 rfl ?_
        refine jw_goto (tgt := 46) C.1 dX6_worstKey_42 (by decide) ?_
        refine jw_sub [1, 2, 4, 5, 0] rfl ?_
        exact jbX6_worstKey_46 hN C _ ih _ _ _ _ _ _ h
set_option maxRecDepth 100000 in
set_option maxHeartbeats 4000000 in
theorem ctX6_worstKey (l : Launch) (a1 : Int32) (μ : Mem) (Q : Int32 → Mem → Prop) (h : wpX6_worstKey a1 μ Q) : Con l yX6_worstKey wsX6_worstKey rmX6_worstKey shM (fun ad => [.ref (ad 0), .int a1]) μ (pI Q) := by
  refine Con.mk (cc := cX6_worstKey) (maxL := 6) (ret := (some .int)) (own := RX6) (by decide) rfl rfl (fun _ => Nat.le_of_ble_eq_true rfl) (fun K ad hN C => ?_)
  show JW K (0, 0) shM ad μ 0 [(0, .ref (ad 0)), (1, .int a1)] []
  have hN_2 : 2 < kN K := by rw [hN]; decide
  have hN_3 : 3 < kN K := by rw [hN]; decide
  have hN_4 : 4 < kN K := by rw [hN]; decide
  have hN_5 : 5 < kN K := by rw [hN]; decide
  unfold wpX6_worstKey at h
  refine jw_iload_n C.1 dX6_worstKey_0 rfl 1 rfl ?_
  refine jw_iconst C.1 dX6_worstKey_1 ki_0 ?_
  refine jw_iconst C.1 dX6_worstKey_2 ki_1 ?_
  refine jw_eSI (rest := []) C.1 dX6_worstKey_3 (ctX6_in l _ _ _ _ h _) miX6_in gX6_worstKey_X6_in (by decide) rfl rfl rfl (Nat.le_of_ble_eq_true rfl) ⟨Nat.zero_le _, Nat.zero_le _⟩ (fun r1 h => ?_)
  refine jw_if_ne C.1 12 dX6_worstKey_6 (by decide) (fun c => ?_) (fun c => ?_)
  · have h := h.1 c
    refine jw_iconst C.1 dX6_worstKey_12 ki_0 ?_
    refine jw_istore_n (lw := [(2, .int _), (0, .ref _), (1, .int _)]) C.1 dX6_worstKey_13 rfl hN_2 rfl ?_
    refine jw_iconst C.1 dX6_worstKey_14 ki_m1 ?_
    refine jw_istore_n (lw := [(3, .int _), (2, .int _), (0, .ref _), (1, .int _)]) C.1 dX6_worstKey_15 rfl hN_3 rfl ?_
    refine jw_iconst C.1 dX6_worstKey_16 ki_0 ?_
    refine jw_istore (lw := [(4, .int _), (3, .int _), (2, .int _), (0, .ref _), (1, .int _)]) C.1 dX6_worstKey_17 hN_4 rfl ?_
    obtain ⟨n, h⟩ := h
    refine jw_sub [3, 4, 2, 1, 0] rfl ?_
    exact jbX6_worstKey_19 hN C n _ _ _ _ _ h
  · have h := h.2 c
    refine jw_bipush C.1 dX6_worstKey_9 kb_m2 ?_
    exact jw_iret (Q := Q) C h dX6_worstKey_11
set_option maxRecDepth 100000 in
set_option maxHeartbeats 4000000 in
theorem ctX6_wouldSink (l : Launch) (a1 : Int32) (μ : Mem) (Q : Int32 → Mem → Prop) (h : wpX6_wouldSink a1 μ Q) : Con l yX6_wouldSink wsX6_wouldSink rmX6_wouldSink shM (fun ad => [.ref (ad 0), .int a1]) μ (pI Q) := by
  refine Con.mk (cc := cX6_wouldSink) (maxL := 2) (ret := (some .int)) (own := RX6) (by decide) rfl rfl (fun _ => Nat.le_of_ble_eq_true rfl) (fun K ad hN C => ?_)
  show JW K (0, 0) shM ad μ 0 [(0, .ref (ad 0)), (1, .int a1)] []
  unfold wpX6_wouldSink at h
  refine jw_iload_n C.1 dX6_wouldSink_0 rfl 1 rfl ?_
  refine jw_eSI (rest := []) C.1 dX6_wouldSink_1 (ctX6_isKey l _ _ h _) miX6_isKey gX6_wouldSink_X6_isKey (by decide) rfl rfl rfl (Nat.le_of_ble_eq_true rfl) ⟨Nat.zero_le _, Nat.zero_le _⟩ (fun r1 h => ?_)
  refine jw_if_eq C.1 15 dX6_wouldSink_4 (by decide) (fun c => ?_) (fun c => ?_)
  · have h := h.1 c
    refine jw_iconst C.1 dX6_wouldSink_15 ki_m1 ?_
    exact jw_iret (Q := Q) C h dX6_wouldSink_16
  · have h := h.2 c
    refine jw_aload_n C.1 dX6_wouldSink_7 rfl 0 rfl ?_
    refine jw_iload_n C.1 dX6_wouldSink_8 rfl 1 rfl ?_
    refine jw_cVI (rest := []) C.1 dX6_wouldSink_9 em_shM_id (ctX6_sinks l _ _ _ h) miX6_sinks shM_0 rfl gX6_wouldSink_X6_sinks rfl (by decide) rfl rfl rfl (Nat.le_of_ble_eq_true rfl) ⟨Nat.zero_le _, Nat.zero_le _⟩ (fun r2 μ3 h => ?_)
    refine jw_goto (tgt := 16) C.1 dX6_wouldSink_12 (by decide) ?_
    exact jw_iret (Q := Q) C h dX6_wouldSink_16
