/-! contracts, by program -/
set_option maxRecDepth 100000 in
set_option maxHeartbeats 4000000 in
theorem ctX2_childNode (l : Launch) (a1 : Int32) (a2 : Int32) (Q : Int32 → Prop) (h : wpX2_childNode a1 a2 Q) (μ : Mem) : Con l yX2_childNode wsX2_childNode rmX2_childNode [] (fun _ => [.int a1, .int a2]) μ (pI (fun r _ => Q r)) := by
  refine Con.mk (cc := cX2_childNode) (maxL := 2) (ret := (some .int)) (own := RX2) (by decide) rfl rfl (fun _ => Nat.le_of_ble_eq_true rfl) (fun K ad hN C => ?_)
  show JW K (0, 0) [] ad μ 0 [(0, .int a1), (1, .int a2)] []
  unfold wpX2_childNode at h
  refine jw_iconst C.1 dX2_childNode_0 ki_3 ?_
  refine jw_iload_n C.1 dX2_childNode_1 rfl 0 rfl ?_
  refine jw_imul C.1 dX2_childNode_2 ?_
  refine jw_iconst C.1 dX2_childNode_3 ki_1 ?_
  refine jw_iadd C.1 dX2_childNode_4 ?_
  refine jw_iload_n C.1 dX2_childNode_5 rfl 1 rfl ?_
  refine jw_iadd C.1 dX2_childNode_6 ?_
  exact jw_iret (Q := fun r _ => Q r) C h dX2_childNode_7
set_option maxRecDepth 100000 in
set_option maxHeartbeats 4000000 in
theorem ctX2_firstKey (l : Launch) (a1 : Int32) (Q : Int32 → Prop) (h : wpX2_firstKey a1 Q) (μ : Mem) : Con l yX2_firstKey wsX2_firstKey rmX2_firstKey [] (fun _ => [.int a1]) μ (pI (fun r _ => Q r)) := by
  refine Con.mk (cc := cX2_firstKey) (maxL := 1) (ret := (some .int)) (own := RX2) (by decide) rfl rfl (fun _ => Nat.le_of_ble_eq_true rfl) (fun K ad hN C => ?_)
  show JW K (0, 0) [] ad μ 0 [(0, .int a1)] []
  obtain ⟨t1, t2, hZ1, hT1, hZ2, hT2⟩ := C.1.st
  unfold wpX2_firstKey at h
  refine jw_iload_n C.1 dX2_firstKey_0 rfl 0 rfl ?_
  refine jw_if_lt C.1 20 dX2_firstKey_1 (by decide) (fun c => ?_) (fun c => ?_)
  · have h := h.1 c
    refine jw_iconst C.1 dX2_firstKey_20 ki_0 ?_
    exact jw_iret (Q := fun r _ => Q r) C h dX2_firstKey_21
  · have h := h.2 c
    refine jw_iload_n C.1 dX2_firstKey_4 rfl 0 rfl ?_
    refine jw_gets C.1 hZ1 (List.mem_of_getElem? (i := 1) rfl) dX2_firstKey_5 ?_
    refine jw_tlen C.1 hT1 (v := 13) (by decide) dX2_firstKey_8 ?_
    refine jw_icmp_ge C.1 20 dX2_firstKey_9 (by decide) (fun c => ?_) (fun c => ?_)
    · have h := h.1 c
      refine jw_iconst C.1 dX2_firstKey_20 ki_0 ?_
      exact jw_iret (Q := fun r _ => Q r) C h dX2_firstKey_21
    · have h := h.2 c
      refine jw_gets C.1 hZ1 (List.mem_of_getElem? (i := 1) rfl) dX2_firstKey_12 ?_
      refine jw_iload_n C.1 dX2_firstKey_15 rfl 0 rfl ?_
      obtain ⟨hi, h⟩ := h
      refine jw_tald C.1 hT1 hi dX2_firstKey_16 ?_
      refine jw_goto (tgt := 21) C.1 dX2_firstKey_17 (by decide) ?_
      exact jw_iret (Q := fun r _ => Q r) C h dX2_firstKey_21
set_option maxRecDepth 100000 in
set_option maxHeartbeats 4000000 in
theorem ctX2_keysOfChild (l : Launch) (a1 : Int32) (Q : Int32 → Prop) (h : wpX2_keysOfChild a1 Q) (μ : Mem) : Con l yX2_keysOfChild wsX2_keysOfChild rmX2_keysOfChild [] (fun _ => [.int a1]) μ (pI (fun r _ => Q r)) := by
  refine Con.mk (cc := cX2_keysOfChild) (maxL := 1) (ret := (some .int)) (own := RX2) (by decide) rfl rfl (fun _ => Nat.le_of_ble_eq_true rfl) (fun K ad hN C => ?_)
  show JW K (0, 0) [] ad μ 0 [(0, .int a1)] []
  obtain ⟨t1, t2, hZ1, hT1, hZ2, hT2⟩ := C.1.st
  unfold wpX2_keysOfChild at h
  refine jw_iload_n C.1 dX2_keysOfChild_0 rfl 0 rfl ?_
  refine jw_if_lt C.1 20 dX2_keysOfChild_1 (by decide) (fun c => ?_) (fun c => ?_)
  · have h := h.1 c
    refine jw_iconst C.1 dX2_keysOfChild_20 ki_0 ?_
    exact jw_iret (Q := fun r _ => Q r) C h dX2_keysOfChild_21
  · have h := h.2 c
    refine jw_iload_n C.1 dX2_keysOfChild_4 rfl 0 rfl ?_
    refine jw_gets C.1 hZ2 (List.mem_of_getElem? (i := 1) rfl) dX2_keysOfChild_5 ?_
    refine jw_tlen C.1 hT2 (v := 13) (by decide) dX2_keysOfChild_8 ?_
    refine jw_icmp_ge C.1 20 dX2_keysOfChild_9 (by decide) (fun c => ?_) (fun c => ?_)
    · have h := h.1 c
      refine jw_iconst C.1 dX2_keysOfChild_20 ki_0 ?_
      exact jw_iret (Q := fun r _ => Q r) C h dX2_keysOfChild_21
    · have h := h.2 c
      refine jw_gets C.1 hZ2 (List.mem_of_getElem? (i := 1) rfl) dX2_keysOfChild_12 ?_
      refine jw_iload_n C.1 dX2_keysOfChild_15 rfl 0 rfl ?_
      obtain ⟨hi, h⟩ := h
      refine jw_tald C.1 hT2 hi dX2_keysOfChild_16 ?_
      refine jw_goto (tgt := 21) C.1 dX2_keysOfChild_17 (by decide) ?_
      exact jw_iret (Q := fun r _ => Q r) C h dX2_keysOfChild_21
set_option maxRecDepth 100000 in
set_option maxHeartbeats 4000000 in
theorem ctX2_firstKeyOfChild (l : Launch) (a1 : Int32) (a2 : Int32) (Q : Int32 → Prop) (h : wpX2_firstKeyOfChild a1 a2 Q) (μ : Mem) : Con l yX2_firstKeyOfChild wsX2_firstKeyOfChild rmX2_firstKeyOfChild [] (fun _ => [.int a1, .int a2]) μ (pI (fun r _ => Q r)) := by
  refine Con.mk (cc := cX2_firstKeyOfChild) (maxL := 2) (ret := (some .int)) (own := RX2) (by decide) rfl rfl (fun _ => Nat.le_of_ble_eq_true rfl) (fun K ad hN C => ?_)
  show JW K (0, 0) [] ad μ 0 [(0, .int a1), (1, .int a2)] []
  unfold wpX2_firstKeyOfChild at h
  refine jw_iload_n C.1 dX2_firstKeyOfChild_0 rfl 0 rfl ?_
  refine jw_eSI (rest := []) C.1 dX2_firstKeyOfChild_1 (ctX2_firstKey l _ _ h _) miX2_firstKey gX2_firstKeyOfChild_X2_firstKey (by decide) rfl rfl rfl (Nat.le_of_ble_eq_true rfl) ⟨Nat.zero_le _, Nat.zero_le _⟩ (fun r1 h => ?_)
  refine jw_iload_n C.1 dX2_firstKeyOfChild_4 rfl 1 rfl ?_
  refine jw_iload_n C.1 dX2_firstKeyOfChild_5 rfl 0 rfl ?_
  refine jw_eSI (rest := [.int _, .int _]) C.1 dX2_firstKeyOfChild_6 (ctX2_keysOfChild l _ _ h _) miX2_keysOfChild gX2_firstKeyOfChild_X2_keysOfChild (by decide) rfl rfl rfl (Nat.le_of_ble_eq_true rfl) ⟨Nat.zero_le _, Nat.zero_le _⟩ (fun r2 h => ?_)
  refine jw_imul C.1 dX2_firstKeyOfChild_9 ?_
  refine jw_iadd C.1 dX2_firstKeyOfChild_10 ?_
  exact jw_iret (Q := fun r _ => Q r) C h dX2_firstKeyOfChild_11
set_option maxRecDepth 100000 in
set_option maxHeartbeats 4000000 in
theorem ctX2_isLow (l : Launch) (a1 : Int32) (Q : Int32 → Prop) (h : wpX2_isLow a1 Q) (μ : Mem) : Con l yX2_isLow wsX2_isLow rmX2_isLow [] (fun _ => [.int a1]) μ (pI (fun r _ => Q r)) := by
  refine Con.mk (cc := cX2_isLow) (maxL := 1) (ret := (some .boolean)) (own := RX2) (by decide) rfl rfl (fun _ => Nat.le_of_ble_eq_true rfl) (fun K ad hN C => ?_)
  show JW K (0, 0) [] ad μ 0 [(0, .int a1)] []
  unfold wpX2_isLow at h
  refine jw_iload_n C.1 dX2_isLow_0 rfl 0 rfl ?_
  refine jw_iconst C.1 dX2_isLow_1 ki_4 ?_
  refine jw_icmp_lt C.1 9 dX2_isLow_2 (by decide) (fun c => ?_) (fun c => ?_)
  · have h := h.1 c
    refine jw_iconst C.1 dX2_isLow_9 ki_0 ?_
    exact jw_zret (Q := fun r _ => Q r) C rfl h dX2_isLow_10
  · have h := h.2 c
    refine jw_iconst C.1 dX2_isLow_5 ki_1 ?_
    refine jw_goto (tgt := 10) C.1 dX2_isLow_6 (by decide) ?_
    exact jw_zret (Q := fun r _ => Q r) C rfl h dX2_isLow_10
set_option maxRecDepth 100000 in
set_option maxHeartbeats 4000000 in
theorem ctX2_lastKeyOfChild (l : Launch) (a1 : Int32) (a2 : Int32) (Q : Int32 → Prop) (h : wpX2_lastKeyOfChild a1 a2 Q) (μ : Mem) : Con l yX2_lastKeyOfChild wsX2_lastKeyOfChild rmX2_lastKeyOfChild [] (fun _ => [.int a1, .int a2]) μ (pI (fun r _ => Q r)) := by
  refine Con.mk (cc := cX2_lastKeyOfChild) (maxL := 2) (ret := (some .int)) (own := RX2) (by decide) rfl rfl (fun _ => Nat.le_of_ble_eq_true rfl) (fun K ad hN C => ?_)
  show JW K (0, 0) [] ad μ 0 [(0, .int a1), (1, .int a2)] []
  unfold wpX2_lastKeyOfChild at h
  refine jw_iload_n C.1 dX2_lastKeyOfChild_0 rfl 0 rfl ?_
  refine jw_iload_n C.1 dX2_lastKeyOfChild_1 rfl 1 rfl ?_
  refine jw_iconst C.1 dX2_lastKeyOfChild_2 ki_1 ?_
  refine jw_iadd C.1 dX2_lastKeyOfChild_3 ?_
  refine jw_eSI (rest := []) C.1 dX2_lastKeyOfChild_4 (ctX2_firstKeyOfChild l _ _ _ h _) miX2_firstKeyOfChild gX2_lastKeyOfChild_X2_firstKeyOfChild (by decide) rfl rfl rfl (Nat.le_of_ble_eq_true rfl) ⟨Nat.zero_le _, Nat.zero_le _⟩ (fun r1 h => ?_)
  refine jw_iconst C.1 dX2_lastKeyOfChild_7 ki_1 ?_
  refine jw_isub C.1 dX2_lastKeyOfChild_8 ?_
  exact jw_iret (Q := fun r _ => Q r) C h dX2_lastKeyOfChild_9
set_option maxRecDepth 100000 in
set_option maxHeartbeats 4000000 in
theorem ctX2_lastKey (l : Launch) (a1 : Int32) (Q : Int32 → Prop) (h : wpX2_lastKey a1 Q) (μ : Mem) : Con l yX2_lastKey wsX2_lastKey rmX2_lastKey [] (fun _ => [.int a1]) μ (pI (fun r _ => Q r)) := by
  refine Con.mk (cc := cX2_lastKey) (maxL := 1) (ret := (some .int)) (own := RX2) (by decide) rfl rfl (fun _ => Nat.le_of_ble_eq_true rfl) (fun K ad hN C => ?_)
  show JW K (0, 0) [] ad μ 0 [(0, .int a1)] []
  unfold wpX2_lastKey at h
  refine jw_iload_n C.1 dX2_lastKey_0 rfl 0 rfl ?_
  refine jw_iconst C.1 dX2_lastKey_1 ki_2 ?_
  refine jw_eSI (rest := []) C.1 dX2_lastKey_2 (ctX2_lastKeyOfChild l _ _ _ h _) miX2_lastKeyOfChild gX2_lastKey_X2_lastKeyOfChild (by decide) rfl rfl rfl (Nat.le_of_ble_eq_true rfl) ⟨Nat.zero_le _, Nat.zero_le _⟩ (fun r1 h => ?_)
  exact jw_iret (Q := fun r _ => Q r) C h dX2_lastKey_5
set_option maxRecDepth 100000 in
set_option maxHeartbeats 4000000 in
theorem ctX2_level (l : Launch) (a1 : Int32) (Q : Int32 → Prop) (h : wpX2_level a1 Q) (μ : Mem) : Con l yX2_level wsX2_level rmX2_level [] (fun _ => [.int a1]) μ (pI (fun r _ => Q r)) := by
  refine Con.mk (cc := cX2_level) (maxL := 1) (ret := (some .int)) (own := RX2) (by decide) rfl rfl (fun _ => Nat.le_of_ble_eq_true rfl) (fun K ad hN C => ?_)
  show JW K (0, 0) [] ad μ 0 [(0, .int a1)] []
  unfold wpX2_level at h
  refine jw_iload_n C.1 dX2_level_0 rfl 0 rfl ?_
  refine jw_iconst C.1 dX2_level_1 ki_1 ?_
  refine jw_icmp_ge C.1 7 dX2_level_2 (by decide) (fun c => ?_) (fun c => ?_)
  · have h := h.1 c
    refine jw_iload_n C.1 dX2_level_7 rfl 0 rfl ?_
    refine jw_iconst C.1 dX2_level_8 ki_4 ?_
    refine jw_icmp_ge C.1 16 dX2_level_9 (by decide) (fun c => ?_) (fun c => ?_)
    · have h := h.1 c
      refine jw_iconst C.1 dX2_level_16 ki_2 ?_
      exact jw_iret (Q := fun r _ => Q r) C h dX2_level_17
    · have h := h.2 c
      refine jw_iconst C.1 dX2_level_12 ki_1 ?_
      refine jw_goto (tgt := 17) C.1 dX2_level_13 (by decide) ?_
      exact jw_iret (Q := fun r _ => Q r) C h dX2_level_17
  · have h := h.2 c
    refine jw_iconst C.1 dX2_level_5 ki_0 ?_
    exact jw_iret (Q := fun r _ => Q r) C h dX2_level_6
set_option maxRecDepth 100000 in
set_option maxHeartbeats 4000000 in
theorem ctX2_lowNodeOf (l : Launch) (a1 : Int32) (Q : Int32 → Prop) (h : wpX2_lowNodeOf a1 Q) (μ : Mem) : Con l yX2_lowNodeOf wsX2_lowNodeOf rmX2_lowNodeOf [] (fun _ => [.int a1]) μ (pI (fun r _ => Q r)) := by
  refine Con.mk (cc := cX2_lowNodeOf) (maxL := 1) (ret := (some .int)) (own := RX2) (by decide) rfl rfl (fun _ => Nat.le_of_ble_eq_true rfl) (fun K ad hN C => ?_)
  show JW K (0, 0) [] ad μ 0 [(0, .int a1)] []
  unfold wpX2_lowNodeOf at h
  refine jw_iconst C.1 dX2_lowNodeOf_0 ki_4 ?_
  refine jw_iload_n C.1 dX2_lowNodeOf_1 rfl 0 rfl ?_
  refine jw_iconst C.1 dX2_lowNodeOf_2 ki_3 ?_
  refine jw_idiv C.1 dX2_lowNodeOf_3 (by decide) ?_
  refine jw_iadd C.1 dX2_lowNodeOf_4 ?_
  exact jw_iret (Q := fun r _ => Q r) C h dX2_lowNodeOf_5
set_option maxRecDepth 100000 in
set_option maxHeartbeats 4000000 in
theorem ctX2_parent (l : Launch) (a1 : Int32) (Q : Int32 → Prop) (h : wpX2_parent a1 Q) (μ : Mem) : Con l yX2_parent wsX2_parent rmX2_parent [] (fun _ => [.int a1]) μ (pI (fun r _ => Q r)) := by
  refine Con.mk (cc := cX2_parent) (maxL := 1) (ret := (some .int)) (own := RX2) (by decide) rfl rfl (fun _ => Nat.le_of_ble_eq_true rfl) (fun K ad hN C => ?_)
  show JW K (0, 0) [] ad μ 0 [(0, .int a1)] []
  unfold wpX2_parent at h
  refine jw_iload_n C.1 dX2_parent_0 rfl 0 rfl ?_
  refine jw_iconst C.1 dX2_parent_1 ki_1 ?_
  refine jw_icmp_ge C.1 9 dX2_parent_2 (by decide) (fun c => ?_) (fun c => ?_)
  · have h := h.1 c
    refine jw_iload_n C.1 dX2_parent_9 rfl 0 rfl ?_
    refine jw_iconst C.1 dX2_parent_10 ki_1 ?_
    refine jw_isub C.1 dX2_parent_11 ?_
    refine jw_iconst C.1 dX2_parent_12 ki_3 ?_
    refine jw_idiv C.1 dX2_parent_13 (by decide) ?_
    exact jw_iret (Q := fun r _ => Q r) C h dX2_parent_14
  · have h := h.2 c
    refine jw_iconst C.1 dX2_parent_5 ki_0 ?_
    refine jw_goto (tgt := 14) C.1 dX2_parent_6 (by decide) ?_
    exact jw_iret (Q := fun r _ => Q r) C h dX2_parent_14
set_option maxRecDepth 100000 in
set_option maxHeartbeats 4000000 in
theorem ctX3_first (l : Launch) (a1 : Int32) (Q : Int32 → Prop) (h : wpX3_first a1 Q) (μ : Mem) : Con l yX3_first wsX3_first rmX3_first [] (fun _ => [.int a1]) μ (pI (fun r _ => Q r)) := by
  refine Con.mk (cc := cX3_first) (maxL := 1) (ret := (some .int)) (own := RX3) (by decide) rfl rfl (fun _ => Nat.le_of_ble_eq_true rfl) (fun K ad hN C => ?_)
  show JW K (0, 0) [] ad μ 0 [(0, .int a1)] []
  unfold wpX3_first at h
  refine jw_iload_n C.1 dX3_first_0 rfl 0 rfl ?_
  refine jw_bipush C.1 dX3_first_1 kb_15 ?_
  refine jw_ishr C.1 dX3_first_3 ?_
  refine jw_bipush C.1 dX3_first_4 kb_31 ?_
  refine jw_iand C.1 dX3_first_6 ?_
  exact jw_iret (Q := fun r _ => Q r) C h dX3_first_7
set_option maxRecDepth 100000 in
set_option maxHeartbeats 4000000 in
theorem ctX3_last (l : Launch) (a1 : Int32) (Q : Int32 → Prop) (h : wpX3_last a1 Q) (μ : Mem) : Con l yX3_last wsX3_last rmX3_last [] (fun _ => [.int a1]) μ (pI (fun r _ => Q r)) := by
  refine Con.mk (cc := cX3_last) (maxL := 1) (ret := (some .int)) (own := RX3) (by decide) rfl rfl (fun _ => Nat.le_of_ble_eq_true rfl) (fun K ad hN C => ?_)
  show JW K (0, 0) [] ad μ 0 [(0, .int a1)] []
  unfold wpX3_last at h
  refine jw_iload_n C.1 dX3_last_0 rfl 0 rfl ?_
  refine jw_bipush C.1 dX3_last_1 kb_10 ?_
  refine jw_ishr C.1 dX3_last_3 ?_
  refine jw_bipush C.1 dX3_last_4 kb_31 ?_
  refine jw_iand C.1 dX3_last_6 ?_
  exact jw_iret (Q := fun r _ => Q r) C h dX3_last_7
set_option maxRecDepth 100000 in
set_option maxHeartbeats 4000000 in
theorem ctX3_isOfOneKey (l : Launch) (a1 : Int32) (Q : Int32 → Prop) (h : wpX3_isOfOneKey a1 Q) (μ : Mem) : Con l yX3_isOfOneKey wsX3_isOfOneKey rmX3_isOfOneKey [] (fun _ => [.int a1]) μ (pI (fun r _ => Q r)) := by
  refine Con.mk (cc := cX3_isOfOneKey) (maxL := 1) (ret := (some .boolean)) (own := RX3) (by decide) rfl rfl (fun _ => Nat.le_of_ble_eq_true rfl) (fun K ad hN C => ?_)
  show JW K (0, 0) [] ad μ 0 [(0, .int a1)] []
  unfold wpX3_isOfOneKey at h
  refine jw_iload_n C.1 dX3_isOfOneKey_0 rfl 0 rfl ?_
  refine jw_eSI (rest := []) C.1 dX3_isOfOneKey_1 (ctX3_first l _ _ h _) miX3_first gX3_isOfOneKey_X3_first (by decide) rfl rfl rfl (Nat.le_of_ble_eq_true rfl) ⟨Nat.zero_le _, Nat.zero_le _⟩ (fun r1 h => ?_)
  refine jw_iload_n C.1 dX3_isOfOneKey_4 rfl 0 rfl ?_
  refine jw_eSI (rest := [.int _]) C.1 dX3_isOfOneKey_5 (ctX3_last l _ _ h _) miX3_last gX3_isOfOneKey_X3_last (by decide) rfl rfl rfl (Nat.le_of_ble_eq_true rfl) ⟨Nat.zero_le _, Nat.zero_le _⟩ (fun r2 h => ?_)
  refine jw_icmp_ne C.1 15 dX3_isOfOneKey_8 (by decide) (fun c => ?_) (fun c => ?_)
  · have h := h.1 c
    refine jw_iconst C.1 dX3_isOfOneKey_15 ki_0 ?_
    exact jw_zret (Q := fun r _ => Q r) C rfl h dX3_isOfOneKey_16
  · have h := h.2 c
    refine jw_iconst C.1 dX3_isOfOneKey_11 ki_1 ?_
    refine jw_goto (tgt := 16) C.1 dX3_isOfOneKey_12 (by decide) ?_
    exact jw_zret (Q := fun r _ => Q r) C rfl h dX3_isOfOneKey_16
set_option maxRecDepth 100000 in
set_option maxHeartbeats 4000000 in
theorem ctX3_kind (l : Launch) (a1 : Int32) (Q : Int32 → Prop) (h : wpX3_kind a1 Q) (μ : Mem) : Con l yX3_kind wsX3_kind rmX3_kind [] (fun _ => [.int a1]) μ (pI (fun r _ => Q r)) := by
  refine Con.mk (cc := cX3_kind) (maxL := 1) (ret := (some .int)) (own := RX3) (by decide) rfl rfl (fun _ => Nat.le_of_ble_eq_true rfl) (fun K ad hN C => ?_)
  show JW K (0, 0) [] ad μ 0 [(0, .int a1)] []
  unfold wpX3_kind at h
  refine jw_iload_n C.1 dX3_kind_0 rfl 0 rfl ?_
  refine jw_bipush C.1 dX3_kind_1 kb_20 ?_
  refine jw_ishr C.1 dX3_kind_3 ?_
  exact jw_iret (Q := fun r _ => Q r) C h dX3_kind_4
set_option maxRecDepth 100000 in
set_option maxHeartbeats 4000000 in
theorem ctX3_number (l : Launch) (a1 : Int32) (Q : Int32 → Prop) (h : wpX3_number a1 Q) (μ : Mem) : Con l yX3_number wsX3_number rmX3_number [] (fun _ => [.int a1]) μ (pI (fun r _ => Q r)) := by
  refine Con.mk (cc := cX3_number) (maxL := 1) (ret := (some .int)) (own := RX3) (by decide) rfl rfl (fun _ => Nat.le_of_ble_eq_true rfl) (fun K ad hN C => ?_)
  show JW K (0, 0) [] ad μ 0 [(0, .int a1)] []
  unfold wpX3_number at h
  refine jw_iload_n C.1 dX3_number_0 rfl 0 rfl ?_
  refine jw_sipush C.1 dX3_number_1 ks_1023 ?_
  refine jw_iand C.1 dX3_number_4 ?_
  exact jw_iret (Q := fun r _ => Q r) C h dX3_number_5
set_option maxRecDepth 100000 in
set_option maxHeartbeats 4000000 in
theorem ctX3_of (l : Launch) (a1 : Int32) (a2 : Int32) (a3 : Int32) (a4 : Int32) (Q : Int32 → Prop) (h : wpX3_of a1 a2 a3 a4 Q) (μ : Mem) : Con l yX3_of wsX3_of rmX3_of [] (fun _ => [.int a1, .int a2, .int a3, .int a4]) μ (pI (fun r _ => Q r)) := by
  refine Con.mk (cc := cX3_of) (maxL := 4) (ret := (some .int)) (own := RX3) (by decide) rfl rfl (fun _ => Nat.le_of_ble_eq_true rfl) (fun K ad hN C => ?_)
  show JW K (0, 0) [] ad μ 0 [(0, .int a1), (1, .int a2), (2, .int a3), (3, .int a4)] []
  unfold wpX3_of at h
  refine jw_iload_n C.1 dX3_of_0 rfl 0 rfl ?_
  refine jw_bipush C.1 dX3_of_1 kb_20 ?_
  refine jw_ishl C.1 dX3_of_3 ?_
  refine jw_iload_n C.1 dX3_of_4 rfl 1 rfl ?_
  refine jw_bipush C.1 dX3_of_5 kb_15 ?_
  refine jw_ishl C.1 dX3_of_7 ?_
  refine jw_ior C.1 dX3_of_8 ?_
  refine jw_iload_n C.1 dX3_of_9 rfl 2 rfl ?_
  refine jw_bipush C.1 dX3_of_10 kb_10 ?_
  refine jw_ishl C.1 dX3_of_12 ?_
  refine jw_ior C.1 dX3_of_13 ?_
  refine jw_iload_n C.1 dX3_of_14 rfl 3 rfl ?_
  refine jw_ior C.1 dX3_of_15 ?_
  exact jw_iret (Q := fun r _ => Q r) C h dX3_of_16
set_option maxRecDepth 100000 in
set_option maxHeartbeats 4000000 in
theorem ctX3_part (l : Launch) (a1 : Int32) (a2 : Int32) (a3 : Int32) (Q : Int32 → Prop) (h : wpX3_part a1 a2 a3 Q) (μ : Mem) : Con l yX3_part wsX3_part rmX3_part [] (fun _ => [.int a1, .int a2, .int a3]) μ (pI (fun r _ => Q r)) := by
  refine Con.mk (cc := cX3_part) (maxL := 3) (ret := (some .int)) (own := RX3) (by decide) rfl rfl (fun _ => Nat.le_of_ble_eq_true rfl) (fun K ad hN C => ?_)
  show JW K (0, 0) [] ad μ 0 [(0, .int a1), (1, .int a2), (2, .int a3)] []
  unfold wpX3_part at h
  refine jw_iload_n C.1 dX3_part_0 rfl 0 rfl ?_
  refine jw_eSI (rest := []) C.1 dX3_part_1 (ctX3_kind l _ _ h _) miX3_kind gX3_part_X3_kind (by decide) rfl rfl rfl (Nat.le_of_ble_eq_true rfl) ⟨Nat.zero_le _, Nat.zero_le _⟩ (fun r1 h => ?_)
  refine jw_iload_n C.1 dX3_part_4 rfl 0 rfl ?_
  refine jw_eSI (rest := [.int _]) C.1 dX3_part_5 (ctX3_first l _ _ h _) miX3_first gX3_part_X3_first (by decide) rfl rfl rfl (Nat.le_of_ble_eq_true rfl) ⟨Nat.zero_le _, Nat.zero_le _⟩ (fun r2 h => ?_)
  refine jw_iload_n C.1 dX3_part_8 rfl 1 rfl ?_
  refine jw_mmax C.1 (List.mem_of_getElem? (i := 1) rfl) (List.mem_of_getElem? (i := 2) rfl) (List.mem_of_getElem? (i := 3) rfl) (List.mem_of_getElem? (i := 4) rfl) (by decide) (Nat.le_of_ble_eq_true rfl) ⟨Nat.zero_le _, Nat.zero_le _⟩ dX3_part_9 ?_
  refine jw_iload_n C.1 dX3_part_12 rfl 0 rfl ?_
  refine jw_eSI (rest := [.int _, .int _]) C.1 dX3_part_13 (ctX3_last l _ _ h _) miX3_last gX3_part_X3_last (by decide) rfl rfl rfl (Nat.le_of_ble_eq_true rfl) ⟨Nat.zero_le _, Nat.zero_le _⟩ (fun r3 h => ?_)
  refine jw_iload_n C.1 dX3_part_16 rfl 2 rfl ?_
  refine jw_mmin C.1 (List.mem_of_getElem? (i := 5) rfl) (List.mem_of_getElem? (i := 6) rfl) (List.mem_of_getElem? (i := 3) rfl) (List.mem_of_getElem? (i := 7) rfl) (by decide) (Nat.le_of_ble_eq_true rfl) ⟨Nat.zero_le _, Nat.zero_le _⟩ dX3_part_17 ?_
  refine jw_iload_n C.1 dX3_part_20 rfl 0 rfl ?_
  refine jw_eSI (rest := [.int _, .int _, .int _]) C.1 dX3_part_21 (ctX3_number l _ _ h _) miX3_number gX3_part_X3_number (by decide) rfl rfl rfl (Nat.le_of_ble_eq_true rfl) ⟨Nat.zero_le _, Nat.zero_le _⟩ (fun r4 h => ?_)
  refine jw_eSI (rest := []) C.1 dX3_part_24 (ctX3_of l _ _ _ _ _ h _) miX3_of gX3_part_X3_of (by decide) rfl rfl rfl (Nat.le_of_ble_eq_true rfl) ⟨Nat.zero_le _, Nat.zero_le _⟩ (fun r5 h => ?_)
  exact jw_iret (Q := fun r _ => Q r) C h dX3_part_27
set_option maxRecDepth 100000 in
set_option maxHeartbeats 4000000 in
theorem ctX3_touches (l : Launch) (a1 : Int32) (a2 : Int32) (a3 : Int32) (Q : Int32 → Prop) (h : wpX3_touches a1 a2 a3 Q) (μ : Mem) : Con l yX3_touches wsX3_touches rmX3_touches [] (fun _ => [.int a1, .int a2, .int a3]) μ (pI (fun r _ => Q r)) := by
  refine Con.mk (cc := cX3_touches) (maxL := 3) (ret := (some .boolean)) (own := RX3) (by decide) rfl rfl (fun _ => Nat.le_of_ble_eq_true rfl) (fun K ad hN C => ?_)
  show JW K (0, 0) [] ad μ 0 [(0, .int a1), (1, .int a2), (2, .int a3)] []
  unfold wpX3_touches at h
  refine jw_iload_n C.1 dX3_touches_0 rfl 0 rfl ?_
  refine jw_eSI (rest := []) C.1 dX3_touches_1 (ctX3_first l _ _ h _) miX3_first gX3_touches_X3_first (by decide) rfl rfl rfl (Nat.le_of_ble_eq_true rfl) ⟨Nat.zero_le _, Nat.zero_le _⟩ (fun r1 h => ?_)
  refine jw_iload_n C.1 dX3_touches_4 rfl 2 rfl ?_
  refine jw_icmp_gt C.1 20 dX3_touches_5 (by decide) (fun c => ?_) (fun c => ?_)
  · have h := h.1 c
    refine jw_iconst C.1 dX3_touches_20 ki_0 ?_
    exact jw_zret (Q := fun r _ => Q r) C rfl h dX3_touches_21
  · have h := h.2 c
    refine jw_iload_n C.1 dX3_touches_8 rfl 0 rfl ?_
    refine jw_eSI (rest := []) C.1 dX3_touches_9 (ctX3_last l _ _ h _) miX3_last gX3_touches_X3_last (by decide) rfl rfl rfl (Nat.le_of_ble_eq_true rfl) ⟨Nat.zero_le _, Nat.zero_le _⟩ (fun r2 h => ?_)
    refine jw_iload_n C.1 dX3_touches_12 rfl 1 rfl ?_
    refine jw_icmp_lt C.1 20 dX3_touches_13 (by decide) (fun c => ?_) (fun c => ?_)
    · have h := h.1 c
      refine jw_iconst C.1 dX3_touches_20 ki_0 ?_
      exact jw_zret (Q := fun r _ => Q r) C rfl h dX3_touches_21
    · have h := h.2 c
      refine jw_iconst C.1 dX3_touches_16 ki_1 ?_
      refine jw_goto (tgt := 21) C.1 dX3_touches_17 (by decide) ?_
      exact jw_zret (Q := fun r _ => Q r) C rfl h dX3_touches_21
set_option maxRecDepth 100000 in
set_option maxHeartbeats 4000000 in
theorem ctX3_valueAfter (l : Launch) (a1 : Int32) (a2 : Int32) (Q : Int32 → Prop) (h : wpX3_valueAfter a1 a2 Q) (μ : Mem) : Con l yX3_valueAfter wsX3_valueAfter rmX3_valueAfter [] (fun _ => [.int a1, .int a2]) μ (pI (fun r _ => Q r)) := by
  refine Con.mk (cc := cX3_valueAfter) (maxL := 2) (ret := (some .int)) (own := RX3) (by decide) rfl rfl (fun _ => Nat.le_of_ble_eq_true rfl) (fun K ad hN C => ?_)
  show JW K (0, 0) [] ad μ 0 [(0, .int a1), (1, .int a2)] []
  unfold wpX3_valueAfter at h
  refine jw_iload_n C.1 dX3_valueAfter_0 rfl 0 rfl ?_
  refine jw_eSI (rest := []) C.1 dX3_valueAfter_1 (ctX3_kind l _ _ h _) miX3_kind gX3_valueAfter_X3_kind (by decide) rfl rfl rfl (Nat.le_of_ble_eq_true rfl) ⟨Nat.zero_le _, Nat.zero_le _⟩ (fun r1 h => ?_)
  by_cases c0 : r1 = (0 : Int32)
  · have h := h.1 c0
    refine jw_lookup C.1 32 dX3_valueAfter_4 (by decide) (off := 28) (by show Op.lookupswitch.offset [(0, 28), (1, 33)] _ _ = _; rw [c0]; rfl) (by decide) ?_
    refine jw_iload_n C.1 dX3_valueAfter_32 rfl 0 rfl ?_
    refine jw_eSI (rest := []) C.1 dX3_valueAfter_33 (ctX3_number l _ _ h _) miX3_number gX3_valueAfter_X3_number (by decide) rfl rfl rfl (Nat.le_of_ble_eq_true rfl) ⟨Nat.zero_le _, Nat.zero_le _⟩ (fun r2 h => ?_)
    exact jw_iret (Q := fun r _ => Q r) C h dX3_valueAfter_36
  · have h := h.2 c0
    by_cases c1 : r1 = (1 : Int32)
    · have h := h.1 c1
      refine jw_lookup C.1 37 dX3_valueAfter_4 (by decide) (off := 33) (by show Op.lookupswitch.offset [(0, 28), (1, 33)] _ _ = _; rw [lv_osw (a := 0) c0 (by decide)]; rw [c1]; rfl) (by decide) ?_
      refine jw_iload_n C.1 dX3_valueAfter_37 rfl 1 rfl ?_
      refine jw_bipush C.1 dX3_valueAfter_38 kb_m6 ?_
      refine jw_icmp_ne C.1 48 dX3_valueAfter_40 (by decide) (fun c => ?_) (fun c => ?_)
      · have h := h.1 c
        refine jw_iload_n C.1 dX3_valueAfter_48 rfl 1 rfl ?_
        refine jw_iload_n C.1 dX3_valueAfter_49 rfl 0 rfl ?_
        refine jw_eSI (rest := [.int _]) C.1 dX3_valueAfter_50 (ctX3_number l _ _ h _) miX3_number gX3_valueAfter_X3_number (by decide) rfl rfl rfl (Nat.le_of_ble_eq_true rfl) ⟨Nat.zero_le _, Nat.zero_le _⟩ (fun r3 h => ?_)
        refine jw_iadd C.1 dX3_valueAfter_53 ?_
        refine jw_sipush C.1 dX3_valueAfter_54 ks_1000 ?_
        refine jw_irem C.1 dX3_valueAfter_57 (by decide) ?_
        exact jw_iret (Q := fun r _ => Q r) C h dX3_valueAfter_58
      · have h := h.2 c
        refine jw_bipush C.1 dX3_valueAfter_43 kb_m6 ?_
        refine jw_goto (tgt := 58) C.1 dX3_valueAfter_45 (by decide) ?_
        exact jw_iret (Q := fun r _ => Q r) C h dX3_valueAfter_58
    · have h := h.2 c1
      refine jw_lookup C.1 59 dX3_valueAfter_4 (by decide) (off := 55) (by show Op.lookupswitch.offset [(0, 28), (1, 33)] _ _ = _; rw [lv_osw (a := 0) c0 (by decide)]; rw [lv_osw (a := 1) c1 (by decide)]; rfl) (by decide) ?_
      refine jw_bipush C.1 dX3_valueAfter_59 kb_m6 ?_
      exact jw_iret (Q := fun r _ => Q r) C h dX3_valueAfter_61
set_option maxRecDepth 100000 in
set_option maxHeartbeats 4000000 in
theorem ctX4_copyRow (l : Launch) (n1 : Nat) (n2 : Nat) (μ : Mem) (Q : Mem → Prop) (h : wpX4_copyRow n1 n2 μ Q) : Con l yX4_copyRow wsX4_copyRow rmX4_copyRow (sh2 n1 n2) (fun ad => [.ref (ad 0), .ref (ad 1)]) μ (pV Q) := by
  refine Con.mk (cc := cX4_copyRow) (maxL := 2) (ret := none) (own := RX4) (by decide) rfl rfl (fun _ => Nat.le_of_ble_eq_true rfl) (fun K ad hN C => ?_)
  show JW K (0, 0) (sh2 n1 n2) ad μ 0 [(0, .ref (ad 0)), (1, .ref (ad 1))] []
  unfold wpX4_copyRow at h
  refine jw_aload_n C.1 dX4_copyRow_0 rfl 0 rfl ?_
  refine jw_iconst C.1 dX4_copyRow_1 ki_0 ?_
  refine jw_aload_n C.1 dX4_copyRow_2 rfl 1 rfl ?_
  refine jw_iconst C.1 dX4_copyRow_3 ki_0 ?_
  refine jw_aload_n C.1 dX4_copyRow_4 rfl 0 rfl ?_
  refine jw_alenD C.1 rfl rfl rfl (v := Int32.ofNat n1) rfl dX4_copyRow_5 ?_
  refine jw_aload_n C.1 dX4_copyRow_6 rfl 1 rfl ?_
  refine jw_alenD C.1 rfl rfl rfl (v := Int32.ofNat n2) rfl dX4_copyRow_7 ?_
  refine jw_mmin C.1 (List.mem_of_getElem? (i := 1) rfl) (List.mem_of_getElem? (i := 2) rfl) (List.mem_of_getElem? (i := 3) rfl) (List.mem_of_getElem? (i := 4) rfl) (by decide) (Nat.le_of_ble_eq_true rfl) ⟨Nat.zero_le _, Nat.zero_le _⟩ dX4_copyRow_8 ?_
  obtain ⟨h1, h2, h3, h4, h5, h⟩ := h
  refine jw_copyi C.1 rfl rfl rfl rfl (List.mem_of_getElem? (i := 5) rfl) (List.mem_of_getElem? (i := 6) rfl) (List.mem_of_getElem? (i := 7) rfl) (List.mem_of_getElem? (i := 8) rfl) h1 h2 h3 h4 h5 (by decide) (Nat.le_of_ble_eq_true rfl) dX4_copyRow_11 ?_
  have h := h _ rfl
  exact jw_vret C h dX4_copyRow_14
set_option maxRecDepth 100000 in
set_option maxHeartbeats 4000000 in
theorem ctX4_copyFrom (l : Launch) (μ : Mem) (Q : Mem → Prop) (h : wpX4_copyFrom μ Q) : Con l yX4_copyFrom wsX4_copyFrom rmX4_copyFrom shTT (fun ad => [.ref (ad 0), .ref (ad 8)]) μ (pV Q) := by
  refine Con.mk (cc := cX4_copyFrom) (maxL := 2) (ret := none) (own := RX4) (by decide) rfl rfl (fun _ => Nat.le_of_ble_eq_true rfl) (fun K ad hN C => ?_)
  show JW K (0, 0) shTT ad μ 0 [(0, .ref (ad 0)), (1, .ref (ad 8))] []
  unfold wpX4_copyFrom at h
  refine jw_aload_n C.1 dX4_copyFrom_0 rfl 1 rfl ?_
  refine jw_ifnonnull (tgt := 5) C.1 dX4_copyFrom_1 (by decide) ?_
  refine jw_aload_n C.1 dX4_copyFrom_5 rfl 1 rfl ?_
  refine jw_getR C.1 iwX4_copyFrom_X4 rfl shTT_8 rfl 0 (by decide) rfl (List.mem_of_getElem? (i := 1) rfl) dX4_copyFrom_6 ?_
  refine jw_aload_n C.1 dX4_copyFrom_9 rfl 0 rfl ?_
  refine jw_getR C.1 iwX4_copyFrom_X4 rfl shTT_0 rfl 0 (by decide) rfl (List.mem_of_getElem? (i := 1) rfl) dX4_copyFrom_10 ?_
  refine jw_gSV (rest := []) C.1 dX4_copyFrom_13 (e2 1 9 1) em_shTT_sh2_2_2_e2_1_9_1 (ctX4_copyRow l _ _ _ _ h) miX4_copyRow gX4_copyFrom_X4_copyRow (by decide) rfl rfl rfl (Nat.le_of_ble_eq_true rfl) ⟨Nat.zero_le _, Nat.zero_le _⟩ (fun μ2 h => ?_)
  have h := h _ rfl
  refine jw_aload_n C.1 dX4_copyFrom_16 rfl 1 rfl ?_
  refine jw_getR C.1 iwX4_copyFrom_X4 rfl shTT_8 rfl 1 (by decide) rfl (List.mem_of_getElem? (i := 2) rfl) dX4_copyFrom_17 ?_
  refine jw_aload_n C.1 dX4_copyFrom_20 rfl 0 rfl ?_
  refine jw_getR C.1 iwX4_copyFrom_X4 rfl shTT_0 rfl 1 (by decide) rfl (List.mem_of_getElem? (i := 2) rfl) dX4_copyFrom_21 ?_
  refine jw_gSV (rest := []) C.1 dX4_copyFrom_24 (e2 1 10 2) em_shTT_sh2_27_27_e2_1_10_2 (ctX4_copyRow l _ _ _ _ h) miX4_copyRow gX4_copyFrom_X4_copyRow (by decide) rfl rfl rfl (Nat.le_of_ble_eq_true rfl) ⟨Nat.zero_le _, Nat.zero_le _⟩ (fun μ5 h => ?_)
  have h := h _ rfl
  refine jw_aload_n C.1 dX4_copyFrom_27 rfl 1 rfl ?_
  refine jw_getR C.1 iwX4_copyFrom_X4 rfl shTT_8 rfl 2 (by decide) rfl (List.mem_of_getElem? (i := 3) rfl) dX4_copyFrom_28 ?_
  refine jw_aload_n C.1 dX4_copyFrom_31 rfl 0 rfl ?_
  refine jw_getR C.1 iwX4_copyFrom_X4 rfl shTT_0 rfl 2 (by decide) rfl (List.mem_of_getElem? (i := 3) rfl) dX4_copyFrom_32 ?_
  refine jw_gSV (rest := []) C.1 dX4_copyFrom_35 (e2 1 11 3) em_shTT_sh2_13_13_e2_1_11_3 (ctX4_copyRow l _ _ _ _ h) miX4_copyRow gX4_copyFrom_X4_copyRow (by decide) rfl rfl rfl (Nat.le_of_ble_eq_true rfl) ⟨Nat.zero_le _, Nat.zero_le _⟩ (fun μ8 h => ?_)
  have h := h _ rfl
  refine jw_aload_n C.1 dX4_copyFrom_38 rfl 1 rfl ?_
  refine jw_getR C.1 iwX4_copyFrom_X4 rfl shTT_8 rfl 3 (by decide) rfl (List.mem_of_getElem? (i := 4) rfl) dX4_copyFrom_39 ?_
  refine jw_aload_n C.1 dX4_copyFrom_42 rfl 0 rfl ?_
  refine jw_getR C.1 iwX4_copyFrom_X4 rfl shTT_0 rfl 3 (by decide) rfl (List.mem_of_getElem? (i := 4) rfl) dX4_copyFrom_43 ?_
  refine jw_gSV (rest := []) C.1 dX4_copyFrom_46 (e2 1 12 4) em_shTT_sh2_286_286_e2_1_12_4 (ctX4_copyRow l _ _ _ _ h) miX4_copyRow gX4_copyFrom_X4_copyRow (by decide) rfl rfl rfl (Nat.le_of_ble_eq_true rfl) ⟨Nat.zero_le _, Nat.zero_le _⟩ (fun μ11 h => ?_)
  have h := h _ rfl
  refine jw_aload_n C.1 dX4_copyFrom_49 rfl 1 rfl ?_
  refine jw_getR C.1 iwX4_copyFrom_X4 rfl shTT_8 rfl 4 (by decide) rfl (List.mem_of_getElem? (i := 5) rfl) dX4_copyFrom_50 ?_
  refine jw_aload_n C.1 dX4_copyFrom_53 rfl 0 rfl ?_
  refine jw_getR C.1 iwX4_copyFrom_X4 rfl shTT_0 rfl 4 (by decide) rfl (List.mem_of_getElem? (i := 5) rfl) dX4_copyFrom_54 ?_
  refine jw_gSV (rest := []) C.1 dX4_copyFrom_57 (e2 1 13 5) em_shTT_sh2_13_13_e2_1_13_5 (ctX4_copyRow l _ _ _ _ h) miX4_copyRow gX4_copyFrom_X4_copyRow (by decide) rfl rfl rfl (Nat.le_of_ble_eq_true rfl) ⟨Nat.zero_le _, Nat.zero_le _⟩ (fun μ14 h => ?_)
  have h := h _ rfl
  refine jw_aload_n C.1 dX4_copyFrom_60 rfl 1 rfl ?_
  refine jw_getR C.1 iwX4_copyFrom_X4 rfl shTT_8 rfl 5 (by decide) rfl (List.mem_of_getElem? (i := 6) rfl) dX4_copyFrom_61 ?_
  refine jw_aload_n C.1 dX4_copyFrom_64 rfl 0 rfl ?_
  refine jw_getR C.1 iwX4_copyFrom_X4 rfl shTT_0 rfl 5 (by decide) rfl (List.mem_of_getElem? (i := 6) rfl) dX4_copyFrom_65 ?_
  refine jw_gSV (rest := []) C.1 dX4_copyFrom_68 (e2 1 14 6) em_shTT_sh2_13_13_e2_1_14_6 (ctX4_copyRow l _ _ _ _ h) miX4_copyRow gX4_copyFrom_X4_copyRow (by decide) rfl rfl rfl (Nat.le_of_ble_eq_true rfl) ⟨Nat.zero_le _, Nat.zero_le _⟩ (fun μ17 h => ?_)
  have h := h _ rfl
  refine jw_aload_n C.1 dX4_copyFrom_71 rfl 1 rfl ?_
  refine jw_getR C.1 iwX4_copyFrom_X4 rfl shTT_8 rfl 6 (by decide) rfl (List.mem_of_getElem? (i := 7) rfl) dX4_copyFrom_72 ?_
  refine jw_aload_n C.1 dX4_copyFrom_75 rfl 0 rfl ?_
  refine jw_getR C.1 iwX4_copyFrom_X4 rfl shTT_0 rfl 6 (by decide) rfl (List.mem_of_getElem? (i := 7) rfl) dX4_copyFrom_76 ?_
  refine jw_gSV (rest := []) C.1 dX4_copyFrom_79 (e2 1 15 7) em_shTT_sh2_13_13_e2_1_15_7 (ctX4_copyRow l _ _ _ _ h) miX4_copyRow gX4_copyFrom_X4_copyRow (by decide) rfl rfl rfl (Nat.le_of_ble_eq_true rfl) ⟨Nat.zero_le _, Nat.zero_le _⟩ (fun μ20 h => ?_)
  have h := h _ rfl
  refine jw_aload_n C.1 dX4_copyFrom_82 rfl 0 rfl ?_
  refine jw_aload_n C.1 dX4_copyFrom_83 rfl 1 rfl ?_
  refine jw_getI C.1 iwX4_copyFrom_X4 rfl shTT_8 rfl 7 (by decide) rfl (List.mem_of_getElem? (i := 8) rfl) dX4_copyFrom_84 ?_
  refine jw_putI C.1 iwX4_copyFrom_X4 rfl shTT_0 rfl 7 (by decide) tyX4 tyX4_ok nmX4 (j := 0) rfl fuX4_7 (List.mem_of_getElem? (i := 8) rfl) rfl (ty := .int) (by decide +kernel) rfl rfl dX4_copyFrom_87 ?_
  have h := h _ rfl
  refine jw_aload_n C.1 dX4_copyFrom_90 rfl 0 rfl ?_
  refine jw_aload_n C.1 dX4_copyFrom_91 rfl 1 rfl ?_
  refine jw_getI C.1 iwX4_copyFrom_X4 rfl shTT_8 rfl 8 (by decide) rfl (List.mem_of_getElem? (i := 9) rfl) dX4_copyFrom_92 ?_
  refine jw_putI C.1 iwX4_copyFrom_X4 rfl shTT_0 rfl 8 (by decide) tyX4 tyX4_ok nmX4 (j := 1) rfl fuX4_8 (List.mem_of_getElem? (i := 9) rfl) rfl (ty := .int) (by decide +kernel) rfl rfl dX4_copyFrom_95 ?_
  have h := h _ rfl
  refine jw_aload_n C.1 dX4_copyFrom_98 rfl 0 rfl ?_
  refine jw_aload_n C.1 dX4_copyFrom_99 rfl 1 rfl ?_
  refine jw_getI C.1 iwX4_copyFrom_X4 rfl shTT_8 rfl 9 (by decide) rfl (List.mem_of_getElem? (i := 10) rfl) dX4_copyFrom_100 ?_
  refine jw_putI C.1 iwX4_copyFrom_X4 rfl shTT_0 rfl 9 (by decide) tyX4 tyX4_ok nmX4 (j := 2) rfl fuX4_9 (List.mem_of_getElem? (i := 10) rfl) rfl (ty := .int) (by decide +kernel) rfl rfl dX4_copyFrom_103 ?_
  have h := h _ rfl
  exact jw_vret C h dX4_copyFrom_106
set_option maxRecDepth 100000 in
set_option maxHeartbeats 4000000 in
theorem ctX0_record (l : Launch) (μ : Mem) (Q : Mem → Prop) (h : wpX0_record μ Q) : Con l yX0_record wsX0_record rmX0_record shHT (fun ad => [.ref (ad 0), .ref (ad 50)]) μ (pV Q) := by
  refine Con.mk (cc := cX0_record) (maxL := 2) (ret := none) (own := RX0) (by decide) rfl rfl (fun _ => Nat.le_of_ble_eq_true rfl) (fun K ad hN C => ?_)
  show JW K (0, 0) shHT ad μ 0 [(0, .ref (ad 0)), (1, .ref (ad 50))] []
  unfold wpX0_record at h
  refine jw_aload_n C.1 dX0_record_0 rfl 0 rfl ?_
  refine jw_getI C.1 iwX0_record_X0 rfl shHT_0 rfl 1 (by decide) rfl (List.mem_of_getElem? (i := 1) rfl) dX0_record_1 ?_
  refine jw_if_lt C.1 28 dX0_record_4 (by decide) (fun c => ?_) (fun c => ?_)
  · have h := h.1 c
    exact jw_vret C h dX0_record_28
  · have h := h.2 c
    refine jw_aload_n C.1 dX0_record_7 rfl 0 rfl ?_
    refine jw_getI C.1 iwX0_record_X0 rfl shHT_0 rfl 1 (by decide) rfl (List.mem_of_getElem? (i := 1) rfl) dX0_record_8 ?_
    refine jw_bipush C.1 dX0_record_11 kb_6 ?_
    refine jw_icmp_ge C.1 28 dX0_record_13 (by decide) (fun c => ?_) (fun c => ?_)
    · have h := h.1 c
      exact jw_vret C h dX0_record_28
    · have h := h.2 c
      refine jw_aload_n C.1 dX0_record_16 rfl 0 rfl ?_
      refine jw_getR C.1 iwX0_record_X0 rfl shHT_0 rfl 0 (by decide) rfl (List.mem_of_getElem? (i := 2) rfl) dX0_record_17 ?_
      refine jw_aload_n C.1 dX0_record_20 rfl 0 rfl ?_
      refine jw_getI C.1 iwX0_record_X0 rfl shHT_0 rfl 1 (by decide) rfl (List.mem_of_getElem? (i := 1) rfl) dX0_record_21 ?_
      obtain ⟨hi, h⟩ := h
      refine jw_aald C.1 rfl shHT_1 hi (rf_6_2 hi) dX0_record_24 ?_
      refine jw_ifnonnull (tgt := 29) C.1 dX0_record_25 (by decide) ?_
      refine jw_aload_n C.1 dX0_record_29 rfl 0 rfl ?_
      refine jw_getR C.1 iwX0_record_X0 rfl shHT_0 rfl 0 (by decide) rfl (List.mem_of_getElem? (i := 2) rfl) dX0_record_30 ?_
      refine jw_aload_n C.1 dX0_record_33 rfl 0 rfl ?_
      refine jw_getI C.1 iwX0_record_X0 rfl shHT_0 rfl 1 (by decide) rfl (List.mem_of_getElem? (i := 1) rfl) dX0_record_34 ?_
      obtain ⟨hi, h⟩ := h
      refine jw_aald C.1 rfl shHT_1 hi (rf_6_2 hi) dX0_record_37 ?_
      refine jw_aload_n C.1 dX0_record_38 rfl 1 rfl ?_
      refine jw_gVV (rest := []) C.1 dX0_record_39 (e2 8 (2 + 8 * Int32.toNatClampNeg _) 50) (em_shHT_shTT_e2_8_2i_50 hi) (ctX4_copyFrom l _ _ h) miX4_copyFrom (sa_shHT_2 hi) rfl gX0_record_X4_copyFrom rfl (by decide) rfl rfl rfl (Nat.le_of_ble_eq_true rfl) ⟨Nat.zero_le _, Nat.zero_le _⟩ (fun μ2 h => ?_)
      have h := h _ rfl
      refine jw_aload_n C.1 dX0_record_42 rfl 0 rfl ?_
      refine jw_aload_n C.1 dX0_record_43 rfl 0 rfl ?_
      refine jw_getI C.1 iwX0_record_X0 rfl shHT_0 rfl 1 (by decide) rfl (List.mem_of_getElem? (i := 1) rfl) dX0_record_44 ?_
      refine jw_iconst C.1 dX0_record_47 ki_1 ?_
      refine jw_iadd C.1 dX0_record_48 ?_
      refine jw_bipush C.1 dX0_record_49 kb_6 ?_
      refine jw_irem C.1 dX0_record_51 (by decide) ?_
      refine jw_putI C.1 iwX0_record_X0 rfl shHT_0 rfl 1 (by decide) tyX0 tyX0_ok nmX0 (j := 0) rfl fuX0_1 (List.mem_of_getElem? (i := 1) rfl) rfl (ty := .int) (by decide +kernel) rfl rfl dX0_record_52 ?_
      have h := h _ rfl
      refine jw_aload_n C.1 dX0_record_55 rfl 0 rfl ?_
      refine jw_aload_n C.1 dX0_record_56 rfl 0 rfl ?_
      refine jw_getI C.1 iwX0_record_X0 rfl shHT_0 rfl 2 (by decide) rfl (List.mem_of_getElem? (i := 3) rfl) dX0_record_57 ?_
      refine jw_iconst C.1 dX0_record_60 ki_1 ?_
      refine jw_iadd C.1 dX0_record_61 ?_
      refine jw_bipush C.1 dX0_record_62 kb_6 ?_
      refine jw_mmin C.1 (List.mem_of_getElem? (i := 4) rfl) (List.mem_of_getElem? (i := 5) rfl) (List.mem_of_getElem? (i := 6) rfl) (List.mem_of_getElem? (i := 7) rfl) (by decide) (Nat.le_of_ble_eq_true rfl) ⟨Nat.zero_le _, Nat.zero_le _⟩ dX0_record_64 ?_
      refine jw_putI C.1 iwX0_record_X0 rfl shHT_0 rfl 2 (by decide) tyX0 tyX0_ok nmX0 (j := 1) rfl fuX0_2 (List.mem_of_getElem? (i := 3) rfl) rfl (ty := .int) (by decide +kernel) rfl rfl dX0_record_67 ?_
      have h := h _ rfl
      exact jw_vret C h dX0_record_70
set_option maxRecDepth 100000 in
set_option maxHeartbeats 4000000 in
theorem ctX0_states (l : Launch) (μ : Mem) (Q : Int32 → Mem → Prop) (h : wpX0_states μ Q) : Con l yX0_states wsX0_states rmX0_states shH (fun ad => [.ref (ad 0)]) μ (pI Q) := by
  refine Con.mk (cc := cX0_states) (maxL := 1) (ret := (some .int)) (own := RX0) (by decide) rfl rfl (fun _ => Nat.le_of_ble_eq_true rfl) (fun K ad hN C => ?_)
  show JW K (0, 0) shH ad μ 0 [(0, .ref (ad 0))] []
  unfold wpX0_states at h
  refine jw_aload_n C.1 dX0_states_0 rfl 0 rfl ?_
  refine jw_getI C.1 iwX0_states_X0 rfl shH_0 rfl 2 (by decide) rfl (List.mem_of_getElem? (i := 1) rfl) dX0_states_1 ?_
  exact jw_iret (Q := Q) C h dX0_states_4
set_option maxRecDepth 100000 in
set_option maxHeartbeats 4000000 in
theorem ctX0_takeBack (l : Launch) (μ : Mem) (Q : Mem → Prop) (h : wpX0_takeBack μ Q) : Con l yX0_takeBack wsX0_takeBack rmX0_takeBack shHT (fun ad => [.ref (ad 0), .ref (ad 50)]) μ (pV Q) := by
  refine Con.mk (cc := cX0_takeBack) (maxL := 3) (ret := none) (own := RX0) (by decide) rfl rfl (fun _ => Nat.le_of_ble_eq_true rfl) (fun K ad hN C => ?_)
  show JW K (0, 0) shHT ad μ 0 [(0, .ref (ad 0)), (1, .ref (ad 50))] []
  have hN_2 : 2 < kN K := by rw [hN]; decide
  unfold wpX0_takeBack at h
  refine jw_aload_n C.1 dX0_takeBack_0 rfl 0 rfl ?_
  refine jw_getI C.1 iwX0_takeBack_X0 rfl shHT_0 rfl 1 (by decide) rfl (List.mem_of_getElem? (i := 1) rfl) dX0_takeBack_1 ?_
  refine jw_bipush C.1 dX0_takeBack_4 kb_6 ?_
  refine jw_iadd C.1 dX0_takeBack_6 ?_
  refine jw_iconst C.1 dX0_takeBack_7 ki_1 ?_
  refine jw_isub C.1 dX0_takeBack_8 ?_
  refine jw_bipush C.1 dX0_takeBack_9 kb_6 ?_
  refine jw_irem C.1 dX0_takeBack_11 (by decide) ?_
  refine jw_istore_n (lw := [(2, .int _), (0, .ref _), (1, .ref _)]) C.1 dX0_takeBack_12 rfl hN_2 rfl ?_
  have h := h _ rfl
  refine jw_aload_n C.1 dX0_takeBack_13 rfl 1 rfl ?_
  refine jw_getI C.1 iwX0_takeBack_X0 rfl shHT_0 rfl 2 (by decide) rfl (List.mem_of_getElem? (i := 2) rfl) dX0_takeBack_14 ?_
  refine jw_if_eq C.1 28 dX0_takeBack_17 (by decide) (fun c => ?_) (fun c => ?_)
  · have h := h.1 c
    exact jw_vret C h dX0_takeBack_28
  · have h := h.2 c
    refine jw_aload_n C.1 dX0_takeBack_20 rfl 2 rfl ?_
    refine jw_ifnull C.1 dX0_takeBack_21 ?_
    refine jw_iload_n C.1 dX0_takeBack_24 rfl 0 rfl ?_
    refine jw_if_ge C.1 29 dX0_takeBack_25 (by decide) (fun c => ?_) (fun c => ?_)
    · have h := h.1 c
      refine jw_aload_n C.1 dX0_takeBack_29 rfl 2 rfl ?_
      refine jw_aload_n C.1 dX0_takeBack_30 rfl 1 rfl ?_
      refine jw_getR C.1 iwX0_takeBack_X0 rfl shHT_0 rfl 0 (by decide) rfl (List.mem_of_getElem? (i := 3) rfl) dX0_takeBack_31 ?_
      refine jw_iload_n C.1 dX0_takeBack_34 rfl 0 rfl ?_
      obtain ⟨hi, h⟩ := h
      refine jw_aald C.1 rfl shHT_1 hi (rf_6_2 hi) dX0_takeBack_35 ?_
      refine jw_gVV (rest := []) C.1 dX0_takeBack_36 (e2 8 50 (2 + 8 * Int32.toNatClampNeg _)) (em_shHT_shTT_e2_8_50_2i hi) (ctX4_copyFrom l _ _ h) miX4_copyFrom shHT_50 rfl gX0_takeBack_X4_copyFrom rfl (by decide) rfl rfl rfl (Nat.le_of_ble_eq_true rfl) ⟨Nat.zero_le _, Nat.zero_le _⟩ (fun μ3 h => ?_)
      have h := h _ rfl
      refine jw_aload_n C.1 dX0_takeBack_39 rfl 1 rfl ?_
      refine jw_iload_n C.1 dX0_takeBack_40 rfl 0 rfl ?_
      refine jw_putI C.1 iwX0_takeBack_X0 rfl shHT_0 rfl 1 (by decide) tyX0 tyX0_ok nmX0 (j := 0) rfl fuX0_1 (List.mem_of_getElem? (i := 1) rfl) rfl (ty := .int) (by decide +kernel) rfl rfl dX0_takeBack_41 ?_
      have h := h _ rfl
      refine jw_aload_n C.1 dX0_takeBack_44 rfl 1 rfl ?_
      refine jw_dup C.1 dX0_takeBack_45 rfl ?_
      refine jw_getI C.1 iwX0_takeBack_X0 rfl shHT_0 rfl 2 (by decide) rfl (List.mem_of_getElem? (i := 2) rfl) dX0_takeBack_46 ?_
      refine jw_iconst C.1 dX0_takeBack_49 ki_1 ?_
      refine jw_isub C.1 dX0_takeBack_50 ?_
      refine jw_putI C.1 iwX0_takeBack_X0 rfl shHT_0 rfl 2 (by decide) tyX0 tyX0_ok nmX0 (j := 1) rfl fuX0_2 (List.mem_of_getElem? (i := 2) rfl) rfl (ty := .int) (by decide +kernel) rfl rfl dX0_takeBack_51 ?_
      have h := h _ rfl
      exact jw_vret C h dX0_takeBack_54
    · have h := h.2 c
      exact jw_vret C h dX0_takeBack_28
set_option maxRecDepth 100000 in
set_option maxHeartbeats 4000000 in
theorem jbX1_append_5 {K : KT} {l : Launch} {ad : Nat → Nat} {Q : Mem → Prop} (hN : kN K = 5) (C : CtxM K l cX1_append RX1 wsX1_append rmX1_append shP ad none (pV Q)) : ∀ (n : Nat) (x1 : Int64) (x4 : Int32) (μ : Mem), bkX1_append_5 Q n x1 x4 μ → JW K (0, 0) shP ad μ 5 [(0, .ref (ad 0)), (1, .long x1), (4, .int x4)] [] := by
  have hN_4 : 4 < kN K := by rw [hN]; decide
  intro n
  induction n with
  | zero =>
    intro x1 x4 μ h
    exact h.elim
  | succ n ih =>
    intro x1 x4 μ h
    unfold bkX1_append_5 at h
    refine jw_iload C.1 dX1_append_5 2 rfl ?_
    refine jw_if_lt C.1 67 dX1_append_7 (by decide) (fun c => ?_) (fun c => ?_)
    · have h := h.1 c
      exact jw_vret C h dX1_append_67
    · have h := h.2 c
      refine jw_aload_n C.1 dX1_append_10 rfl 0 rfl ?_
      refine jw_getI C.1 iwX1_append_X1 rfl shP_0 rfl 2 (by decide) rfl (List.mem_of_getElem? (i := 1) rfl) dX1_append_11 ?_
      refine jw_if_lt C.1 61 dX1_append_14 (by decide) (fun c => ?_) (fun c => ?_)
      · have h := h.1 c
        refine jw_iinc (lw := [(4, .int _), (0, .ref _), (1, .long _)]) (q := 2) C.1 dX1_append_61 rfl (ai_m1 _) hN_4 rfl ?_
        have h := h _ rfl
        refine jw_goto (tgt := 5) C.1 dX1_append_64 (by decide) ?_
        refine jw_sub [1, 2, 0] rfl ?_
        exact ih _ _ _ h
      · have h := h.2 c
        refine jw_aload_n C.1 dX1_append_17 rfl 0 rfl ?_
        refine jw_getI C.1 iwX1_append_X1 rfl shP_0 rfl 2 (by decide) rfl (List.mem_of_getElem? (i := 1) rfl) dX1_append_18 ?_
        refine jw_aload_n C.1 dX1_append_21 rfl 0 rfl ?_
        refine jw_getR C.1 iwX1_append_X1 rfl shP_0 rfl 0 (by decide) rfl (List.mem_of_getElem? (i := 2) rfl) dX1_append_22 ?_
        refine jw_alenD C.1 rfl shP_1 rfl (v := 60) (by decide) dX1_append_25 ?_
        refine jw_icmp_ge C.1 61 dX1_append_26 (by decide) (fun c => ?_) (fun c => ?_)
        · have h := h.1 c
          refine jw_iinc (lw := [(4, .int _), (0, .ref _), (1, .long _)]) (q := 2) C.1 dX1_append_61 rfl (ai_m1 _) hN_4 rfl ?_
          have h := h _ rfl
          refine jw_goto (tgt := 5) C.1 dX1_append_64 (by decide) ?_
          refine jw_sub [1, 2, 0] rfl ?_
          exact ih _ _ _ h
        · have h := h.2 c
          refine jw_aload_n C.1 dX1_append_29 rfl 0 rfl ?_
          refine jw_getR C.1 iwX1_append_X1 rfl shP_0 rfl 0 (by decide) rfl (List.mem_of_getElem? (i := 2) rfl) dX1_append_30 ?_
          refine jw_aload_n C.1 dX1_append_33 rfl 0 rfl ?_
          refine jw_getI C.1 iwX1_append_X1 rfl shP_0 rfl 2 (by decide) rfl (List.mem_of_getElem? (i := 1) rfl) dX1_append_34 ?_
          refine jw_lload_n C.1 dX1_append_37 rfl 1 rfl ?_
          refine jw_bipush C.1 dX1_append_38 kb_8 ?_
          refine jw_iload C.1 dX1_append_40 2 rfl ?_
          refine jw_imul C.1 dX1_append_42 ?_
          refine jw_lushr C.1 dX1_append_43 ?_
          refine jw_ldc2 C.1 (v := 255) (List.mem_of_getElem? (i := 3) rfl) dX1_append_44 ?_
          refine jw_land C.1 dX1_append_47 ?_
          refine jw_l2i C.1 dX1_append_48 ?_
          refine jw_i2c C.1 dX1_append_49 ?_
          obtain ⟨hi, h⟩ := h
          refine jw_cast C.1 rfl shP_1 hi dX1_append_50 ?_
          have h := h _ rfl
          refine jw_aload_n C.1 dX1_append_51 rfl 0 rfl ?_
          refine jw_dup C.1 dX1_append_52 rfl ?_
          refine jw_getI C.1 iwX1_append_X1 rfl shP_0 rfl 2 (by decide) rfl (List.mem_of_getElem? (i := 1) rfl) dX1_append_53 ?_
          refine jw_iconst C.1 dX1_append_56 ki_1 ?_
          refine jw_iadd C.1 dX1_append_57 ?_
          refine jw_putI C.1 iwX1_append_X1 rfl shP_0 rfl 2 (by decide) tyX1 tyX1_ok nmX1 (j := 0) rfl fuX1_2 (List.mem_of_getElem? (i := 1) rfl) rfl (ty := .int) (by decide +kernel) rfl rfl dX1_append_58 ?_
          have h := h _ rfl
          refine jw_iinc (lw := [(4, .int _), (0, .ref _), (1, .long _)]) (q := 2) C.1 dX1_append_61 rfl (ai_m1 _) hN_4 rfl ?_
          have h := h _ rfl
          refine jw_goto (tgt := 5) C.1 dX1_append_64 (by decide) ?_
          refine jw_sub [1, 2, 0] rfl ?_
          exact ih _ _ _ h
set_option maxRecDepth 100000 in
set_option maxHeartbeats 4000000 in
theorem ctX1_append (l : Launch) (a1 : Int64) (a2 : Int32) (μ : Mem) (Q : Mem → Prop) (h : wpX1_append a1 a2 μ Q) : Con l yX1_append wsX1_append rmX1_append shP (fun ad => [.ref (ad 0), .long a1, .int a2]) μ (pV Q) := by
  refine Con.mk (cc := cX1_append) (maxL := 5) (ret := none) (own := RX1) (by decide) rfl rfl (fun _ => Nat.le_of_ble_eq_true rfl) (fun K ad hN C => ?_)
  show JW K (0, 0) shP ad μ 0 [(0, .ref (ad 0)), (1, .long a1), (3, .int a2)] []
  have hN_4 : 4 < kN K := by rw [hN]; decide
  unfold wpX1_append at h
  refine jw_iload_n C.1 dX1_append_0 rfl 2 rfl ?_
  refine jw_iconst C.1 dX1_append_1 ki_1 ?_
  refine jw_isub C.1 dX1_append_2 ?_
  refine jw_istore (lw := [(4, .int _), (0, .ref _), (1, .long _), (3, .int _)]) C.1 dX1_append_3 hN_4 rfl ?_
  have h := h _ rfl
  obtain ⟨n, h⟩ := h
  refine jw_sub [1, 2, 0] rfl ?_
  exact jbX1_append_5 hN C n _ _ _ h
set_option maxRecDepth 100000 in
set_option maxHeartbeats 4000000 in
theorem jbX1_characterAtCursor_35 {K : KT} {l : Launch} {ad : Nat → Nat} {Q : Int32 → Mem → Prop} (hN : kN K = 2) (C : CtxM K l cX1_characterAtCursor RX1 wsX1_characterAtCursor rmX1_characterAtCursor shP ad (some .char) (pI Q)) (s0 : Int32) (μ : Mem) (h : bkX1_characterAtCursor_35 Q s0 μ) : JW K (0, 0) shP ad μ 35 [(0, .ref (ad 0))] [.int s0] := by
  have hN_1 : 1 < kN K := by rw [hN]; decide
  unfold bkX1_characterAtCursor_35 at h
  refine jw_istore_n (lw := [(1, .int _), (0, .ref _)]) C.1 dX1_characterAtCursor_35 rfl hN_1 rfl ?_
  refine jw_iload_n C.1 dX1_characterAtCursor_36 rfl 0 rfl ?_
  refine jw_if_eq C.1 52 dX1_characterAtCursor_37 (by decide) (fun c => ?_) (fun c => ?_)
  · have h := h.1 c
    refine jw_iconst C.1 dX1_characterAtCursor_52 ki_0 ?_
    exact jw_zret (Q := Q) C h.1 h.2 dX1_characterAtCursor_53
  · have h := h.2 c
    refine jw_aload_n C.1 dX1_characterAtCursor_40 rfl 1 rfl ?_
    refine jw_getR C.1 iwX1_characterAtCursor_X1 rfl shP_0 rfl 0 (by decide) rfl (List.mem_of_getElem? (i := 3) rfl) dX1_characterAtCursor_41 ?_
    refine jw_aload_n C.1 dX1_characterAtCursor_44 rfl 1 rfl ?_
    refine jw_getI C.1 iwX1_characterAtCursor_X1 rfl shP_0 rfl 4 (by decide) rfl (List.mem_of_getElem? (i := 1) rfl) dX1_characterAtCursor_45 ?_
    obtain ⟨hi, h⟩ := h
    refine jw_cald C.1 rfl shP_1 hi dX1_characterAtCursor_48 ?_
    refine jw_goto (tgt := 53) C.1 dX1_characterAtCursor_49 (by decide) ?_
    exact jw_zret (Q := Q) C h.1 h.2 dX1_characterAtCursor_53
set_option maxRecDepth 100000 in
set_option maxHeartbeats 4000000 in
theorem jbX1_characterAtCursor_34 {K : KT} {l : Launch} {ad : Nat → Nat} {Q : Int32 → Mem → Prop} (hN : kN K = 2) (C : CtxM K l cX1_characterAtCursor RX1 wsX1_characterAtCursor rmX1_characterAtCursor shP ad (some .char) (pI Q)) (μ : Mem) (h : bkX1_characterAtCursor_34 Q μ) : JW K (0, 0) shP ad μ 34 [(0, .ref (ad 0))] [] := by
  have hN_1 : 1 < kN K := by rw [hN]; decide
  unfold bkX1_characterAtCursor_34 at h
  refine jw_iconst C.1 dX1_characterAtCursor_34 ki_0 ?_
  exact jbX1_characterAtCursor_35 hN C _ _ h
set_option maxRecDepth 100000 in
set_option maxHeartbeats 4000000 in
theorem ctX1_characterAtCursor (l : Launch) (μ : Mem) (Q : Int32 → Mem → Prop) (h : wpX1_characterAtCursor μ Q) : Con l yX1_characterAtCursor wsX1_characterAtCursor rmX1_characterAtCursor shP (fun ad => [.ref (ad 0)]) μ (pI Q) := by
  refine Con.mk (cc := cX1_characterAtCursor) (maxL := 2) (ret := (some .char)) (own := RX1) (by decide) rfl rfl (fun _ => Nat.le_of_ble_eq_true rfl) (fun K ad hN C => ?_)
  show JW K (0, 0) shP ad μ 0 [(0, .ref (ad 0))] []
  have hN_1 : 1 < kN K := by rw [hN]; decide
  unfold wpX1_characterAtCursor at h
  refine jw_aload_n C.1 dX1_characterAtCursor_0 rfl 0 rfl ?_
  refine jw_getI C.1 iwX1_characterAtCursor_X1 rfl shP_0 rfl 4 (by decide) rfl (List.mem_of_getElem? (i := 1) rfl) dX1_characterAtCursor_1 ?_
  refine jw_if_lt C.1 34 dX1_characterAtCursor_4 (by decide) (fun c => ?_) (fun c => ?_)
  · have h := h.1 c
    exact jbX1_characterAtCursor_34 hN C _ h
  · have h := h.2 c
    refine jw_aload_n C.1 dX1_characterAtCursor_7 rfl 0 rfl ?_
    refine jw_getI C.1 iwX1_characterAtCursor_X1 rfl shP_0 rfl 4 (by decide) rfl (List.mem_of_getElem? (i := 1) rfl) dX1_characterAtCursor_8 ?_
    refine jw_aload_n C.1 dX1_characterAtCursor_11 rfl 0 rfl ?_
    refine jw_getI C.1 iwX1_characterAtCursor_X1 rfl shP_0 rfl 2 (by decide) rfl (List.mem_of_getElem? (i := 2) rfl) dX1_characterAtCursor_12 ?_
    refine jw_icmp_ge C.1 34 dX1_characterAtCursor_15 (by decide) (fun c => ?_) (fun c => ?_)
    · have h := h.1 c
      exact jbX1_characterAtCursor_34 hN C _ h
    · have h := h.2 c
      refine jw_aload_n C.1 dX1_characterAtCursor_18 rfl 0 rfl ?_
      refine jw_getI C.1 iwX1_characterAtCursor_X1 rfl shP_0 rfl 4 (by decide) rfl (List.mem_of_getElem? (i := 1) rfl) dX1_characterAtCursor_19 ?_
      refine jw_aload_n C.1 dX1_characterAtCursor_22 rfl 0 rfl ?_
      refine jw_getR C.1 iwX1_characterAtCursor_X1 rfl shP_0 rfl 0 (by decide) rfl (List.mem_of_getElem? (i := 3) rfl) dX1_characterAtCursor_23 ?_
      refine jw_alenD C.1 rfl shP_1 rfl (v := 60) (by decide) dX1_characterAtCursor_26 ?_
      refine jw_icmp_ge C.1 34 dX1_characterAtCursor_27 (by decide) (fun c => ?_) (fun c => ?_)
      · have h := h.1 c
        exact jbX1_characterAtCursor_34 hN C _ h
      · have h := h.2 c
        refine jw_iconst C.1 dX1_characterAtCursor_30 ki_1 ?_
        refine jw_goto (tgt := 35) C.1 dX1_characterAtCursor_31 (by decide) ?_
        exact jbX1_characterAtCursor_35 hN C _ _ h
set_option maxRecDepth 100000 in
set_option maxHeartbeats 4000000 in
theorem jbX1_charactersIn_65 {K : KT} {l : Launch} {ad : Nat → Nat} {Q : Int32 → Prop} {μ0 : Mem} (hN : kN K = 6) (C : CtxM K l cX1_charactersIn RX1 wsX1_charactersIn rmX1_charactersIn [] ad (some .int) (pI (fun r _ => Q r))) (x2 : Int64) (x4 : Int32) (h : bkX1_charactersIn_65 Q x2 x4) : JW K (0, 0) [] ad μ0 65 [(2, .long x2), (4, .int x4)] [] := by
  have hN_3 : 3 < kN K := by rw [hN]; decide
  have hN_4 : 4 < kN K := by rw [hN]; decide
  have hN_5 : 5 < kN K := by rw [hN]; decide
  unfold bkX1_charactersIn_65 at h
  refine jw_lload_n C.1 dX1_charactersIn_65 rfl 0 rfl ?_
  refine jw_lconst C.1 dX1_charactersIn_66 (v := 0) rfl ?_
  refine jw_lcmp C.1 dX1_charactersIn_67 ?_
  refine jw_if_ne C.1 76 dX1_charactersIn_68 (by decide) (fun c => ?_) (fun c => ?_)
  · have h := h.1 c
    refine jw_iconst C.1 dX1_charactersIn_76 ki_0 ?_
    exact jw_iret (Q := fun r _ => Q r) C h dX1_charactersIn_77
  · have h := h.2 c
    refine jw_iload C.1 dX1_charactersIn_71 1 rfl ?_
    refine jw_goto (tgt := 77) C.1 dX1_charactersIn_73 (by decide) ?_
    exact jw_iret (Q := fun r _ => Q r) C h dX1_charactersIn_77
set_option maxRecDepth 100000 in
set_option maxHeartbeats 4000000 in
theorem jbX1_charactersIn_8 {K : KT} {l : Launch} {ad : Nat → Nat} {Q : Int32 → Prop} {μ0 : Mem} (hN : kN K = 6) (C : CtxM K l cX1_charactersIn RX1 wsX1_charactersIn rmX1_charactersIn [] ad (some .int) (pI (fun r _ => Q r))) : ∀ (n : Nat) (x2 : Int64) (x4 : Int32) (x5 : Int32), bkX1_charactersIn_8 Q n x2 x4 x5 → JW K (0, 0) [] ad μ0 8 [(2, .long x2), (4, .int x4), (5, .int x5)] [] := by
  have hN_3 : 3 < kN K := by rw [hN]; decide
  have hN_4 : 4 < kN K := by rw [hN]; decide
  have hN_5 : 5 < kN K := by rw [hN]; decide
  intro n
  induction n with
  | zero =>
    intro x2 x4 x5 h
    exact h.elim
  | succ n ih =>
    intro x2 x4 x5 h
    unfold bkX1_charactersIn_8 at h
    refine jw_iload C.1 dX1_charactersIn_8 2 rfl ?_
    refine jw_bipush C.1 dX1_charactersIn_10 kb_8 ?_
    refine jw_icmp_ge C.1 65 dX1_charactersIn_12 (by decide) (fun c => ?_) (fun c => ?_)
    · have h := h.1 c
      refine jw_sub [0, 1] rfl ?_
      exact jbX1_charactersIn_65 hN C _ _ h
    · have h := h.2 c
      refine jw_lload_n C.1 dX1_charactersIn_15 rfl 0 rfl ?_
      refine jw_ldc2 C.1 (v := 255) (List.mem_of_getElem? (i := 1) rfl) dX1_charactersIn_16 ?_
      refine jw_land C.1 dX1_charactersIn_19 ?_
      refine jw_lconst C.1 dX1_charactersIn_20 (v := 0) rfl ?_
      refine jw_lcmp C.1 dX1_charactersIn_21 ?_
      refine jw_if_eq C.1 65 dX1_charactersIn_22 (by decide) (fun c => ?_) (fun c => ?_)
      · have h := h.1 c
        refine jw_sub [0, 1] rfl ?_
        exact jbX1_charactersIn_65 hN C _ _ h
      · have h := h.2 c
        refine jw_lload_n C.1 dX1_charactersIn_25 rfl 0 rfl ?_
        refine jw_ldc2 C.1 (v := 255) (List.mem_of_getElem? (i := 1) rfl) dX1_charactersIn_26 ?_
        refine jw_land C.1 dX1_charactersIn_29 ?_
        refine jw_ldc2 C.1 (v := 33) (List.mem_of_getElem? (i := 2) rfl) dX1_charactersIn_30 ?_
        refine jw_lcmp C.1 dX1_charactersIn_33 ?_
        refine jw_if_lt C.1 49 dX1_charactersIn_34 (by decide) (fun c => ?_) (fun c => ?_)
        · have h := h.1 c
          refine jw_iconst C.1 dX1_charactersIn_49 ki_0 ?_
          exact jw_iret (Q := fun r _ => Q r) C h dX1_charactersIn_50
        · have h := h.2 c
          refine jw_lload_n C.1 dX1_charactersIn_37 rfl 0 rfl ?_
          refine jw_ldc2 C.1 (v := 255) (List.mem_of_getElem? (i := 1) rfl) dX1_charactersIn_38 ?_
          refine jw_land C.1 dX1_charactersIn_41 ?_
          refine jw_ldc2 C.1 (v := 126) (List.mem_of_getElem? (i := 3) rfl) dX1_charactersIn_42 ?_
          refine jw_lcmp C.1 dX1_charactersIn_45 ?_
          refine jw_if_le C.1 51 dX1_charactersIn_46 (by decide) (fun c => ?_) (fun c => ?_)
          · have h := h.1 c
            refine jw_lload_n C.1 dX1_charactersIn_51 rfl 0 rfl ?_
            refine jw_bipush C.1 dX1_charactersIn_52 kb_8 ?_
            refine jw_lushr C.1 dX1_charactersIn_54 ?_
            refine jw_lstore_n (lw := [(2, .long _), (4, .int _), (5, .int _)]) C.1 dX1_charactersIn_55 rfl hN_3 rfl ?_
            have h := h _ rfl
            refine jw_iinc (lw := [(4, .int _), (2, .long _), (5, .int _)]) (q := 1) C.1 dX1_charactersIn_56 rfl (ai_1 _) hN_4 rfl ?_
            have h := h _ rfl
            refine jw_iinc (lw := [(5, .int _), (4, .int _), (2, .long _)]) (q := 2) C.1 dX1_charactersIn_59 rfl (ai_1 _) hN_5 rfl ?_
            have h := h _ rfl
            refine jw_goto (tgt := 8) C.1 dX1_charactersIn_62 (by decide) ?_
            refine jw_sub [2, 1, 0] rfl ?_
            exact ih _ _ _ h
          · have h := h.2 c
            refine jw_iconst C.1 dX1_charactersIn_49 ki_0 ?_
            exact jw_iret (Q := fun r _ => Q r) C h dX1_charactersIn_50
set_option maxRecDepth 100000 in
set_option maxHeartbeats 4000000 in
theorem ctX1_charactersIn (l : Launch) (a1 : Int64) (Q : Int32 → Prop) (h : wpX1_charactersIn a1 Q) (μ : Mem) : Con l yX1_charactersIn wsX1_charactersIn rmX1_charactersIn [] (fun _ => [.long a1]) μ (pI (fun r _ => Q r)) := by
  refine Con.mk (cc := cX1_charactersIn) (maxL := 6) (ret := (some .int)) (own := RX1) (by decide) rfl rfl (fun _ => Nat.le_of_ble_eq_true rfl) (fun K ad hN C => ?_)
  show JW K (0, 0) [] ad μ 0 [(0, .long a1)] []
  have hN_3 : 3 < kN K := by rw [hN]; decide
  have hN_4 : 4 < kN K := by rw [hN]; decide
  have hN_5 : 5 < kN K := by rw [hN]; decide
  unfold wpX1_charactersIn at h
  refine jw_lload_n C.1 dX1_charactersIn_0 rfl 0 rfl ?_
  refine jw_lstore_n (lw := [(2, .long _), (0, .long _)]) C.1 dX1_charactersIn_1 rfl hN_3 rfl ?_
  refine jw_iconst C.1 dX1_charactersIn_2 ki_0 ?_
  refine jw_istore (lw := [(4, .int _), (2, .long _), (0, .long _)]) C.1 dX1_charactersIn_3 hN_4 rfl ?_
  refine jw_iconst C.1 dX1_charactersIn_5 ki_0 ?_
  refine jw_istore (lw := [(5, .int _), (4, .int _), (2, .long _), (0, .long _)]) C.1 dX1_charactersIn_6 hN_5 rfl ?_
  obtain ⟨n, h⟩ := h
  refine jw_sub [2, 1, 0] rfl ?_
  exact jbX1_charactersIn_8 hN C n _ _ _ h
set_option maxRecDepth 100000 in
set_option maxHeartbeats 4000000 in
theorem ctX1_clear (l : Launch) (μ : Mem) (Q : Mem → Prop) (h : wpX1_clear μ Q) : Con l yX1_clear wsX1_clear rmX1_clear shP (fun ad => [.ref (ad 0)]) μ (pV Q) := by
  refine Con.mk (cc := cX1_clear) (maxL := 1) (ret := none) (own := RX1) (by decide) rfl rfl (fun _ => Nat.le_of_ble_eq_true rfl) (fun K ad hN C => ?_)
  show JW K (0, 0) shP ad μ 0 [(0, .ref (ad 0))] []
  unfold wpX1_clear at h
  refine jw_aload_n C.1 dX1_clear_0 rfl 0 rfl ?_
  refine jw_iconst C.1 dX1_clear_1 ki_0 ?_
  refine jw_putI C.1 iwX1_clear_X1 rfl shP_0 rfl 2 (by decide) tyX1 tyX1_ok nmX1 (j := 0) rfl fuX1_2 (List.mem_of_getElem? (i := 1) rfl) rfl (ty := .int) (by decide +kernel) rfl rfl dX1_clear_2 ?_
  have h := h _ rfl
  exact jw_vret C h dX1_clear_5
set_option maxRecDepth 100000 in
set_option maxHeartbeats 4000000 in
theorem ctX1_digitAtCursor (l : Launch) (μ : Mem) (Q : Int32 → Mem → Prop) (h : wpX1_digitAtCursor μ Q) : Con l yX1_digitAtCursor wsX1_digitAtCursor rmX1_digitAtCursor shP (fun ad => [.ref (ad 0)]) μ (pI Q) := by
  refine Con.mk (cc := cX1_digitAtCursor) (maxL := 2) (ret := (some .int)) (own := RX1) (by decide) rfl rfl (fun _ => Nat.le_of_ble_eq_true rfl) (fun K ad hN C => ?_)
  show JW K (0, 0) shP ad μ 0 [(0, .ref (ad 0))] []
  have hN_1 : 1 < kN K := by rw [hN]; decide
  unfold wpX1_digitAtCursor at h
  refine jw_aload_n C.1 dX1_digitAtCursor_0 rfl 0 rfl ?_
  refine jw_cVI (rest := []) C.1 dX1_digitAtCursor_1 em_shP_id (ctX1_characterAtCursor l _ _ h) miX1_characterAtCursor shP_0 rfl gX1_digitAtCursor_X1_characterAtCursor rfl (by decide) rfl rfl rfl (Nat.le_of_ble_eq_true rfl) ⟨Nat.zero_le _, Nat.zero_le _⟩ (fun r1 μ2 h => ?_)
  refine jw_istore_n (lw := [(1, .int _), (0, .ref _)]) C.1 dX1_digitAtCursor_4 rfl hN_1 rfl ?_
  refine jw_iload_n C.1 dX1_digitAtCursor_5 rfl 0 rfl ?_
  refine jw_bipush C.1 dX1_digitAtCursor_6 kb_48 ?_
  refine jw_icmp_lt C.1 24 dX1_digitAtCursor_8 (by decide) (fun c => ?_) (fun c => ?_)
  · have h := h.1 c
    refine jw_iconst C.1 dX1_digitAtCursor_24 ki_m1 ?_
    exact jw_iret (Q := Q) C h dX1_digitAtCursor_25
  · have h := h.2 c
    refine jw_iload_n C.1 dX1_digitAtCursor_11 rfl 0 rfl ?_
    refine jw_bipush C.1 dX1_digitAtCursor_12 kb_57 ?_
    refine jw_icmp_gt C.1 24 dX1_digitAtCursor_14 (by decide) (fun c => ?_) (fun c => ?_)
    · have h := h.1 c
      refine jw_iconst C.1 dX1_digitAtCursor_24 ki_m1 ?_
      exact jw_iret (Q := Q) C h dX1_digitAtCursor_25
    · have h := h.2 c
      refine jw_iload_n C.1 dX1_digitAtCursor_17 rfl 0 rfl ?_
      refine jw_bipush C.1 dX1_digitAtCursor_18 kb_48 ?_
      refine jw_isub C.1 dX1_digitAtCursor_20 ?_
      refine jw_goto (tgt := 25) C.1 dX1_digitAtCursor_21 (by decide) ?_
      exact jw_iret (Q := Q) C h dX1_digitAtCursor_25
set_option maxRecDepth 100000 in
set_option maxHeartbeats 4000000 in
theorem ctX1_keep (l : Launch) (a1 : Int32) (a2 : Int32) (a3 : Int32) (a4 : Int32) (μ : Mem) (Q : Int32 → Mem → Prop) (h : wpX1_keep a1 a2 a3 a4 μ Q) : Con l yX1_keep wsX1_keep rmX1_keep shP (fun ad => [.ref (ad 0), .int a1, .int a2, .int a3, .int a4]) μ (pI Q) := by
  refine Con.mk (cc := cX1_keep) (maxL := 5) (ret := (some .boolean)) (own := RX1) (by decide) rfl rfl (fun _ => Nat.le_of_ble_eq_true rfl) (fun K ad hN C => ?_)
  show JW K (0, 0) shP ad μ 0 [(0, .ref (ad 0)), (1, .int a1), (2, .int a2), (3, .int a3), (4, .int a4)] []
  unfold wpX1_keep at h
  refine jw_iload C.1 dX1_keep_0 4 rfl ?_
  refine jw_if_lt C.1 24 dX1_keep_2 (by decide) (fun c => ?_) (fun c => ?_)
  · have h := h.1 c
    refine jw_iconst C.1 dX1_keep_24 ki_0 ?_
    exact jw_zret (Q := Q) C rfl h dX1_keep_25
  · have h := h.2 c
    refine jw_aload_n C.1 dX1_keep_5 rfl 0 rfl ?_
    refine jw_getI C.1 iwX1_keep_X1 rfl shP_0 rfl 3 (by decide) rfl (List.mem_of_getElem? (i := 1) rfl) dX1_keep_6 ?_
    refine jw_if_lt C.1 24 dX1_keep_9 (by decide) (fun c => ?_) (fun c => ?_)
    · have h := h.1 c
      refine jw_iconst C.1 dX1_keep_24 ki_0 ?_
      exact jw_zret (Q := Q) C rfl h dX1_keep_25
    · have h := h.2 c
      refine jw_aload_n C.1 dX1_keep_12 rfl 0 rfl ?_
      refine jw_getI C.1 iwX1_keep_X1 rfl shP_0 rfl 3 (by decide) rfl (List.mem_of_getElem? (i := 1) rfl) dX1_keep_13 ?_
      refine jw_aload_n C.1 dX1_keep_16 rfl 0 rfl ?_
      refine jw_getR C.1 iwX1_keep_X1 rfl shP_0 rfl 1 (by decide) rfl (List.mem_of_getElem? (i := 2) rfl) dX1_keep_17 ?_
      refine jw_alenD C.1 rfl shP_2 rfl (v := 20) (by decide) dX1_keep_20 ?_
      refine jw_icmp_lt C.1 26 dX1_keep_21 (by decide) (fun c => ?_) (fun c => ?_)
      · have h := h.1 c
        refine jw_aload_n C.1 dX1_keep_26 rfl 0 rfl ?_
        refine jw_getR C.1 iwX1_keep_X1 rfl shP_0 rfl 1 (by decide) rfl (List.mem_of_getElem? (i := 2) rfl) dX1_keep_27 ?_
        refine jw_aload_n C.1 dX1_keep_30 rfl 0 rfl ?_
        refine jw_getI C.1 iwX1_keep_X1 rfl shP_0 rfl 3 (by decide) rfl (List.mem_of_getElem? (i := 1) rfl) dX1_keep_31 ?_
        refine jw_iload_n C.1 dX1_keep_34 rfl 1 rfl ?_
        refine jw_iload_n C.1 dX1_keep_35 rfl 2 rfl ?_
        refine jw_iload_n C.1 dX1_keep_36 rfl 3 rfl ?_
        refine jw_iload C.1 dX1_keep_37 4 rfl ?_
        refine jw_eSI (rest := [.int _, .ref _]) C.1 dX1_keep_39 (ctX3_of l _ _ _ _ _ h _) miX3_of gX1_keep_X3_of (by decide) rfl rfl rfl (Nat.le_of_ble_eq_true rfl) ⟨Nat.zero_le _, Nat.zero_le _⟩ (fun r1 h => ?_)
        obtain ⟨hi, h⟩ := h
        refine jw_iast C.1 rfl shP_2 hi dX1_keep_42 ?_
        have h := h _ rfl
        refine jw_aload_n C.1 dX1_keep_43 rfl 0 rfl ?_
        refine jw_dup C.1 dX1_keep_44 rfl ?_
        refine jw_getI C.1 iwX1_keep_X1 rfl shP_0 rfl 3 (by decide) rfl (List.mem_of_getElem? (i := 1) rfl) dX1_keep_45 ?_
        refine jw_iconst C.1 dX1_keep_48 ki_1 ?_
        refine jw_iadd C.1 dX1_keep_49 ?_
        refine jw_putI C.1 iwX1_keep_X1 rfl shP_0 rfl 3 (by decide) tyX1 tyX1_ok nmX1 (j := 1) rfl fuX1_3 (List.mem_of_getElem? (i := 1) rfl) rfl (ty := .int) (by decide +kernel) rfl rfl dX1_keep_50 ?_
        have h := h _ rfl
        refine jw_iconst C.1 dX1_keep_53 ki_1 ?_
        exact jw_zret (Q := Q) C rfl h dX1_keep_54
      · have h := h.2 c
        refine jw_iconst C.1 dX1_keep_24 ki_0 ?_
        exact jw_zret (Q := Q) C rfl h dX1_keep_25
set_option maxRecDepth 100000 in
set_option maxHeartbeats 4000000 in
theorem ctX1_length (l : Launch) (μ : Mem) (Q : Int32 → Mem → Prop) (h : wpX1_length μ Q) : Con l yX1_length wsX1_length rmX1_length shP (fun ad => [.ref (ad 0)]) μ (pI Q) := by
  refine Con.mk (cc := cX1_length) (maxL := 1) (ret := (some .int)) (own := RX1) (by decide) rfl rfl (fun _ => Nat.le_of_ble_eq_true rfl) (fun K ad hN C => ?_)
  show JW K (0, 0) shP ad μ 0 [(0, .ref (ad 0))] []
  unfold wpX1_length at h
  refine jw_aload_n C.1 dX1_length_0 rfl 0 rfl ?_
  refine jw_getI C.1 iwX1_length_X1 rfl shP_0 rfl 2 (by decide) rfl (List.mem_of_getElem? (i := 1) rfl) dX1_length_1 ?_
  exact jw_iret (Q := Q) C h dX1_length_4
set_option maxRecDepth 100000 in
set_option maxHeartbeats 4000000 in
theorem ctX1_order (l : Launch) (a1 : Int32) (μ : Mem) (Q : Int32 → Mem → Prop) (h : wpX1_order a1 μ Q) : Con l yX1_order wsX1_order rmX1_order shP (fun ad => [.ref (ad 0), .int a1]) μ (pI Q) := by
  refine Con.mk (cc := cX1_order) (maxL := 2) (ret := (some .int)) (own := RX1) (by decide) rfl rfl (fun _ => Nat.le_of_ble_eq_true rfl) (fun K ad hN C => ?_)
  show JW K (0, 0) shP ad μ 0 [(0, .ref (ad 0)), (1, .int a1)] []
  unfold wpX1_order at h
  refine jw_iload_n C.1 dX1_order_0 rfl 1 rfl ?_
  refine jw_if_lt C.1 22 dX1_order_1 (by decide) (fun c => ?_) (fun c => ?_)
  · have h := h.1 c
    refine jw_iconst C.1 dX1_order_22 ki_0 ?_
    exact jw_iret (Q := Q) C h dX1_order_23
  · have h := h.2 c
    refine jw_iload_n C.1 dX1_order_4 rfl 1 rfl ?_
    refine jw_aload_n C.1 dX1_order_5 rfl 0 rfl ?_
    refine jw_getR C.1 iwX1_order_X1 rfl shP_0 rfl 1 (by decide) rfl (List.mem_of_getElem? (i := 1) rfl) dX1_order_6 ?_
    refine jw_alenD C.1 rfl shP_2 rfl (v := 20) (by decide) dX1_order_9 ?_
    refine jw_icmp_ge C.1 22 dX1_order_10 (by decide) (fun c => ?_) (fun c => ?_)
    · have h := h.1 c
      refine jw_iconst C.1 dX1_order_22 ki_0 ?_
      exact jw_iret (Q := Q) C h dX1_order_23
    · have h := h.2 c
      refine jw_aload_n C.1 dX1_order_13 rfl 0 rfl ?_
      refine jw_getR C.1 iwX1_order_X1 rfl shP_0 rfl 1 (by decide) rfl (List.mem_of_getElem? (i := 1) rfl) dX1_order_14 ?_
      refine jw_iload_n C.1 dX1_order_17 rfl 1 rfl ?_
      obtain ⟨hi, h⟩ := h
      refine jw_iald C.1 rfl shP_2 hi dX1_order_18 ?_
      refine jw_goto (tgt := 23) C.1 dX1_order_19 (by decide) ?_
      exact jw_iret (Q := Q) C h dX1_order_23
set_option maxRecDepth 100000 in
set_option maxHeartbeats 4000000 in
theorem ctX1_orders (l : Launch) (μ : Mem) (Q : Int32 → Mem → Prop) (h : wpX1_orders μ Q) : Con l yX1_orders wsX1_orders rmX1_orders shP (fun ad => [.ref (ad 0)]) μ (pI Q) := by
  refine Con.mk (cc := cX1_orders) (maxL := 1) (ret := (some .int)) (own := RX1) (by decide) rfl rfl (fun _ => Nat.le_of_ble_eq_true rfl) (fun K ad hN C => ?_)
  show JW K (0, 0) shP ad μ 0 [(0, .ref (ad 0))] []
  unfold wpX1_orders at h
  refine jw_aload_n C.1 dX1_orders_0 rfl 0 rfl ?_
  refine jw_getI C.1 iwX1_orders_X1 rfl shP_0 rfl 3 (by decide) rfl (List.mem_of_getElem? (i := 1) rfl) dX1_orders_1 ?_
  exact jw_iret (Q := Q) C h dX1_orders_4
set_option maxRecDepth 100000 in
set_option maxHeartbeats 4000000 in
theorem jbX1_readNumber_4 {K : KT} {l : Launch} {ad : Nat → Nat} {Q : Int32 → Mem → Prop} (hN : kN K = 6) (C : CtxM K l cX1_readNumber RX1 wsX1_readNumber rmX1_readNumber shP ad (some .int) (pI Q)) : ∀ (n : Nat) (x1 : Int32) (x2 : Int32) (x3 : Int32) (μ : Mem), bkX1_readNumber_4 Q n x1 x2 x3 μ → JW K (0, 0) shP ad μ 4 [(0, .ref (ad 0)), (1, .int x1), (2, .int x2), (3, .int x3)] [] := by
  have hN_2 : 2 < kN K := by rw [hN]; decide
  have hN_3 : 3 < kN K := by rw [hN]; decide
  have hN_4 : 4 < kN K := by rw [hN]; decide
  have hN_5 : 5 < kN K := by rw [hN]; decide
  intro n
  induction n with
  | zero =>
    intro x1 x2 x3 μ h
    exact h.elim
  | succ n ih =>
    intro x1 x2 x3 μ h
    unfold bkX1_readNumber_4 at h
    refine jw_iload_n C.1 dX1_readNumber_4 rfl 3 rfl ?_
    refine jw_bipush C.1 dX1_readNumber_5 kb_60 ?_
    refine jw_icmp_ge C.1 67 dX1_readNumber_7 (by decide) (fun c => ?_) (fun c => ?_)
    · have h := h.1 c
      refine jw_iload_n C.1 dX1_readNumber_67 rfl 2 rfl ?_
      exact jw_iret (Q := Q) C h dX1_readNumber_68
    · have h := h.2 c
      refine jw_aload_n C.1 dX1_readNumber_10 rfl 0 rfl ?_
      refine jw_cVI (rest := []) C.1 dX1_readNumber_11 em_shP_id (ctX1_digitAtCursor l _ _ h) miX1_digitAtCursor shP_0 rfl gX1_readNumber_X1_digitAtCursor rfl (by decide) rfl rfl rfl (Nat.le_of_ble_eq_true rfl) ⟨Nat.zero_le _, Nat.zero_le _⟩ (fun r1 μ2 h => ?_)
      refine jw_istore (lw := [(4, .int _), (0, .ref _), (1, .int _), (2, .int _), (3, .int _)]) C.1 dX1_readNumber_14 hN_4 rfl ?_
      refine jw_iload C.1 dX1_readNumber_16 0 rfl ?_
      refine jw_if_lt C.1 25 dX1_readNumber_18 (by decide) (fun c => ?_) (fun c => ?_)
      · have h := h.1 c
        refine jw_iload_n C.1 dX1_readNumber_25 rfl 3 rfl ?_
        exact jw_iret (Q := Q) C h dX1_readNumber_26
      · have h := h.2 c
        refine jw_iload_n C.1 dX1_readNumber_21 rfl 3 rfl ?_
        refine jw_if_ne C.1 27 dX1_readNumber_22 (by decide) (fun c => ?_) (fun c => ?_)
        · have h := h.1 c
          refine jw_iload_n C.1 dX1_readNumber_27 rfl 3 rfl ?_
          refine jw_iconst C.1 dX1_readNumber_28 ki_0 ?_
          refine jw_mmax C.1 (List.mem_of_getElem? (i := 1) rfl) (List.mem_of_getElem? (i := 2) rfl) (List.mem_of_getElem? (i := 3) rfl) (List.mem_of_getElem? (i := 4) rfl) (by decide) (Nat.le_of_ble_eq_true rfl) ⟨Nat.zero_le _, Nat.zero_le _⟩ dX1_readNumber_29 ?_
          refine jw_bipush C.1 dX1_readNumber_32 kb_10 ?_
          refine jw_imul C.1 dX1_readNumber_34 ?_
          refine jw_iload C.1 dX1_readNumber_35 0 rfl ?_
          refine jw_iadd C.1 dX1_readNumber_37 ?_
          refine jw_istore (lw := [(5, .int _), (4, .int _), (0, .ref _), (1, .int _), (2, .int _), (3, .int _)]) C.1 dX1_readNumber_38 hN_5 rfl ?_
          have h := h _ rfl
          refine jw_iload C.1 dX1_readNumber_40 0 rfl ?_
          refine jw_iload_n C.1 dX1_readNumber_42 rfl 3 rfl ?_
          refine jw_icmp_le C.1 48 dX1_readNumber_43 (by decide) (fun c => ?_) (fun c => ?_)
          · have h := h.1 c
            refine jw_iload C.1 dX1_readNumber_48 0 rfl ?_
            refine jw_istore_n (lw := [(2, .int _), (5, .int _), (4, .int _), (0, .ref _), (1, .int _), (3, .int _)]) C.1 dX1_readNumber_50 rfl hN_2 rfl ?_
            refine jw_aload_n C.1 dX1_readNumber_51 rfl 3 rfl ?_
            refine jw_dup C.1 dX1_readNumber_52 rfl ?_
            refine jw_getI C.1 iwX1_readNumber_X1 rfl shP_0 rfl 4 (by decide) rfl (List.mem_of_getElem? (i := 5) rfl) dX1_readNumber_53 ?_
            refine jw_iconst C.1 dX1_readNumber_56 ki_1 ?_
            refine jw_iadd C.1 dX1_readNumber_57 ?_
            refine jw_putI C.1 iwX1_readNumber_X1 rfl shP_0 rfl 4 (by decide) tyX1 tyX1_ok nmX1 (j := 2) rfl fuX1_4 (List.mem_of_getElem? (i := 5) rfl) rfl (ty := .int) (by decide +kernel) rfl rfl dX1_readNumber_58 ?_
            have h := h _ rfl
            refine jw_iinc (lw := [(3, .int _), (2, .int _), (5, .int _), (4, .int _), (0, .ref _), (1, .int _)]) (q := 5) C.1 dX1_readNumber_61 rfl (ai_1 _) hN_3 rfl ?_
            have h := h _ rfl
            refine jw_goto (tgt := 4) C.1 dX1_readNumber_64 (by decide) ?_
            refine jw_sub [4, 5, 1, 0] rfl ?_
            exact ih _ _ _ _ h
          · have h := h.2 c
            refine jw_iload_n C.1 dX1_readNumber_46 rfl 4 rfl ?_
            exact jw_iret (Q := Q) C h dX1_readNumber_47
        · have h := h.2 c
          refine jw_iload_n C.1 dX1_readNumber_25 rfl 3 rfl ?_
          exact jw_iret (Q := Q) C h dX1_readNumber_26
set_option maxRecDepth 100000 in
set_option maxHeartbeats 4000000 in
theorem ctX1_readNumber (l : Launch) (a1 : Int32) (μ : Mem) (Q : Int32 → Mem → Prop) (h : wpX1_readNumber a1 μ Q) : Con l yX1_readNumber wsX1_readNumber rmX1_readNumber shP (fun ad => [.ref (ad 0), .int a1]) μ (pI Q) := by
  refine Con.mk (cc := cX1_readNumber) (maxL := 6) (ret := (some .int)) (own := RX1) (by decide) rfl rfl (fun _ => Nat.le_of_ble_eq_true rfl) (fun K ad hN C => ?_)
  show JW K (0, 0) shP ad μ 0 [(0, .ref (ad 0)), (1, .int a1)] []
  have hN_2 : 2 < kN K := by rw [hN]; decide
  have hN_3 : 3 < kN K := by rw [hN]; decide
  have hN_4 : 4 < kN K := by rw [hN]; decide
  have hN_5 : 5 < kN K := by rw [hN]; decide
  unfold wpX1_readNumber at h
  refine jw_iconst C.1 dX1_readNumber_0 ki_m1 ?_
  refine jw_istore_n (lw := [(2, .int _), (0, .ref _), (1, .int _)]) C.1 dX1_readNumber_1 rfl hN_2 rfl ?_
  refine jw_iconst C.1 dX1_readNumber_2 ki_0 ?_
  refine jw_istore_n (lw := [(3, .int _), (2, .int _), (0, .ref _), (1, .int _)]) C.1 dX1_readNumber_3 rfl hN_3 rfl ?_
  obtain ⟨n, h⟩ := h
  refine jw_sub [2, 3, 1, 0] rfl ?_
  exact jbX1_readNumber_4 hN C n _ _ _ _ h
set_option maxRecDepth 100000 in
set_option maxHeartbeats 4000000 in
theorem ctX1_take (l : Launch) (a1 : Int32) (μ : Mem) (Q : Int32 → Mem → Prop) (h : wpX1_take a1 μ Q) : Con l yX1_take wsX1_take rmX1_take shP (fun ad => [.ref (ad 0), .int a1]) μ (pI Q) := by
  refine Con.mk (cc := cX1_take) (maxL := 2) (ret := (some .boolean)) (own := RX1) (by decide) rfl rfl (fun _ => Nat.le_of_ble_eq_true rfl) (fun K ad hN C => ?_)
  show JW K (0, 0) shP ad μ 0 [(0, .ref (ad 0)), (1, .int a1)] []
  unfold wpX1_take at h
  refine jw_aload_n C.1 dX1_take_0 rfl 0 rfl ?_
  refine jw_cVI (rest := []) C.1 dX1_take_1 em_shP_id (ctX1_characterAtCursor l _ _ h) miX1_characterAtCursor shP_0 rfl gX1_take_X1_characterAtCursor rfl (by decide) rfl rfl rfl (Nat.le_of_ble_eq_true rfl) ⟨Nat.zero_le _, Nat.zero_le _⟩ (fun r1 μ2 h => ?_)
  refine jw_iload_n C.1 dX1_take_4 rfl 1 rfl ?_
  refine jw_icmp_eq C.1 10 dX1_take_5 (by decide) (fun c => ?_) (fun c => ?_)
  · have h := h.1 c
    refine jw_aload_n C.1 dX1_take_10 rfl 0 rfl ?_
    refine jw_dup C.1 dX1_take_11 rfl ?_
    refine jw_getI C.1 iwX1_take_X1 rfl shP_0 rfl 4 (by decide) rfl (List.mem_of_getElem? (i := 1) rfl) dX1_take_12 ?_
    refine jw_iconst C.1 dX1_take_15 ki_1 ?_
    refine jw_iadd C.1 dX1_take_16 ?_
    refine jw_putI C.1 iwX1_take_X1 rfl shP_0 rfl 4 (by decide) tyX1 tyX1_ok nmX1 (j := 2) rfl fuX1_4 (List.mem_of_getElem? (i := 1) rfl) rfl (ty := .int) (by decide +kernel) rfl rfl dX1_take_17 ?_
    have h := h _ rfl
    refine jw_iconst C.1 dX1_take_20 ki_1 ?_
    exact jw_zret (Q := Q) C rfl h dX1_take_21
  · have h := h.2 c
    refine jw_iconst C.1 dX1_take_8 ki_0 ?_
    exact jw_zret (Q := Q) C rfl h dX1_take_9
set_option maxRecDepth 100000 in
set_option maxHeartbeats 4000000 in
theorem jbX1_readOrder_73 {K : KT} {l : Launch} {ad : Nat → Nat} {Q : Int32 → Mem → Prop} (hN : kN K = 3) (C : CtxM K l cX1_readOrder RX1 wsX1_readOrder rmX1_readOrder shP ad (some .boolean) (pI Q)) (x1 : Int32) (x2 : Int32) (μ : Mem) (h : bkX1_readOrder_73 Q x1 x2 μ) : JW K (0, 0) shP ad μ 73 [(0, .ref (ad 0)), (1, .int x1), (2, .int x2)] [] := by
  have hN_1 : 1 < kN K := by rw [hN]; decide
  have hN_2 : 2 < kN K := by rw [hN]; decide
  unfold bkX1_readOrder_73 at h
  refine jw_iload_n C.1 dX1_readOrder_73 rfl 2 rfl ?_
  refine jw_iload_n C.1 dX1_readOrder_74 rfl 1 rfl ?_
  refine jw_icmp_lt C.1 87 dX1_readOrder_75 (by decide) (fun c => ?_) (fun c => ?_)
  · have h := h.1 c
    refine jw_iconst C.1 dX1_readOrder_87 ki_0 ?_
    exact jw_zret (Q := Q) C rfl h dX1_readOrder_88
  · have h := h.2 c
    refine jw_aload_n C.1 dX1_readOrder_78 rfl 0 rfl ?_
    refine jw_bipush C.1 dX1_readOrder_79 kb_43 ?_
    refine jw_cVI (rest := []) C.1 dX1_readOrder_81 em_shP_id (ctX1_take l _ _ _ h) miX1_take shP_0 rfl gX1_readOrder_X1_take rfl (by decide) rfl rfl rfl (Nat.le_of_ble_eq_true rfl) ⟨Nat.zero_le _, Nat.zero_le _⟩ (fun r17 μ18 h => ?_)
    refine jw_if_ne C.1 89 dX1_readOrder_84 (by decide) (fun c => ?_) (fun c => ?_)
    · have h := h.1 c
      refine jw_aload_n C.1 dX1_readOrder_89 rfl 0 rfl ?_
      refine jw_iconst C.1 dX1_readOrder_90 ki_1 ?_
      refine jw_iload_n C.1 dX1_readOrder_91 rfl 1 rfl ?_
      refine jw_iload_n C.1 dX1_readOrder_92 rfl 2 rfl ?_
      refine jw_aload_n C.1 dX1_readOrder_93 rfl 0 rfl ?_
      refine jw_sipush C.1 dX1_readOrder_94 ks_999 ?_
      refine jw_cVI (rest := [.int _, .int _, .int _, .ref _]) C.1 dX1_readOrder_97 em_shP_id (ctX1_readNumber l _ _ _ h) miX1_readNumber shP_0 rfl gX1_readOrder_X1_readNumber rfl (by decide) rfl rfl rfl (Nat.le_of_ble_eq_true rfl) ⟨Nat.zero_le _, Nat.zero_le _⟩ (fun r19 μ20 h => ?_)
      refine jw_cVI (rest := []) C.1 dX1_readOrder_100 em_shP_id (ctX1_keep l _ _ _ _ _ _ h) miX1_keep shP_0 rfl gX1_readOrder_X1_keep rfl (by decide) rfl rfl rfl (Nat.le_of_ble_eq_true rfl) ⟨Nat.zero_le _, Nat.zero_le _⟩ (fun r21 μ22 h => ?_)
      exact jw_zret (Q := Q) C (nar_z h.1) h.2 dX1_readOrder_103
    · have h := h.2 c
      refine jw_iconst C.1 dX1_readOrder_87 ki_0 ?_
      exact jw_zret (Q := Q) C rfl h dX1_readOrder_88
set_option maxRecDepth 100000 in
set_option maxHeartbeats 4000000 in
theorem ctX1_readOrder (l : Launch) (μ : Mem) (Q : Int32 → Mem → Prop) (h : wpX1_readOrder μ Q) : Con l yX1_readOrder wsX1_readOrder rmX1_readOrder shP (fun ad => [.ref (ad 0)]) μ (pI Q) := by
  refine Con.mk (cc := cX1_readOrder) (maxL := 3) (ret := (some .boolean)) (own := RX1) (by decide) rfl rfl (fun _ => Nat.le_of_ble_eq_true rfl) (fun K ad hN C => ?_)
  show JW K (0, 0) shP ad μ 0 [(0, .ref (ad 0))] []
  have hN_1 : 1 < kN K := by rw [hN]; decide
  have hN_2 : 2 < kN K := by rw [hN]; decide
  unfold wpX1_readOrder at h
  refine jw_aload_n C.1 dX1_readOrder_0 rfl 0 rfl ?_
  refine jw_bipush C.1 dX1_readOrder_1 kb_26 ?_
  refine jw_cVI (rest := []) C.1 dX1_readOrder_3 em_shP_id (ctX1_readNumber l _ _ _ h) miX1_readNumber shP_0 rfl gX1_readOrder_X1_readNumber rfl (by decide) rfl rfl rfl (Nat.le_of_ble_eq_true rfl) ⟨Nat.zero_le _, Nat.zero_le _⟩ (fun r1 μ2 h => ?_)
  refine jw_istore_n (lw := [(1, .int _), (0, .ref _)]) C.1 dX1_readOrder_6 rfl hN_1 rfl ?_
  refine jw_iload_n C.1 dX1_readOrder_7 rfl 0 rfl ?_
  refine jw_if_ge C.1 13 dX1_readOrder_8 (by decide) (fun c => ?_) (fun c => ?_)
  · have h := h.1 c
    refine jw_aload_n C.1 dX1_readOrder_13 rfl 1 rfl ?_
    refine jw_bipush C.1 dX1_readOrder_14 kb_120 ?_
    refine jw_cVI (rest := []) C.1 dX1_readOrder_16 em_shP_id (ctX1_take l _ _ _ h) miX1_take shP_0 rfl gX1_readOrder_X1_take rfl (by decide) rfl rfl rfl (Nat.le_of_ble_eq_true rfl) ⟨Nat.zero_le _, Nat.zero_le _⟩ (fun r3 μ4 h => ?_)
    refine jw_if_eq C.1 31 dX1_readOrder_19 (by decide) (fun c => ?_) (fun c => ?_)
    · have h := h.1 c
      refine jw_aload_n C.1 dX1_readOrder_31 rfl 1 rfl ?_
      refine jw_bipush C.1 dX1_readOrder_32 kb_61 ?_
      refine jw_cVI (rest := []) C.1 dX1_readOrder_34 em_shP_id (ctX1_take l _ _ _ h) miX1_take shP_0 rfl gX1_readOrder_X1_take rfl (by decide) rfl rfl rfl (Nat.le_of_ble_eq_true rfl) ⟨Nat.zero_le _, Nat.zero_le _⟩ (fun r5 μ6 h => ?_)
      refine jw_if_eq C.1 55 dX1_readOrder_37 (by decide) (fun c => ?_) (fun c => ?_)
      · have h := h.1 c
        refine jw_iload_n C.1 dX1_readOrder_55 rfl 0 rfl ?_
        refine jw_istore_n (lw := [(2, .int _), (1, .int _), (0, .ref _)]) C.1 dX1_readOrder_56 rfl hN_2 rfl ?_
        refine jw_aload_n C.1 dX1_readOrder_57 rfl 2 rfl ?_
        refine jw_bipush C.1 dX1_readOrder_58 kb_45 ?_
        refine jw_cVI (rest := []) C.1 dX1_readOrder_60 em_shP_id (ctX1_take l _ _ _ h) miX1_take shP_0 rfl gX1_readOrder_X1_take rfl (by decide) rfl rfl rfl (Nat.le_of_ble_eq_true rfl) ⟨Nat.zero_le _, Nat.zero_le _⟩ (fun r7 μ8 h => ?_)
        refine jw_if_eq C.1 73 dX1_readOrder_63 (by decide) (fun c => ?_) (fun c => ?_)
        · have h := h.1 c
          refine jw_sub [2, 1, 0] rfl ?_
          exact jbX1_readOrder_73 hN C _ _ _ h
        · have h := h.2 c
          refine jw_aload_n C.1 dX1_readOrder_66 rfl 2 rfl ?_
          refine jw_bipush C.1 dX1_readOrder_67 kb_26 ?_
          refine jw_cVI (rest := []) C.1 dX1_readOrder_69 em_shP_id (ctX1_readNumber l _ _ _ h) miX1_readNumber shP_0 rfl gX1_readOrder_X1_readNumber rfl (by decide) rfl rfl rfl (Nat.le_of_ble_eq_true rfl) ⟨Nat.zero_le _, Nat.zero_le _⟩ (fun r9 μ10 h => ?_)
          refine jw_istore_n (lw := [(2, .int _), (1, .int _), (0, .ref _)]) C.1 dX1_readOrder_72 rfl hN_2 rfl ?_
          refine jw_sub [2, 1, 0] rfl ?_
          exact jbX1_readOrder_73 hN C _ _ _ h
      · have h := h.2 c
        refine jw_aload_n C.1 dX1_readOrder_40 rfl 1 rfl ?_
        refine jw_iconst C.1 dX1_readOrder_41 ki_0 ?_
        refine jw_iload_n C.1 dX1_readOrder_42 rfl 0 rfl ?_
        refine jw_iload_n C.1 dX1_readOrder_43 rfl 0 rfl ?_
        refine jw_aload_n C.1 dX1_readOrder_44 rfl 1 rfl ?_
        refine jw_sipush C.1 dX1_readOrder_45 ks_999 ?_
        refine jw_cVI (rest := [.int _, .int _, .int _, .ref _]) C.1 dX1_readOrder_48 em_shP_id (ctX1_readNumber l _ _ _ h) miX1_readNumber shP_0 rfl gX1_readOrder_X1_readNumber rfl (by decide) rfl rfl rfl (Nat.le_of_ble_eq_true rfl) ⟨Nat.zero_le _, Nat.zero_le _⟩ (fun r11 μ12 h => ?_)
        refine jw_cVI (rest := []) C.1 dX1_readOrder_51 em_shP_id (ctX1_keep l _ _ _ _ _ _ h) miX1_keep shP_0 rfl gX1_readOrder_X1_keep rfl (by decide) rfl rfl rfl (Nat.le_of_ble_eq_true rfl) ⟨Nat.zero_le _, Nat.zero_le _⟩ (fun r13 μ14 h => ?_)
        exact jw_zret (Q := Q) C (nar_z h.1) h.2 dX1_readOrder_54
    · have h := h.2 c
      refine jw_aload_n C.1 dX1_readOrder_22 rfl 1 rfl ?_
      refine jw_iconst C.1 dX1_readOrder_23 ki_2 ?_
      refine jw_iload_n C.1 dX1_readOrder_24 rfl 0 rfl ?_
      refine jw_iload_n C.1 dX1_readOrder_25 rfl 0 rfl ?_
      refine jw_iconst C.1 dX1_readOrder_26 ki_0 ?_
      refine jw_cVI (rest := []) C.1 dX1_readOrder_27 em_shP_id (ctX1_keep l _ _ _ _ _ _ h) miX1_keep shP_0 rfl gX1_readOrder_X1_keep rfl (by decide) rfl rfl rfl (Nat.le_of_ble_eq_true rfl) ⟨Nat.zero_le _, Nat.zero_le _⟩ (fun r15 μ16 h => ?_)
      exact jw_zret (Q := Q) C (nar_z h.1) h.2 dX1_readOrder_30
  · have h := h.2 c
    refine jw_iconst C.1 dX1_readOrder_11 ki_0 ?_
    exact jw_zret (Q := Q) C rfl h dX1_readOrder_12
set_option maxRecDepth 100000 in
set_option maxHeartbeats 4000000 in
theorem jbX1_readOrders_12 {K : KT} {l : Launch} {ad : Nat → Nat} {Q : Int32 → Mem → Prop} (hN : kN K = 2) (C : CtxM K l cX1_readOrders RX1 wsX1_readOrders rmX1_readOrders shP ad (some .int) (pI Q)) : ∀ (n : Nat) (x1 : Int32) (μ : Mem), bkX1_readOrders_12 Q n x1 μ → JW K (0, 0) shP ad μ 12 [(0, .ref (ad 0)), (1, .int x1)] [] := by
  have hN_1 : 1 < kN K := by rw [hN]; decide
  intro n
  induction n with
  | zero =>
    intro x1 μ h
    exact h.elim
  | succ n ih =>
    intro x1 μ h
    unfold bkX1_readOrders_12 at h
    refine jw_iload_n C.1 dX1_readOrders_12 rfl 1 rfl ?_
    refine jw_bipush C.1 dX1_readOrders_13 kb_20 ?_
    refine jw_icmp_ge C.1 64 dX1_readOrders_15 (by decide) (fun c => ?_) (fun c => ?_)
    · have h := h.1 c
      refine jw_aload_n C.1 dX1_readOrders_64 rfl 0 rfl ?_
      refine jw_getI C.1 iwX1_readOrders_X1 rfl shP_0 rfl 4 (by decide) rfl (List.mem_of_getElem? (i := 2) rfl) dX1_readOrders_65 ?_
      exact jw_iret (Q := Q) C h dX1_readOrders_68
    · have h := h.2 c
      refine jw_aload_n C.1 dX1_readOrders_18 rfl 0 rfl ?_
      refine jw_cVI (rest := []) C.1 dX1_readOrders_19 em_shP_id (ctX1_readOrder l _ _ h) miX1_readOrder shP_0 rfl gX1_readOrders_X1_readOrder rfl (by decide) rfl rfl rfl (Nat.le_of_ble_eq_true rfl) ⟨Nat.zero_le _, Nat.zero_le _⟩ (fun r3 μ4 h => ?_)
      refine jw_if_ne C.1 30 dX1_readOrders_22 (by decide) (fun c => ?_) (fun c => ?_)
      · have h := h.1 c
        refine jw_aload_n C.1 dX1_readOrders_30 rfl 0 rfl ?_
        refine jw_getI C.1 iwX1_readOrders_X1 rfl shP_0 rfl 4 (by decide) rfl (List.mem_of_getElem? (i := 2) rfl) dX1_readOrders_31 ?_
        refine jw_aload_n C.1 dX1_readOrders_34 rfl 0 rfl ?_
        refine jw_getI C.1 iwX1_readOrders_X1 rfl shP_0 rfl 2 (by decide) rfl (List.mem_of_getElem? (i := 3) rfl) dX1_readOrders_35 ?_
        refine jw_icmp_ne C.1 44 dX1_readOrders_38 (by decide) (fun c => ?_) (fun c => ?_)
        · have h := h.1 c
          refine jw_aload_n C.1 dX1_readOrders_44 rfl 0 rfl ?_
          refine jw_bipush C.1 dX1_readOrders_45 kb_59 ?_
          refine jw_cVI (rest := []) C.1 dX1_readOrders_47 em_shP_id (ctX1_take l _ _ _ h) miX1_take shP_0 rfl gX1_readOrders_X1_take rfl (by decide) rfl rfl rfl (Nat.le_of_ble_eq_true rfl) ⟨Nat.zero_le _, Nat.zero_le _⟩ (fun r5 μ6 h => ?_)
          refine jw_if_ne C.1 58 dX1_readOrders_50 (by decide) (fun c => ?_) (fun c => ?_)
          · have h := h.1 c
            refine jw_iinc (lw := [(1, .int _), (0, .ref _)]) (q := 1) C.1 dX1_readOrders_58 rfl (ai_1 _) hN_1 rfl ?_
            have h := h _ rfl
            refine jw_goto (tgt := 12) C.1 dX1_readOrders_61 (by decide) ?_
            refine jw_sub [1, 0] rfl ?_
            exact ih _ _ h
          · have h := h.2 c
            refine jw_aload_n C.1 dX1_readOrders_53 rfl 0 rfl ?_
            refine jw_getI C.1 iwX1_readOrders_X1 rfl shP_0 rfl 4 (by decide) rfl (List.mem_of_getElem? (i := 2) rfl) dX1_readOrders_54 ?_
            exact jw_iret (Q := Q) C h dX1_readOrders_57
        · have h := h.2 c
          refine jw_bipush C.1 dX1_readOrders_41 kb_m6 ?_
          exact jw_iret (Q := Q) C h dX1_readOrders_43
      · have h := h.2 c
        refine jw_aload_n C.1 dX1_readOrders_25 rfl 0 rfl ?_
        refine jw_getI C.1 iwX1_readOrders_X1 rfl shP_0 rfl 4 (by decide) rfl (List.mem_of_getElem? (i := 2) rfl) dX1_readOrders_26 ?_
        exact jw_iret (Q := Q) C h dX1_readOrders_29
set_option maxRecDepth 100000 in
set_option maxHeartbeats 4000000 in
theorem ctX1_readOrders (l : Launch) (μ : Mem) (Q : Int32 → Mem → Prop) (h : wpX1_readOrders μ Q) : Con l yX1_readOrders wsX1_readOrders rmX1_readOrders shP (fun ad => [.ref (ad 0)]) μ (pI Q) := by
  refine Con.mk (cc := cX1_readOrders) (maxL := 2) (ret := (some .int)) (own := RX1) (by decide) rfl rfl (fun _ => Nat.le_of_ble_eq_true rfl) (fun K ad hN C => ?_)
  show JW K (0, 0) shP ad μ 0 [(0, .ref (ad 0))] []
  have hN_1 : 1 < kN K := by rw [hN]; decide
  unfold wpX1_readOrders at h
  refine jw_aload_n C.1 dX1_readOrders_0 rfl 0 rfl ?_
  refine jw_iconst C.1 dX1_readOrders_1 ki_0 ?_
  refine jw_putI C.1 iwX1_readOrders_X1 rfl shP_0 rfl 3 (by decide) tyX1 tyX1_ok nmX1 (j := 1) rfl fuX1_3 (List.mem_of_getElem? (i := 1) rfl) rfl (ty := .int) (by decide +kernel) rfl rfl dX1_readOrders_2 ?_
  have h := h _ rfl
  refine jw_aload_n C.1 dX1_readOrders_5 rfl 0 rfl ?_
  refine jw_iconst C.1 dX1_readOrders_6 ki_0 ?_
  refine jw_putI C.1 iwX1_readOrders_X1 rfl shP_0 rfl 4 (by decide) tyX1 tyX1_ok nmX1 (j := 2) rfl fuX1_4 (List.mem_of_getElem? (i := 2) rfl) rfl (ty := .int) (by decide +kernel) rfl rfl dX1_readOrders_7 ?_
  have h := h _ rfl
  refine jw_iconst C.1 dX1_readOrders_10 ki_0 ?_
  refine jw_istore_n (lw := [(1, .int _), (0, .ref _)]) C.1 dX1_readOrders_11 rfl hN_1 rfl ?_
  obtain ⟨n, h⟩ := h
  refine jw_sub [1, 0] rfl ?_
  exact jbX1_readOrders_12 hN C n _ _ h
set_option maxRecDepth 100000 in
set_option maxHeartbeats 4000000 in
theorem ctX4_addTo (l : Launch) (n1 : Nat) (a1 : Int32) (a2 : Int32) (μ : Mem) (Q : Mem → Prop) (h : wpX4_addTo n1 a1 a2 μ Q) : Con l yX4_addTo wsX4_addTo rmX4_addTo (sh1 n1) (fun ad => [.ref (ad 0), .int a1, .int a2]) μ (pV Q) := by
  refine Con.mk (cc := cX4_addTo) (maxL := 3) (ret := none) (own := RX4) (by decide) rfl rfl (fun _ => Nat.le_of_ble_eq_true rfl) (fun K ad hN C => ?_)
  show JW K (0, 0) (sh1 n1) ad μ 0 [(0, .ref (ad 0)), (1, .int a1), (2, .int a2)] []
  unfold wpX4_addTo at h
  refine jw_iload_n C.1 dX4_addTo_0 rfl 1 rfl ?_
  refine jw_if_lt C.1 17 dX4_addTo_1 (by decide) (fun c => ?_) (fun c => ?_)
  · have h := h.1 c
    exact jw_vret C h dX4_addTo_17
  · have h := h.2 c
    refine jw_iload_n C.1 dX4_addTo_4 rfl 1 rfl ?_
    refine jw_aload_n C.1 dX4_addTo_5 rfl 0 rfl ?_
    refine jw_alenD C.1 rfl rfl rfl (v := Int32.ofNat n1) rfl dX4_addTo_6 ?_
    refine jw_icmp_ge C.1 17 dX4_addTo_7 (by decide) (fun c => ?_) (fun c => ?_)
    · have h := h.1 c
      exact jw_vret C h dX4_addTo_17
    · have h := h.2 c
      refine jw_aload_n C.1 dX4_addTo_10 rfl 0 rfl ?_
      refine jw_iload_n C.1 dX4_addTo_11 rfl 1 rfl ?_
      refine jw_dup2 C.1 dX4_addTo_12 rfl rfl ?_
      obtain ⟨hi, h⟩ := h
      refine jw_iald C.1 rfl rfl hi dX4_addTo_13 ?_
      refine jw_iload_n C.1 dX4_addTo_14 rfl 2 rfl ?_
      refine jw_iadd C.1 dX4_addTo_15 ?_
      obtain ⟨hi, h⟩ := h
      refine jw_iast C.1 rfl rfl hi dX4_addTo_16 ?_
      have h := h _ rfl
      exact jw_vret C h dX4_addTo_17
set_option maxRecDepth 100000 in
set_option maxHeartbeats 4000000 in
theorem jbX4_total_10 {K : KT} {l : Launch} {ad : Nat → Nat} {n1 : Nat} {Q : Int32 → Mem → Prop} (hN : kN K = 6) (C : CtxM K l cX4_total RX4 wsX4_total rmX4_total (sh1 n1) ad (some .int) (pI Q)) : ∀ (n : Nat) (x1 : Int32) (x3 : Int32) (x4 : Int32) (μ : Mem), bkX4_total_10 n1 Q n x1 x3 x4 μ → JW K (0, 0) (sh1 n1) ad μ 10 [(1, .int x1), (2, .ref (ad 0)), (3, .int x3), (4, .int x4)] [] := by
  have hN_1 : 1 < kN K := by rw [hN]; decide
  have hN_2 : 2 < kN K := by rw [hN]; decide
  have hN_3 : 3 < kN K := by rw [hN]; decide
  have hN_4 : 4 < kN K := by rw [hN]; decide
  have hN_5 : 5 < kN K := by rw [hN]; decide
  intro n
  induction n with
  | zero =>
    intro x1 x3 x4 μ h
    exact h.elim
  | succ n ih =>
    intro x1 x3 x4 μ h
    unfold bkX4_total_10 at h
    refine jw_iload C.1 dX4_total_10 3 rfl ?_
    refine jw_iload_n C.1 dX4_total_12 rfl 2 rfl ?_
    refine jw_icmp_ge C.1 33 dX4_total_13 (by decide) (fun c => ?_) (fun c => ?_)
    · have h := h.1 c
      refine jw_iload_n C.1 dX4_total_33 rfl 0 rfl ?_
      exact jw_iret (Q := Q) C h dX4_total_34
    · have h := h.2 c
      refine jw_aload_n C.1 dX4_total_16 rfl 1 rfl ?_
      refine jw_iload C.1 dX4_total_17 3 rfl ?_
      obtain ⟨hi, h⟩ := h
      refine jw_iald C.1 rfl rfl hi dX4_total_19 ?_
      refine jw_istore (lw := [(5, .int _), (1, .int _), (2, .ref _), (3, .int _), (4, .int _)]) C.1 dX4_total_20 hN_5 rfl ?_
      have h := h _ rfl
      refine jw_iload_n C.1 dX4_total_22 rfl 1 rfl ?_
      refine jw_iload C.1 dX4_total_23 0 rfl ?_
      refine jw_iadd C.1 dX4_total_25 ?_
      refine jw_istore_n (lw := [(1, .int _), (5, .int _), (2, .ref _), (3, .int _), (4, .int _)]) C.1 dX4_total_26 rfl hN_1 rfl ?_
      have h := h _ rfl
      refine jw_iinc (lw := [(4, .int _), (1, .int _), (5, .int _), (2, .ref _), (3, .int _)]) (q := 4) C.1 dX4_total_27 rfl (ai_1 _) hN_4 rfl ?_
      have h := h _ rfl
      refine jw_goto (tgt := 10) C.1 dX4_total_30 (by decide) ?_
      refine jw_sub [1, 3, 4, 0] rfl ?_
      exact ih _ _ _ _ h
set_option maxRecDepth 100000 in
set_option maxHeartbeats 4000000 in
theorem ctX4_total (l : Launch) (n1 : Nat) (μ : Mem) (Q : Int32 → Mem → Prop) (h : wpX4_total n1 μ Q) : Con l yX4_total wsX4_total rmX4_total (sh1 n1) (fun ad => [.ref (ad 0)]) μ (pI Q) := by
  refine Con.mk (cc := cX4_total) (maxL := 6) (ret := (some .int)) (own := RX4) (by decide) rfl rfl (fun _ => Nat.le_of_ble_eq_true rfl) (fun K ad hN C => ?_)
  show JW K (0, 0) (sh1 n1) ad μ 0 [(0, .ref (ad 0))] []
  have hN_1 : 1 < kN K := by rw [hN]; decide
  have hN_2 : 2 < kN K := by rw [hN]; decide
  have hN_3 : 3 < kN K := by rw [hN]; decide
  have hN_4 : 4 < kN K := by rw [hN]; decide
  have hN_5 : 5 < kN K := by rw [hN]; decide
  unfold wpX4_total at h
  refine jw_iconst C.1 dX4_total_0 ki_0 ?_
  refine jw_istore_n (lw := [(1, .int _), (0, .ref _)]) C.1 dX4_total_1 rfl hN_1 rfl ?_
  refine jw_aload_n C.1 dX4_total_2 rfl 1 rfl ?_
  refine jw_astore_n (lw := [(2, .ref _), (1, .int _), (0, .ref _)]) C.1 dX4_total_3 rfl hN_2 rfl ?_
  refine jw_aload_n C.1 dX4_total_4 rfl 0 rfl ?_
  refine jw_alenD C.1 rfl rfl rfl (v := Int32.ofNat n1) rfl dX4_total_5 ?_
  refine jw_istore_n (lw := [(3, .int _), (2, .ref _), (1, .int _), (0, .ref _)]) C.1 dX4_total_6 rfl hN_3 rfl ?_
  have h := h _ rfl
  refine jw_iconst C.1 dX4_total_7 ki_0 ?_
  refine jw_istore (lw := [(4, .int _), (3, .int _), (2, .ref _), (1, .int _), (0, .ref _)]) C.1 dX4_total_8 hN_4 rfl ?_
  obtain ⟨n, h⟩ := h
  refine jw_sub [3, 2, 1, 0] rfl ?_
  exact jbX4_total_10 hN C n _ _ _ _ h
set_option maxRecDepth 100000 in
set_option maxHeartbeats 4000000 in
theorem ctX4_allStonesSunk (l : Launch) (μ : Mem) (Q : Int32 → Mem → Prop) (h : wpX4_allStonesSunk μ Q) : Con l yX4_allStonesSunk wsX4_allStonesSunk rmX4_allStonesSunk shT (fun ad => [.ref (ad 0)]) μ (pI Q) := by
  refine Con.mk (cc := cX4_allStonesSunk) (maxL := 1) (ret := (some .int)) (own := RX4) (by decide) rfl rfl (fun _ => Nat.le_of_ble_eq_true rfl) (fun K ad hN C => ?_)
  show JW K (0, 0) shT ad μ 0 [(0, .ref (ad 0))] []
  unfold wpX4_allStonesSunk at h
  refine jw_aload_n C.1 dX4_allStonesSunk_0 rfl 0 rfl ?_
  refine jw_getR C.1 iwX4_allStonesSunk_X4 rfl shT_0 rfl 5 (by decide) rfl (List.mem_of_getElem? (i := 1) rfl) dX4_allStonesSunk_1 ?_
  refine jw_gSI (rest := []) C.1 dX4_allStonesSunk_4 (e1 6) em_shT_sh1_13_e1_6 (ctX4_total l _ _ _ h) miX4_total gX4_allStonesSunk_X4_total (by decide) rfl rfl rfl (Nat.le_of_ble_eq_true rfl) ⟨Nat.zero_le _, Nat.zero_le _⟩ (fun r1 μ2 h => ?_)
  have h := h _ rfl
  exact jw_iret (Q := Q) C h dX4_allStonesSunk_7
set_option maxRecDepth 100000 in
set_option maxHeartbeats 4000000 in
theorem ctX4_applyToLeaf (l : Launch) (a1 : Int32) (a2 : Int32) (μ : Mem) (Q : Mem → Prop) (h : wpX4_applyToLeaf a1 a2 μ Q) : Con l yX4_applyToLeaf wsX4_applyToLeaf rmX4_applyToLeaf shT (fun ad => [.ref (ad 0), .int a1, .int a2]) μ (pV Q) := by
  refine Con.mk (cc := cX4_applyToLeaf) (maxL := 3) (ret := none) (own := RX4) (by decide) rfl rfl (fun _ => Nat.le_of_ble_eq_true rfl) (fun K ad hN C => ?_)
  show JW K (0, 0) shT ad μ 0 [(0, .ref (ad 0)), (1, .int a1), (2, .int a2)] []
  unfold wpX4_applyToLeaf at h
  refine jw_iload_n C.1 dX4_applyToLeaf_0 rfl 1 rfl ?_
  refine jw_if_lt C.1 29 dX4_applyToLeaf_1 (by decide) (fun c => ?_) (fun c => ?_)
  · have h := h.1 c
    refine jw_aload_n C.1 dX4_applyToLeaf_29 rfl 0 rfl ?_
    refine jw_dup C.1 dX4_applyToLeaf_30 rfl ?_
    refine jw_getI C.1 iwX4_applyToLeaf_X4 rfl shT_0 rfl 8 (by decide) rfl (List.mem_of_getElem? (i := 2) rfl) dX4_applyToLeaf_31 ?_
    refine jw_iconst C.1 dX4_applyToLeaf_34 ki_1 ?_
    refine jw_iadd C.1 dX4_applyToLeaf_35 ?_
    refine jw_putI C.1 iwX4_applyToLeaf_X4 rfl shT_0 rfl 8 (by decide) tyX4 tyX4_ok nmX4 (j := 1) rfl fuX4_8 (List.mem_of_getElem? (i := 2) rfl) rfl (ty := .int) (by decide +kernel) rfl rfl dX4_applyToLeaf_36 ?_
    have h := h _ rfl
    exact jw_vret C h dX4_applyToLeaf_39
  · have h := h.2 c
    refine jw_iload_n C.1 dX4_applyToLeaf_4 rfl 1 rfl ?_
    refine jw_aload_n C.1 dX4_applyToLeaf_5 rfl 0 rfl ?_
    refine jw_getR C.1 iwX4_applyToLeaf_X4 rfl shT_0 rfl 1 (by decide) rfl (List.mem_of_getElem? (i := 1) rfl) dX4_applyToLeaf_6 ?_
    refine jw_alenD C.1 rfl shT_2 rfl (v := 27) (by decide) dX4_applyToLeaf_9 ?_
    refine jw_icmp_ge C.1 29 dX4_applyToLeaf_10 (by decide) (fun c => ?_) (fun c => ?_)
    · have h := h.1 c
      refine jw_aload_n C.1 dX4_applyToLeaf_29 rfl 0 rfl ?_
      refine jw_dup C.1 dX4_applyToLeaf_30 rfl ?_
      refine jw_getI C.1 iwX4_applyToLeaf_X4 rfl shT_0 rfl 8 (by decide) rfl (List.mem_of_getElem? (i := 2) rfl) dX4_applyToLeaf_31 ?_
      refine jw_iconst C.1 dX4_applyToLeaf_34 ki_1 ?_
      refine jw_iadd C.1 dX4_applyToLeaf_35 ?_
      refine jw_putI C.1 iwX4_applyToLeaf_X4 rfl shT_0 rfl 8 (by decide) tyX4 tyX4_ok nmX4 (j := 1) rfl fuX4_8 (List.mem_of_getElem? (i := 2) rfl) rfl (ty := .int) (by decide +kernel) rfl rfl dX4_applyToLeaf_36 ?_
      have h := h _ rfl
      exact jw_vret C h dX4_applyToLeaf_39
    · have h := h.2 c
      refine jw_aload_n C.1 dX4_applyToLeaf_13 rfl 0 rfl ?_
      refine jw_getR C.1 iwX4_applyToLeaf_X4 rfl shT_0 rfl 1 (by decide) rfl (List.mem_of_getElem? (i := 1) rfl) dX4_applyToLeaf_14 ?_
      refine jw_iload_n C.1 dX4_applyToLeaf_17 rfl 1 rfl ?_
      refine jw_iload_n C.1 dX4_applyToLeaf_18 rfl 2 rfl ?_
      refine jw_aload_n C.1 dX4_applyToLeaf_19 rfl 0 rfl ?_
      refine jw_getR C.1 iwX4_applyToLeaf_X4 rfl shT_0 rfl 1 (by decide) rfl (List.mem_of_getElem? (i := 1) rfl) dX4_applyToLeaf_20 ?_
      refine jw_iload_n C.1 dX4_applyToLeaf_23 rfl 1 rfl ?_
      obtain ⟨hi, h⟩ := h
      refine jw_iald C.1 rfl shT_2 hi dX4_applyToLeaf_24 ?_
      refine jw_eSI (rest := [.int _, .ref _]) C.1 dX4_applyToLeaf_25 (ctX3_valueAfter l _ _ _ h _) miX3_valueAfter gX4_applyToLeaf_X3_valueAfter (by decide) rfl rfl rfl (Nat.le_of_ble_eq_true rfl) ⟨Nat.zero_le _, Nat.zero_le _⟩ (fun r3 h => ?_)
      obtain ⟨hi, h⟩ := h
      refine jw_iast C.1 rfl shT_2 hi dX4_applyToLeaf_28 ?_
      have h := h _ rfl
      refine jw_aload_n C.1 dX4_applyToLeaf_29 rfl 0 rfl ?_
      refine jw_dup C.1 dX4_applyToLeaf_30 rfl ?_
      refine jw_getI C.1 iwX4_applyToLeaf_X4 rfl shT_0 rfl 8 (by decide) rfl (List.mem_of_getElem? (i := 2) rfl) dX4_applyToLeaf_31 ?_
      refine jw_iconst C.1 dX4_applyToLeaf_34 ki_1 ?_
      refine jw_iadd C.1 dX4_applyToLeaf_35 ?_
      refine jw_putI C.1 iwX4_applyToLeaf_X4 rfl shT_0 rfl 8 (by decide) tyX4 tyX4_ok nmX4 (j := 1) rfl fuX4_8 (List.mem_of_getElem? (i := 2) rfl) rfl (ty := .int) (by decide +kernel) rfl rfl dX4_applyToLeaf_36 ?_
      have h := h _ rfl
      exact jw_vret C h dX4_applyToLeaf_39
set_option maxRecDepth 100000 in
set_option maxHeartbeats 4000000 in
theorem ctX4_buffersLookedAt (l : Launch) (μ : Mem) (Q : Int32 → Mem → Prop) (h : wpX4_buffersLookedAt μ Q) : Con l yX4_buffersLookedAt wsX4_buffersLookedAt rmX4_buffersLookedAt shT (fun ad => [.ref (ad 0)]) μ (pI Q) := by
  refine Con.mk (cc := cX4_buffersLookedAt) (maxL := 1) (ret := (some .int)) (own := RX4) (by decide) rfl rfl (fun _ => Nat.le_of_ble_eq_true rfl) (fun K ad hN C => ?_)
  show JW K (0, 0) shT ad μ 0 [(0, .ref (ad 0))] []
  unfold wpX4_buffersLookedAt at h
  refine jw_aload_n C.1 dX4_buffersLookedAt_0 rfl 0 rfl ?_
  refine jw_getI C.1 iwX4_buffersLookedAt_X4 rfl shT_0 rfl 9 (by decide) rfl (List.mem_of_getElem? (i := 1) rfl) dX4_buffersLookedAt_1 ?_
  exact jw_iret (Q := Q) C h dX4_buffersLookedAt_4
set_option maxRecDepth 100000 in
set_option maxHeartbeats 4000000 in
theorem ctX4_setting (l : Launch) (a1 : Int32) (μ : Mem) (Q : Int32 → Mem → Prop) (h : wpX4_setting a1 μ Q) : Con l yX4_setting wsX4_setting rmX4_setting shT (fun ad => [.ref (ad 0), .int a1]) μ (pI Q) := by
  refine Con.mk (cc := cX4_setting) (maxL := 2) (ret := (some .int)) (own := RX4) (by decide) rfl rfl (fun _ => Nat.le_of_ble_eq_true rfl) (fun K ad hN C => ?_)
  show JW K (0, 0) shT ad μ 0 [(0, .ref (ad 0)), (1, .int a1)] []
  unfold wpX4_setting at h
  refine jw_iload_n C.1 dX4_setting_0 rfl 1 rfl ?_
  refine jw_if_lt C.1 22 dX4_setting_1 (by decide) (fun c => ?_) (fun c => ?_)
  · have h := h.1 c
    refine jw_iconst C.1 dX4_setting_22 ki_0 ?_
    exact jw_iret (Q := Q) C h dX4_setting_23
  · have h := h.2 c
    refine jw_iload_n C.1 dX4_setting_4 rfl 1 rfl ?_
    refine jw_aload_n C.1 dX4_setting_5 rfl 0 rfl ?_
    refine jw_getR C.1 iwX4_setting_X4 rfl shT_0 rfl 0 (by decide) rfl (List.mem_of_getElem? (i := 1) rfl) dX4_setting_6 ?_
    refine jw_alenD C.1 rfl shT_1 rfl (v := 2) (by decide) dX4_setting_9 ?_
    refine jw_icmp_ge C.1 22 dX4_setting_10 (by decide) (fun c => ?_) (fun c => ?_)
    · have h := h.1 c
      refine jw_iconst C.1 dX4_setting_22 ki_0 ?_
      exact jw_iret (Q := Q) C h dX4_setting_23
    · have h := h.2 c
      refine jw_aload_n C.1 dX4_setting_13 rfl 0 rfl ?_
      refine jw_getR C.1 iwX4_setting_X4 rfl shT_0 rfl 0 (by decide) rfl (List.mem_of_getElem? (i := 1) rfl) dX4_setting_14 ?_
      refine jw_iload_n C.1 dX4_setting_17 rfl 1 rfl ?_
      obtain ⟨hi, h⟩ := h
      refine jw_iald C.1 rfl shT_1 hi dX4_setting_18 ?_
      refine jw_goto (tgt := 23) C.1 dX4_setting_19 (by decide) ?_
      exact jw_iret (Q := Q) C h dX4_setting_23
set_option maxRecDepth 100000 in
set_option maxHeartbeats 4000000 in
theorem ctX4_changeSetting (l : Launch) (a1 : Int32) (a2 : Int32) (μ : Mem) (Q : Int32 → Mem → Prop) (h : wpX4_changeSetting a1 a2 μ Q) : Con l yX4_changeSetting wsX4_changeSetting rmX4_changeSetting shT (fun ad => [.ref (ad 0), .int a1, .int a2]) μ (pI Q) := by
  refine Con.mk (cc := cX4_changeSetting) (maxL := 4) (ret := (some .int)) (own := RX4) (by decide) rfl rfl (fun _ => Nat.le_of_ble_eq_true rfl) (fun K ad hN C => ?_)
  show JW K (0, 0) shT ad μ 0 [(0, .ref (ad 0)), (1, .int a1), (2, .int a2)] []
  have hN_3 : 3 < kN K := by rw [hN]; decide
  unfold wpX4_changeSetting at h
  refine jw_aload_n C.1 dX4_changeSetting_0 rfl 0 rfl ?_
  refine jw_iload_n C.1 dX4_changeSetting_1 rfl 1 rfl ?_
  refine jw_cVI (rest := []) C.1 dX4_changeSetting_2 em_shT_id (ctX4_setting l _ _ _ h) miX4_setting shT_0 rfl gX4_changeSetting_X4_setting rfl (by decide) rfl rfl rfl (Nat.le_of_ble_eq_true rfl) ⟨Nat.zero_le _, Nat.zero_le _⟩ (fun r1 μ2 h => ?_)
  refine jw_istore_n (lw := [(3, .int _), (0, .ref _), (1, .int _), (2, .int _)]) C.1 dX4_changeSetting_5 rfl hN_3 rfl ?_
  refine jw_iload_n C.1 dX4_changeSetting_6 rfl 2 rfl ?_
  refine jw_if_lt C.1 26 dX4_changeSetting_7 (by decide) (fun c => ?_) (fun c => ?_)
  · have h := h.1 c
    refine jw_iload_n C.1 dX4_changeSetting_26 rfl 0 rfl ?_
    exact jw_iret (Q := Q) C h dX4_changeSetting_27
  · have h := h.2 c
    refine jw_iload_n C.1 dX4_changeSetting_10 rfl 2 rfl ?_
    refine jw_aload_n C.1 dX4_changeSetting_11 rfl 1 rfl ?_
    refine jw_getR C.1 iwX4_changeSetting_X4 rfl shT_0 rfl 0 (by decide) rfl (List.mem_of_getElem? (i := 1) rfl) dX4_changeSetting_12 ?_
    refine jw_alenD C.1 rfl shT_1 rfl (v := 2) (by decide) dX4_changeSetting_15 ?_
    refine jw_icmp_ge C.1 26 dX4_changeSetting_16 (by decide) (fun c => ?_) (fun c => ?_)
    · have h := h.1 c
      refine jw_iload_n C.1 dX4_changeSetting_26 rfl 0 rfl ?_
      exact jw_iret (Q := Q) C h dX4_changeSetting_27
    · have h := h.2 c
      refine jw_aload_n C.1 dX4_changeSetting_19 rfl 1 rfl ?_
      refine jw_getR C.1 iwX4_changeSetting_X4 rfl shT_0 rfl 0 (by decide) rfl (List.mem_of_getElem? (i := 1) rfl) dX4_changeSetting_20 ?_
      refine jw_iload_n C.1 dX4_changeSetting_23 rfl 2 rfl ?_
      refine jw_iload_n C.1 dX4_changeSetting_24 rfl 3 rfl ?_
      obtain ⟨hi, h⟩ := h
      refine jw_iast C.1 rfl shT_1 hi dX4_changeSetting_25 ?_
      have h := h _ rfl
      refine jw_iload_n C.1 dX4_changeSetting_26 rfl 0 rfl ?_
      exact jw_iret (Q := Q) C h dX4_changeSetting_27
set_option maxRecDepth 100000 in
set_option maxHeartbeats 4000000 in
theorem jbX4_stoneAt_25 {K : KT} {l : Launch} {ad : Nat → Nat} {Q : Int32 → Mem → Prop} (hN : kN K = 4) (C : CtxM K l cX4_stoneAt RX4 wsX4_stoneAt rmX4_stoneAt shT ad (some .int) (pI Q)) (x1 : Int32) (x2 : Int32) (s0 : Int32) (μ : Mem) (h : bkX4_stoneAt_25 Q x1 x2 s0 μ) : JW K (0, 0) shT ad μ 25 [(0, .ref (ad 0)), (1, .int x1), (2, .int x2)] [.int s0] := by
  have hN_3 : 3 < kN K := by rw [hN]; decide
  unfold bkX4_stoneAt_25 at h
  refine jw_istore_n (lw := [(3, .int _), (0, .ref _), (1, .int _), (2, .int _)]) C.1 dX4_stoneAt_25 rfl hN_3 rfl ?_
  refine jw_iload_n C.1 dX4_stoneAt_26 rfl 0 rfl ?_
  refine jw_if_eq C.1 44 dX4_stoneAt_27 (by decide) (fun c => ?_) (fun c => ?_)
  · have h := h.1 c
    refine jw_iconst C.1 dX4_stoneAt_44 ki_0 ?_
    exact jw_iret (Q := Q) C h dX4_stoneAt_45
  · have h := h.2 c
    refine jw_aload_n C.1 dX4_stoneAt_30 rfl 1 rfl ?_
    refine jw_getR C.1 iwX4_stoneAt_X4 rfl shT_0 rfl 3 (by decide) rfl (List.mem_of_getElem? (i := 1) rfl) dX4_stoneAt_31 ?_
    refine jw_iload_n C.1 dX4_stoneAt_34 rfl 2 rfl ?_
    refine jw_bipush C.1 dX4_stoneAt_35 kb_22 ?_
    refine jw_imul C.1 dX4_stoneAt_37 ?_
    refine jw_iload_n C.1 dX4_stoneAt_38 rfl 3 rfl ?_
    refine jw_iadd C.1 dX4_stoneAt_39 ?_
    obtain ⟨hi, h⟩ := h
    refine jw_iald C.1 rfl shT_4 hi dX4_stoneAt_40 ?_
    refine jw_goto (tgt := 45) C.1 dX4_stoneAt_41 (by decide) ?_
    exact jw_iret (Q := Q) C h dX4_stoneAt_45
set_option maxRecDepth 100000 in
set_option maxHeartbeats 4000000 in
theorem jbX4_stoneAt_24 {K : KT} {l : Launch} {ad : Nat → Nat} {Q : Int32 → Mem → Prop} (hN : kN K = 4) (C : CtxM K l cX4_stoneAt RX4 wsX4_stoneAt rmX4_stoneAt shT ad (some .int) (pI Q)) (x1 : Int32) (x2 : Int32) (μ : Mem) (h : bkX4_stoneAt_24 Q x1 x2 μ) : JW K (0, 0) shT ad μ 24 [(0, .ref (ad 0)), (1, .int x1), (2, .int x2)] [] := by
  have hN_3 : 3 < kN K := by rw [hN]; decide
  unfold bkX4_stoneAt_24 at h
  refine jw_iconst C.1 dX4_stoneAt_24 ki_0 ?_
  exact jbX4_stoneAt_25 hN C _ _ _ _ h
set_option maxRecDepth 100000 in
set_option maxHeartbeats 4000000 in
theorem ctX4_stoneAt (l : Launch) (a1 : Int32) (a2 : Int32) (μ : Mem) (Q : Int32 → Mem → Prop) (h : wpX4_stoneAt a1 a2 μ Q) : Con l yX4_stoneAt wsX4_stoneAt rmX4_stoneAt shT (fun ad => [.ref (ad 0), .int a1, .int a2]) μ (pI Q) := by
  refine Con.mk (cc := cX4_stoneAt) (maxL := 4) (ret := (some .int)) (own := RX4) (by decide) rfl rfl (fun _ => Nat.le_of_ble_eq_true rfl) (fun K ad hN C => ?_)
  show JW K (0, 0) shT ad μ 0 [(0, .ref (ad 0)), (1, .int a1), (2, .int a2)] []
  have hN_3 : 3 < kN K := by rw [hN]; decide
  unfold wpX4_stoneAt at h
  refine jw_iload_n C.1 dX4_stoneAt_0 rfl 1 rfl ?_
  refine jw_if_lt C.1 24 dX4_stoneAt_1 (by decide) (fun c => ?_) (fun c => ?_)
  · have h := h.1 c
    exact jbX4_stoneAt_24 hN C _ _ _ h
  · have h := h.2 c
    refine jw_iload_n C.1 dX4_stoneAt_4 rfl 1 rfl ?_
    refine jw_bipush C.1 dX4_stoneAt_5 kb_13 ?_
    refine jw_icmp_ge C.1 24 dX4_stoneAt_7 (by decide) (fun c => ?_) (fun c => ?_)
    · have h := h.1 c
      exact jbX4_stoneAt_24 hN C _ _ _ h
    · have h := h.2 c
      refine jw_iload_n C.1 dX4_stoneAt_10 rfl 2 rfl ?_
      refine jw_if_lt C.1 24 dX4_stoneAt_11 (by decide) (fun c => ?_) (fun c => ?_)
      · have h := h.1 c
        exact jbX4_stoneAt_24 hN C _ _ _ h
      · have h := h.2 c
        refine jw_iload_n C.1 dX4_stoneAt_14 rfl 2 rfl ?_
        refine jw_bipush C.1 dX4_stoneAt_15 kb_22 ?_
        refine jw_icmp_ge C.1 24 dX4_stoneAt_17 (by decide) (fun c => ?_) (fun c => ?_)
        · have h := h.1 c
          exact jbX4_stoneAt_24 hN C _ _ _ h
        · have h := h.2 c
          refine jw_iconst C.1 dX4_stoneAt_20 ki_1 ?_
          refine jw_goto (tgt := 25) C.1 dX4_stoneAt_21 (by decide) ?_
          exact jbX4_stoneAt_25 hN C _ _ _ _ h
set_option maxRecDepth 100000 in
set_option maxHeartbeats 4000000 in
theorem ctX4_stonesIn (l : Launch) (a1 : Int32) (μ : Mem) (Q : Int32 → Mem → Prop) (h : wpX4_stonesIn a1 μ Q) : Con l yX4_stonesIn wsX4_stonesIn rmX4_stonesIn shT (fun ad => [.ref (ad 0), .int a1]) μ (pI Q) := by
  refine Con.mk (cc := cX4_stonesIn) (maxL := 2) (ret := (some .int)) (own := RX4) (by decide) rfl rfl (fun _ => Nat.le_of_ble_eq_true rfl) (fun K ad hN C => ?_)
  show JW K (0, 0) shT ad μ 0 [(0, .ref (ad 0)), (1, .int a1)] []
  unfold wpX4_stonesIn at h
  refine jw_iload_n C.1 dX4_stonesIn_0 rfl 1 rfl ?_
  refine jw_if_lt C.1 22 dX4_stonesIn_1 (by decide) (fun c => ?_) (fun c => ?_)
  · have h := h.1 c
    refine jw_iconst C.1 dX4_stonesIn_22 ki_0 ?_
    exact jw_iret (Q := Q) C h dX4_stonesIn_23
  · have h := h.2 c
    refine jw_iload_n C.1 dX4_stonesIn_4 rfl 1 rfl ?_
    refine jw_aload_n C.1 dX4_stonesIn_5 rfl 0 rfl ?_
    refine jw_getR C.1 iwX4_stonesIn_X4 rfl shT_0 rfl 2 (by decide) rfl (List.mem_of_getElem? (i := 1) rfl) dX4_stonesIn_6 ?_
    refine jw_alenD C.1 rfl shT_3 rfl (v := 13) (by decide) dX4_stonesIn_9 ?_
    refine jw_icmp_ge C.1 22 dX4_stonesIn_10 (by decide) (fun c => ?_) (fun c => ?_)
    · have h := h.1 c
      refine jw_iconst C.1 dX4_stonesIn_22 ki_0 ?_
      exact jw_iret (Q := Q) C h dX4_stonesIn_23
    · have h := h.2 c
      refine jw_aload_n C.1 dX4_stonesIn_13 rfl 0 rfl ?_
      refine jw_getR C.1 iwX4_stonesIn_X4 rfl shT_0 rfl 2 (by decide) rfl (List.mem_of_getElem? (i := 1) rfl) dX4_stonesIn_14 ?_
      refine jw_iload_n C.1 dX4_stonesIn_17 rfl 1 rfl ?_
      obtain ⟨hi, h⟩ := h
      refine jw_iald C.1 rfl shT_3 hi dX4_stonesIn_18 ?_
      refine jw_goto (tgt := 23) C.1 dX4_stonesIn_19 (by decide) ?_
      exact jw_iret (Q := Q) C h dX4_stonesIn_23
set_option maxRecDepth 100000 in
set_option maxHeartbeats 4000000 in
theorem jbX4_stonesTouching_13 {K : KT} {l : Launch} {ad : Nat → Nat} {Q : Int32 → Mem → Prop} (hN : kN K = 7) (C : CtxM K l cX4_stonesTouching RX4 wsX4_stonesTouching rmX4_stonesTouching shT ad (some .int) (pI Q)) : ∀ (n : Nat) (x1 : Int32) (x2 : Int32) (x3 : Int32) (x4 : Int32) (x5 : Int32) (x6 : Int32) (μ : Mem), bkX4_stonesTouching_13 Q n x1 x2 x3 x4 x5 x6 μ → JW K (0, 0) shT ad μ 13 [(0, .ref (ad 0)), (1, .int x1), (2, .int x2), (3, .int x3), (4, .int x4), (5, .int x5), (6, .int x6)] [] := by
  have hN_4 : 4 < kN K := by rw [hN]; decide
  have hN_5 : 5 < kN K := by rw [hN]; decide
  have hN_6 : 6 < kN K := by rw [hN]; decide
  intro n
  induction n with
  | zero =>
    intro x1 x2 x3 x4 x5 x6 μ h
    exact h.elim
  | succ n ih =>
    intro x1 x2 x3 x4 x5 x6 μ h
    unfold bkX4_stonesTouching_13 at h
    refine jw_iload C.1 dX4_stonesTouching_13 6 rfl ?_
    refine jw_iload C.1 dX4_stonesTouching_15 5 rfl ?_
    refine jw_icmp_ge C.1 44 dX4_stonesTouching_17 (by decide) (fun c => ?_) (fun c => ?_)
    · have h := h.1 c
      refine jw_iload C.1 dX4_stonesTouching_44 4 rfl ?_
      exact jw_iret (Q := Q) C h dX4_stonesTouching_46
    · have h := h.2 c
      refine jw_aload_n C.1 dX4_stonesTouching_20 rfl 0 rfl ?_
      refine jw_iload_n C.1 dX4_stonesTouching_21 rfl 1 rfl ?_
      refine jw_iload C.1 dX4_stonesTouching_22 6 rfl ?_
      refine jw_cVI (rest := []) C.1 dX4_stonesTouching_24 em_shT_id (ctX4_stoneAt l _ _ _ _ h) miX4_stoneAt shT_0 rfl gX4_stonesTouching_X4_stoneAt rfl (by decide) rfl rfl rfl (Nat.le_of_ble_eq_true rfl) ⟨Nat.zero_le _, Nat.zero_le _⟩ (fun r3 μ4 h => ?_)
      refine jw_iload_n C.1 dX4_stonesTouching_27 rfl 2 rfl ?_
      refine jw_iload_n C.1 dX4_stonesTouching_28 rfl 3 rfl ?_
      refine jw_eSI (rest := []) C.1 dX4_stonesTouching_29 (ctX3_touches l _ _ _ _ h _) miX3_touches gX4_stonesTouching_X3_touches (by decide) rfl rfl rfl (Nat.le_of_ble_eq_true rfl) ⟨Nat.zero_le _, Nat.zero_le _⟩ (fun r5 h => ?_)
      refine jw_if_eq C.1 38 dX4_stonesTouching_32 (by decide) (fun c => ?_) (fun c => ?_)
      · have h := h.1 c
        refine jw_iinc (lw := [(6, .int _), (0, .ref _), (1, .int _), (2, .int _), (3, .int _), (4, .int _), (5, .int _)]) (q := 6) C.1 dX4_stonesTouching_38 rfl (ai_1 _) hN_6 rfl ?_
        have h := h _ rfl
        refine jw_goto (tgt := 13) C.1 dX4_stonesTouching_41 (by decide) ?_
        refine jw_sub [1, 2, 3, 4, 5, 6, 0] rfl ?_
        exact ih _ _ _ _ _ _ _ h
      · have h := h.2 c
        refine jw_iinc (lw := [(4, .int _), (0, .ref _), (1, .int _), (2, .int _), (3, .int _), (5, .int _), (6, .int _)]) (q := 4) C.1 dX4_stonesTouching_35 rfl (ai_1 _) hN_4 rfl ?_
        have h := h _ rfl
        refine jw_iinc (lw := [(6, .int _), (4, .int _), (0, .ref _), (1, .int _), (2, .int _), (3, .int _), (5, .int _)]) (q := 6) C.1 dX4_stonesTouching_38 rfl (ai_1 _) hN_6 rfl ?_
        have h := h _ rfl
        refine jw_goto (tgt := 13) C.1 dX4_stonesTouching_41 (by decide) ?_
        refine jw_sub [2, 3, 4, 5, 1, 6, 0] rfl ?_
        exact ih _ _ _ _ _ _ _ h
set_option maxRecDepth 100000 in
set_option maxHeartbeats 4000000 in
theorem ctX4_stonesTouching (l : Launch) (a1 : Int32) (a2 : Int32) (a3 : Int32) (μ : Mem) (Q : Int32 → Mem → Prop) (h : wpX4_stonesTouching a1 a2 a3 μ Q) : Con l yX4_stonesTouching wsX4_stonesTouching rmX4_stonesTouching shT (fun ad => [.ref (ad 0), .int a1, .int a2, .int a3]) μ (pI Q) := by
  refine Con.mk (cc := cX4_stonesTouching) (maxL := 7) (ret := (some .int)) (own := RX4) (by decide) rfl rfl (fun _ => Nat.le_of_ble_eq_true rfl) (fun K ad hN C => ?_)
  show JW K (0, 0) shT ad μ 0 [(0, .ref (ad 0)), (1, .int a1), (2, .int a2), (3, .int a3)] []
  have hN_4 : 4 < kN K := by rw [hN]; decide
  have hN_5 : 5 < kN K := by rw [hN]; decide
  have hN_6 : 6 < kN K := by rw [hN]; decide
  unfold wpX4_stonesTouching at h
  refine jw_iconst C.1 dX4_stonesTouching_0 ki_0 ?_
  refine jw_istore (lw := [(4, .int _), (0, .ref _), (1, .int _), (2, .int _), (3, .int _)]) C.1 dX4_stonesTouching_1 hN_4 rfl ?_
  refine jw_aload_n C.1 dX4_stonesTouching_3 rfl 1 rfl ?_
  refine jw_iload_n C.1 dX4_stonesTouching_4 rfl 2 rfl ?_
  refine jw_cVI (rest := []) C.1 dX4_stonesTouching_5 em_shT_id (ctX4_stonesIn l _ _ _ h) miX4_stonesIn shT_0 rfl gX4_stonesTouching_X4_stonesIn rfl (by decide) rfl rfl rfl (Nat.le_of_ble_eq_true rfl) ⟨Nat.zero_le _, Nat.zero_le _⟩ (fun r1 μ2 h => ?_)
  refine jw_istore (lw := [(5, .int _), (4, .int _), (0, .ref _), (1, .int _), (2, .int _), (3, .int _)]) C.1 dX4_stonesTouching_8 hN_5 rfl ?_
  refine jw_iconst C.1 dX4_stonesTouching_10 ki_0 ?_
  refine jw_istore (lw := [(6, .int _), (5, .int _), (4, .int _), (0, .ref _), (1, .int _), (2, .int _), (3, .int _)]) C.1 dX4_stonesTouching_11 hN_6 rfl ?_
  obtain ⟨n, h⟩ := h
  refine jw_sub [3, 4, 5, 6, 2, 1, 0] rfl ?_
  exact jbX4_stonesTouching_13 hN C n _ _ _ _ _ _ _ h
set_option maxRecDepth 100000 in
set_option maxHeartbeats 4000000 in
theorem jbX4_heaviestChild_7 {K : KT} {l : Launch} {ad : Nat → Nat} {Q : Int32 → Mem → Prop} (hN : kN K = 6) (C : CtxM K l cX4_heaviestChild RX4 wsX4_heaviestChild rmX4_heaviestChild shT ad (some .int) (pI Q)) : ∀ (n : Nat) (x1 : Int32) (x2 : Int32) (x3 : Int32) (x4 : Int32) (μ : Mem), bkX4_heaviestChild_7 Q n x1 x2 x3 x4 μ → JW K (0, 0) shT ad μ 7 [(0, .ref (ad 0)), (1, .int x1), (2, .int x2), (3, .int x3), (4, .int x4)] [] := by
  have hN_2 : 2 < kN K := by rw [hN]; decide
  have hN_3 : 3 < kN K := by rw [hN]; decide
  have hN_4 : 4 < kN K := by rw [hN]; decide
  have hN_5 : 5 < kN K := by rw [hN]; decide
  intro n
  induction n with
  | zero =>
    intro x1 x2 x3 x4 μ h
    exact h.elim
  | succ n ih =>
    intro x1 x2 x3 x4 μ h
    unfold bkX4_heaviestChild_7 at h
    refine jw_iload C.1 dX4_heaviestChild_7 4 rfl ?_
    refine jw_iconst C.1 dX4_heaviestChild_9 ki_3 ?_
    refine jw_icmp_ge C.1 50 dX4_heaviestChild_10 (by decide) (fun c => ?_) (fun c => ?_)
    · have h := h.1 c
      refine jw_iload_n C.1 dX4_heaviestChild_50 rfl 2 rfl ?_
      exact jw_iret (Q := Q) C h dX4_heaviestChild_51
    · have h := h.2 c
      refine jw_aload_n C.1 dX4_heaviestChild_13 rfl 0 rfl ?_
      refine jw_iload_n C.1 dX4_heaviestChild_14 rfl 1 rfl ?_
      refine jw_iload_n C.1 dX4_heaviestChild_15 rfl 1 rfl ?_
      refine jw_iload C.1 dX4_heaviestChild_16 4 rfl ?_
      refine jw_eSI (rest := [.int _, .ref _]) C.1 dX4_heaviestChild_18 (ctX2_firstKeyOfChild l _ _ _ h _) miX2_firstKeyOfChild gX4_heaviestChild_X2_firstKeyOfChild (by decide) rfl rfl rfl (Nat.le_of_ble_eq_true rfl) ⟨Nat.zero_le _, Nat.zero_le _⟩ (fun r1 h => ?_)
      refine jw_iload_n C.1 dX4_heaviestChild_21 rfl 1 rfl ?_
      refine jw_iload C.1 dX4_heaviestChild_22 4 rfl ?_
      refine jw_eSI (rest := [.int _, .int _, .ref _]) C.1 dX4_heaviestChild_24 (ctX2_lastKeyOfChild l _ _ _ h _) miX2_lastKeyOfChild gX4_heaviestChild_X2_lastKeyOfChild (by decide) rfl rfl rfl (Nat.le_of_ble_eq_true rfl) ⟨Nat.zero_le _, Nat.zero_le _⟩ (fun r2 h => ?_)
      refine jw_cVI (rest := []) C.1 dX4_heaviestChild_27 em_shT_id (ctX4_stonesTouching l _ _ _ _ _ h) miX4_stonesTouching shT_0 rfl gX4_heaviestChild_X4_stonesTouching rfl (by decide) rfl rfl rfl (Nat.le_of_ble_eq_true rfl) ⟨Nat.zero_le _, Nat.zero_le _⟩ (fun r3 μ4 h => ?_)
      refine jw_istore (lw := [(5, .int _), (0, .ref _), (1, .int _), (2, .int _), (3, .int _), (4, .int _)]) C.1 dX4_heaviestChild_30 hN_5 rfl ?_
      refine jw_iload C.1 dX4_heaviestChild_32 0 rfl ?_
      refine jw_iload_n C.1 dX4_heaviestChild_34 rfl 4 rfl ?_
      refine jw_icmp_le C.1 44 dX4_heaviestChild_35 (by decide) (fun c => ?_) (fun c => ?_)
      · have h := h.1 c
        refine jw_iinc (lw := [(4, .int _), (5, .int _), (0, .ref _), (1, .int _), (2, .int _), (3, .int _)]) (q := 5) C.1 dX4_heaviestChild_44 rfl (ai_1 _) hN_4 rfl ?_
        have h := h _ rfl
        refine jw_goto (tgt := 7) C.1 dX4_heaviestChild_47 (by decide) ?_
        refine jw_sub [2, 3, 4, 5, 0] rfl ?_
        exact ih _ _ _ _ _ h
      · have h := h.2 c
        refine jw_iload C.1 dX4_heaviestChild_38 5 rfl ?_
        refine jw_istore_n (lw := [(2, .int _), (5, .int _), (0, .ref _), (1, .int _), (3, .int _), (4, .int _)]) C.1 dX4_heaviestChild_40 rfl hN_2 rfl ?_
        refine jw_iload C.1 dX4_heaviestChild_41 1 rfl ?_
        refine jw_istore_n (lw := [(3, .int _), (2, .int _), (5, .int _), (0, .ref _), (1, .int _), (4, .int _)]) C.1 dX4_heaviestChild_43 rfl hN_3 rfl ?_
        refine jw_iinc (lw := [(4, .int _), (3, .int _), (2, .int _), (5, .int _), (0, .ref _), (1, .int _)]) (q := 5) C.1 dX4_heaviestChild_44 rfl (ai_1 _) hN_4 rfl ?_
        have h := h _ rfl
        refine jw_goto (tgt := 7) C.1 dX4_heaviestChild_47 (by decide) ?_
        refine jw_sub [4, 5, 2, 1, 0] rfl ?_
        exact ih _ _ _ _ _ h
set_option maxRecDepth 100000 in
set_option maxHeartbeats 4000000 in
theorem ctX4_heaviestChild (l : Launch) (a1 : Int32) (μ : Mem) (Q : Int32 → Mem → Prop) (h : wpX4_heaviestChild a1 μ Q) : Con l yX4_heaviestChild wsX4_heaviestChild rmX4_heaviestChild shT (fun ad => [.ref (ad 0), .int a1]) μ (pI Q) := by
  refine Con.mk (cc := cX4_heaviestChild) (maxL := 6) (ret := (some .int)) (own := RX4) (by decide) rfl rfl (fun _ => Nat.le_of_ble_eq_true rfl) (fun K ad hN C => ?_)
  show JW K (0, 0) shT ad μ 0 [(0, .ref (ad 0)), (1, .int a1)] []
  have hN_2 : 2 < kN K := by rw [hN]; decide
  have hN_3 : 3 < kN K := by rw [hN]; decide
  have hN_4 : 4 < kN K := by rw [hN]; decide
  have hN_5 : 5 < kN K := by rw [hN]; decide
  unfold wpX4_heaviestChild at h
  refine jw_iconst C.1 dX4_heaviestChild_0 ki_m1 ?_
  refine jw_istore_n (lw := [(2, .int _), (0, .ref _), (1, .int _)]) C.1 dX4_heaviestChild_1 rfl hN_2 rfl ?_
  refine jw_iconst C.1 dX4_heaviestChild_2 ki_0 ?_
  refine jw_istore_n (lw := [(3, .int _), (2, .int _), (0, .ref _), (1, .int _)]) C.1 dX4_heaviestChild_3 rfl hN_3 rfl ?_
  refine jw_iconst C.1 dX4_heaviestChild_4 ki_0 ?_
  refine jw_istore (lw := [(4, .int _), (3, .int _), (2, .int _), (0, .ref _), (1, .int _)]) C.1 dX4_heaviestChild_5 hN_4 rfl ?_
  obtain ⟨n, h⟩ := h
  refine jw_sub [3, 4, 2, 1, 0] rfl ?_
  exact jbX4_heaviestChild_7 hN C n _ _ _ _ _ h
set_option maxRecDepth 100000 in
set_option maxHeartbeats 4000000 in
theorem jbX4_lastPlaceWith_5 {K : KT} {l : Launch} {ad : Nat → Nat} {Q : Int32 → Mem → Prop} (hN : kN K = 5) (C : CtxM K l cX4_lastPlaceWith RX4 wsX4_lastPlaceWith rmX4_lastPlaceWith shT ad (some .int) (pI Q)) : ∀ (n : Nat) (x1 : Int32) (x2 : Int32) (x4 : Int32) (μ : Mem), bkX4_lastPlaceWith_5 Q n x1 x2 x4 μ → JW K (0, 0) shT ad μ 5 [(0, .ref (ad 0)), (1, .int x1), (2, .int x2), (4, .int x4)] [] := by
  have hN_4 : 4 < kN K := by rw [hN]; decide
  intro n
  induction n with
  | zero =>
    intro x1 x2 x4 μ h
    exact h.elim
  | succ n ih =>
    intro x1 x2 x4 μ h
    unfold bkX4_lastPlaceWith_5 at h
    refine jw_iload C.1 dX4_lastPlaceWith_5 3 rfl ?_
    refine jw_if_lt C.1 34 dX4_lastPlaceWith_7 (by decide) (fun c => ?_) (fun c => ?_)
    · have h := h.1 c
      refine jw_iconst C.1 dX4_lastPlaceWith_34 ki_m1 ?_
      exact jw_iret (Q := Q) C h dX4_lastPlaceWith_35
    · have h := h.2 c
      refine jw_aload_n C.1 dX4_lastPlaceWith_10 rfl 0 rfl ?_
      refine jw_iload_n C.1 dX4_lastPlaceWith_11 rfl 1 rfl ?_
      refine jw_iload C.1 dX4_lastPlaceWith_12 3 rfl ?_
      refine jw_cVI (rest := []) C.1 dX4_lastPlaceWith_14 em_shT_id (ctX4_stoneAt l _ _ _ _ h) miX4_stoneAt shT_0 rfl gX4_lastPlaceWith_X4_stoneAt rfl (by decide) rfl rfl rfl (Nat.le_of_ble_eq_true rfl) ⟨Nat.zero_le _, Nat.zero_le _⟩ (fun r2 μ3 h => ?_)
      refine jw_iload_n C.1 dX4_lastPlaceWith_17 rfl 2 rfl ?_
      refine jw_iload_n C.1 dX4_lastPlaceWith_18 rfl 2 rfl ?_
      refine jw_eSI (rest := []) C.1 dX4_lastPlaceWith_19 (ctX3_touches l _ _ _ _ h _) miX3_touches gX4_lastPlaceWith_X3_touches (by decide) rfl rfl rfl (Nat.le_of_ble_eq_true rfl) ⟨Nat.zero_le _, Nat.zero_le _⟩ (fun r4 h => ?_)
      refine jw_if_eq C.1 28 dX4_lastPlaceWith_22 (by decide) (fun c => ?_) (fun c => ?_)
      · have h := h.1 c
        refine jw_iinc (lw := [(4, .int _), (0, .ref _), (1, .int _), (2, .int _)]) (q := 3) C.1 dX4_lastPlaceWith_28 rfl (ai_m1 _) hN_4 rfl ?_
        have h := h _ rfl
        refine jw_goto (tgt := 5) C.1 dX4_lastPlaceWith_31 (by decide) ?_
        refine jw_sub [1, 2, 3, 0] rfl ?_
        exact ih _ _ _ _ h
      · have h := h.2 c
        refine jw_iload C.1 dX4_lastPlaceWith_25 3 rfl ?_
        exact jw_iret (Q := Q) C h dX4_lastPlaceWith_27
set_option maxRecDepth 100000 in
set_option maxHeartbeats 4000000 in
theorem ctX4_lastPlaceWith (l : Launch) (a1 : Int32) (a2 : Int32) (a3 : Int32) (μ : Mem) (Q : Int32 → Mem → Prop) (h : wpX4_lastPlaceWith a1 a2 a3 μ Q) : Con l yX4_lastPlaceWith wsX4_lastPlaceWith rmX4_lastPlaceWith shT (fun ad => [.ref (ad 0), .int a1, .int a2, .int a3]) μ (pI Q) := by
  refine Con.mk (cc := cX4_lastPlaceWith) (maxL := 5) (ret := (some .int)) (own := RX4) (by decide) rfl rfl (fun _ => Nat.le_of_ble_eq_true rfl) (fun K ad hN C => ?_)
  show JW K (0, 0) shT ad μ 0 [(0, .ref (ad 0)), (1, .int a1), (2, .int a2), (3, .int a3)] []
  have hN_4 : 4 < kN K := by rw [hN]; decide
  unfold wpX4_lastPlaceWith at h
  refine jw_iload_n C.1 dX4_lastPlaceWith_0 rfl 3 rfl ?_
  refine jw_iconst C.1 dX4_lastPlaceWith_1 ki_1 ?_
  refine jw_isub C.1 dX4_lastPlaceWith_2 ?_
  refine jw_istore (lw := [(4, .int _), (0, .ref _), (1, .int _), (2, .int _), (3, .int _)]) C.1 dX4_lastPlaceWith_3 hN_4 rfl ?_
  have h := h _ rfl
  obtain ⟨n, h⟩ := h
  refine jw_sub [1, 2, 3, 0] rfl ?_
  exact jbX4_lastPlaceWith_5 hN C n _ _ _ _ h
set_option maxRecDepth 100000 in
set_option maxHeartbeats 4000000 in
theorem ctX4_layAt (l : Launch) (a1 : Int32) (a2 : Int32) (a3 : Int32) (μ : Mem) (Q : Mem → Prop) (h : wpX4_layAt a1 a2 a3 μ Q) : Con l yX4_layAt wsX4_layAt rmX4_layAt shT (fun ad => [.ref (ad 0), .int a1, .int a2, .int a3]) μ (pV Q) := by
  refine Con.mk (cc := cX4_layAt) (maxL := 4) (ret := none) (own := RX4) (by decide) rfl rfl (fun _ => Nat.le_of_ble_eq_true rfl) (fun K ad hN C => ?_)
  show JW K (0, 0) shT ad μ 0 [(0, .ref (ad 0)), (1, .int a1), (2, .int a2), (3, .int a3)] []
  unfold wpX4_layAt at h
  refine jw_iload_n C.1 dX4_layAt_0 rfl 1 rfl ?_
  refine jw_if_lt C.1 32 dX4_layAt_1 (by decide) (fun c => ?_) (fun c => ?_)
  · have h := h.1 c
    exact jw_vret C h dX4_layAt_32
  · have h := h.2 c
    refine jw_iload_n C.1 dX4_layAt_4 rfl 1 rfl ?_
    refine jw_bipush C.1 dX4_layAt_5 kb_13 ?_
    refine jw_icmp_ge C.1 32 dX4_layAt_7 (by decide) (fun c => ?_) (fun c => ?_)
    · have h := h.1 c
      exact jw_vret C h dX4_layAt_32
    · have h := h.2 c
      refine jw_iload_n C.1 dX4_layAt_10 rfl 2 rfl ?_
      refine jw_if_lt C.1 32 dX4_layAt_11 (by decide) (fun c => ?_) (fun c => ?_)
      · have h := h.1 c
        exact jw_vret C h dX4_layAt_32
      · have h := h.2 c
        refine jw_iload_n C.1 dX4_layAt_14 rfl 2 rfl ?_
        refine jw_bipush C.1 dX4_layAt_15 kb_22 ?_
        refine jw_icmp_ge C.1 32 dX4_layAt_17 (by decide) (fun c => ?_) (fun c => ?_)
        · have h := h.1 c
          exact jw_vret C h dX4_layAt_32
        · have h := h.2 c
          refine jw_aload_n C.1 dX4_layAt_20 rfl 0 rfl ?_
          refine jw_getR C.1 iwX4_layAt_X4 rfl shT_0 rfl 3 (by decide) rfl (List.mem_of_getElem? (i := 1) rfl) dX4_layAt_21 ?_
          refine jw_iload_n C.1 dX4_layAt_24 rfl 1 rfl ?_
          refine jw_bipush C.1 dX4_layAt_25 kb_22 ?_
          refine jw_imul C.1 dX4_layAt_27 ?_
          refine jw_iload_n C.1 dX4_layAt_28 rfl 2 rfl ?_
          refine jw_iadd C.1 dX4_layAt_29 ?_
          refine jw_iload_n C.1 dX4_layAt_30 rfl 3 rfl ?_
          obtain ⟨hi, h⟩ := h
          refine jw_iast C.1 rfl shT_4 hi dX4_layAt_31 ?_
          have h := h _ rfl
          exact jw_vret C h dX4_layAt_32
set_option maxRecDepth 100000 in
set_option maxHeartbeats 4000000 in
theorem jbX4_takeOut_11 {K : KT} {l : Launch} {ad : Nat → Nat} {Q : Mem → Prop} (hN : kN K = 5) (C : CtxM K l cX4_takeOut RX4 wsX4_takeOut rmX4_takeOut shT ad none (pV Q)) : ∀ (n : Nat) (x1 : Int32) (x3 : Int32) (x4 : Int32) (μ : Mem), bkX4_takeOut_11 Q n x1 x3 x4 μ → JW K (0, 0) shT ad μ 11 [(0, .ref (ad 0)), (1, .int x1), (3, .int x3), (4, .int x4)] [] := by
  have hN_3 : 3 < kN K := by rw [hN]; decide
  have hN_4 : 4 < kN K := by rw [hN]; decide
  intro n
  induction n with
  | zero =>
    intro x1 x3 x4 μ h
    exact h.elim
  | succ n ih =>
    intro x1 x3 x4 μ h
    unfold bkX4_takeOut_11 at h
    refine jw_iload C.1 dX4_takeOut_11 3 rfl ?_
    refine jw_iload_n C.1 dX4_takeOut_13 rfl 2 rfl ?_
    refine jw_icmp_ge C.1 39 dX4_takeOut_14 (by decide) (fun c => ?_) (fun c => ?_)
    · have h := h.1 c
      refine jw_aload_n C.1 dX4_takeOut_39 rfl 0 rfl ?_
      refine jw_getR C.1 iwX4_takeOut_X4 rfl shT_0 rfl 2 (by decide) rfl (List.mem_of_getElem? (i := 1) rfl) dX4_takeOut_40 ?_
      refine jw_iload_n C.1 dX4_takeOut_43 rfl 1 rfl ?_
      refine jw_iconst C.1 dX4_takeOut_44 ki_m1 ?_
      refine jw_gSV (rest := []) C.1 dX4_takeOut_45 (e1 3) em_shT_sh1_13_e1_3 (ctX4_addTo l _ _ _ _ _ h) miX4_addTo gX4_takeOut_X4_addTo (by decide) rfl rfl rfl (Nat.le_of_ble_eq_true rfl) ⟨Nat.zero_le _, Nat.zero_le _⟩ (fun μ5 h => ?_)
      have h := h _ rfl
      exact jw_vret C h dX4_takeOut_48
    · have h := h.2 c
      refine jw_aload_n C.1 dX4_takeOut_17 rfl 0 rfl ?_
      refine jw_iload_n C.1 dX4_takeOut_18 rfl 1 rfl ?_
      refine jw_iload C.1 dX4_takeOut_19 3 rfl ?_
      refine jw_iconst C.1 dX4_takeOut_21 ki_1 ?_
      refine jw_isub C.1 dX4_takeOut_22 ?_
      refine jw_aload_n C.1 dX4_takeOut_23 rfl 0 rfl ?_
      refine jw_iload_n C.1 dX4_takeOut_24 rfl 1 rfl ?_
      refine jw_iload C.1 dX4_takeOut_25 3 rfl ?_
      refine jw_cVI (rest := [.int _, .int _, .ref _]) C.1 dX4_takeOut_27 em_shT_id (ctX4_stoneAt l _ _ _ _ h) miX4_stoneAt shT_0 rfl gX4_takeOut_X4_stoneAt rfl (by decide) rfl rfl rfl (Nat.le_of_ble_eq_true rfl) ⟨Nat.zero_le _, Nat.zero_le _⟩ (fun r7 μ8 h => ?_)
      refine jw_cVV (rest := []) C.1 dX4_takeOut_30 em_shT_id (ctX4_layAt l _ _ _ _ _ h) miX4_layAt shT_0 rfl gX4_takeOut_X4_layAt rfl (by decide) rfl rfl rfl (Nat.le_of_ble_eq_true rfl) ⟨Nat.zero_le _, Nat.zero_le _⟩ (fun μ10 h => ?_)
      refine jw_iinc (lw := [(4, .int _), (0, .ref _), (1, .int _), (3, .int _)]) (q := 3) C.1 dX4_takeOut_33 rfl (ai_1 _) hN_4 rfl ?_
      have h := h _ rfl
      refine jw_goto (tgt := 11) C.1 dX4_takeOut_36 (by decide) ?_
      refine jw_sub [1, 2, 3, 0] rfl ?_
      exact ih _ _ _ _ h
set_option maxRecDepth 100000 in
set_option maxHeartbeats 4000000 in
theorem ctX4_takeOut (l : Launch) (a1 : Int32) (a2 : Int32) (μ : Mem) (Q : Mem → Prop) (h : wpX4_takeOut a1 a2 μ Q) : Con l yX4_takeOut wsX4_takeOut rmX4_takeOut shT (fun ad => [.ref (ad 0), .int a1, .int a2]) μ (pV Q) := by
  refine Con.mk (cc := cX4_takeOut) (maxL := 5) (ret := none) (own := RX4) (by decide) rfl rfl (fun _ => Nat.le_of_ble_eq_true rfl) (fun K ad hN C => ?_)
  show JW K (0, 0) shT ad μ 0 [(0, .ref (ad 0)), (1, .int a1), (2, .int a2)] []
  have hN_3 : 3 < kN K := by rw [hN]; decide
  have hN_4 : 4 < kN K := by rw [hN]; decide
  unfold wpX4_takeOut at h
  refine jw_aload_n C.1 dX4_takeOut_0 rfl 0 rfl ?_
  refine jw_iload_n C.1 dX4_takeOut_1 rfl 1 rfl ?_
  refine jw_cVI (rest := []) C.1 dX4_takeOut_2 em_shT_id (ctX4_stonesIn l _ _ _ h) miX4_stonesIn shT_0 rfl gX4_takeOut_X4_stonesIn rfl (by decide) rfl rfl rfl (Nat.le_of_ble_eq_true rfl) ⟨Nat.zero_le _, Nat.zero_le _⟩ (fun r1 μ2 h => ?_)
  refine jw_istore_n (lw := [(3, .int _), (0, .ref _), (1, .int _), (2, .int _)]) C.1 dX4_takeOut_5 rfl hN_3 rfl ?_
  refine jw_iload_n C.1 dX4_takeOut_6 rfl 3 rfl ?_
  refine jw_iconst C.1 dX4_takeOut_7 ki_1 ?_
  refine jw_iadd C.1 dX4_takeOut_8 ?_
  refine jw_istore (lw := [(4, .int _), (3, .int _), (0, .ref _), (1, .int _), (2, .int _)]) C.1 dX4_takeOut_9 hN_4 rfl ?_
  have h := h _ rfl
  obtain ⟨n, h⟩ := h
  refine jw_sub [2, 3, 1, 0] rfl ?_
  exact jbX4_takeOut_11 hN C n _ _ _ _ h
set_option maxRecDepth 100000 in
set_option maxHeartbeats 4000000 in
theorem ctX4_withMore (l : Launch) (a1 : Int32) (a2 : Int32) (Q : Int32 → Prop) (h : wpX4_withMore a1 a2 Q) (μ : Mem) : Con l yX4_withMore wsX4_withMore rmX4_withMore [] (fun _ => [.int a1, .int a2]) μ (pI (fun r _ => Q r)) := by
  refine Con.mk (cc := cX4_withMore) (maxL := 3) (ret := (some .int)) (own := RX4) (by decide) rfl rfl (fun _ => Nat.le_of_ble_eq_true rfl) (fun K ad hN C => ?_)
  show JW K (0, 0) [] ad μ 0 [(0, .int a1), (1, .int a2)] []
  have hN_2 : 2 < kN K := by rw [hN]; decide
  unfold wpX4_withMore at h
  refine jw_iload_n C.1 dX4_withMore_0 rfl 0 rfl ?_
  refine jw_eSI (rest := []) C.1 dX4_withMore_1 (ctX3_kind l _ _ h _) miX3_kind gX4_withMore_X3_kind (by decide) rfl rfl rfl (Nat.le_of_ble_eq_true rfl) ⟨Nat.zero_le _, Nat.zero_le _⟩ (fun r1 h => ?_)
  refine jw_iconst C.1 dX4_withMore_4 ki_2 ?_
  refine jw_icmp_ne C.1 10 dX4_withMore_5 (by decide) (fun c => ?_) (fun c => ?_)
  · have h := h.1 c
    refine jw_iload_n C.1 dX4_withMore_10 rfl 0 rfl ?_
    refine jw_eSI (rest := []) C.1 dX4_withMore_11 (ctX3_number l _ _ h _) miX3_number gX4_withMore_X3_number (by decide) rfl rfl rfl (Nat.le_of_ble_eq_true rfl) ⟨Nat.zero_le _, Nat.zero_le _⟩ (fun r2 h => ?_)
    refine jw_iload_n C.1 dX4_withMore_14 rfl 1 rfl ?_
    refine jw_iadd C.1 dX4_withMore_15 ?_
    refine jw_sipush C.1 dX4_withMore_16 ks_1000 ?_
    refine jw_irem C.1 dX4_withMore_19 (by decide) ?_
    refine jw_istore_n (lw := [(2, .int _), (0, .int _), (1, .int _)]) C.1 dX4_withMore_20 rfl hN_2 rfl ?_
    have h := h _ rfl
    refine jw_iload_n C.1 dX4_withMore_21 rfl 1 rfl ?_
    refine jw_eSI (rest := []) C.1 dX4_withMore_22 (ctX3_kind l _ _ h _) miX3_kind gX4_withMore_X3_kind (by decide) rfl rfl rfl (Nat.le_of_ble_eq_true rfl) ⟨Nat.zero_le _, Nat.zero_le _⟩ (fun r4 h => ?_)
    refine jw_iload_n C.1 dX4_withMore_25 rfl 1 rfl ?_
    refine jw_eSI (rest := [.int _]) C.1 dX4_withMore_26 (ctX3_first l _ _ h _) miX3_first gX4_withMore_X3_first (by decide) rfl rfl rfl (Nat.le_of_ble_eq_true rfl) ⟨Nat.zero_le _, Nat.zero_le _⟩ (fun r5 h => ?_)
    refine jw_iload_n C.1 dX4_withMore_29 rfl 1 rfl ?_
    refine jw_eSI (rest := [.int _, .int _]) C.1 dX4_withMore_30 (ctX3_last l _ _ h _) miX3_last gX4_withMore_X3_last (by decide) rfl rfl rfl (Nat.le_of_ble_eq_true rfl) ⟨Nat.zero_le _, Nat.zero_le _⟩ (fun r6 h => ?_)
    refine jw_iload_n C.1 dX4_withMore_33 rfl 0 rfl ?_
    refine jw_eSI (rest := []) C.1 dX4_withMore_34 (ctX3_of l _ _ _ _ _ h _) miX3_of gX4_withMore_X3_of (by decide) rfl rfl rfl (Nat.le_of_ble_eq_true rfl) ⟨Nat.zero_le _, Nat.zero_le _⟩ (fun r7 h => ?_)
    exact jw_iret (Q := fun r _ => Q r) C h dX4_withMore_37
  · have h := h.2 c
    refine jw_iload_n C.1 dX4_withMore_8 rfl 0 rfl ?_
    exact jw_iret (Q := fun r _ => Q r) C h dX4_withMore_9
set_option maxRecDepth 100000 in
set_option maxHeartbeats 4000000 in
theorem jbX4_joinLast_99 {K : KT} {l : Launch} {ad : Nat → Nat} {Q : Mem → Prop} (hN : kN K = 5) (C : CtxM K l cX4_joinLast RX4 wsX4_joinLast rmX4_joinLast shT ad none (pV Q)) (x1 : Int32) (μ : Mem) (h : bkX4_joinLast_99 Q x1 μ) : JW K (0, 0) shT ad μ 99 [(0, .ref (ad 0)), (1, .int x1)] [] := by
  have hN_2 : 2 < kN K := by rw [hN]; decide
  have hN_3 : 3 < kN K := by rw [hN]; decide
  have hN_4 : 4 < kN K := by rw [hN]; decide
  unfold bkX4_joinLast_99 at h
  refine jw_aload_n C.1 dX4_joinLast_99 rfl 0 rfl ?_
  refine jw_getR C.1 iwX4_joinLast_X4 rfl shT_0 rfl 6 (by decide) rfl (List.mem_of_getElem? (i := 1) rfl) dX4_joinLast_100 ?_
  refine jw_iload_n C.1 dX4_joinLast_103 rfl 1 rfl ?_
  refine jw_iconst C.1 dX4_joinLast_104 ki_1 ?_
  refine jw_gSV (rest := []) C.1 dX4_joinLast_105 (e1 7) em_shT_sh1_13_e1_7 (ctX4_addTo l _ _ _ _ _ h) miX4_addTo gX4_joinLast_X4_addTo (by decide) rfl rfl rfl (Nat.le_of_ble_eq_true rfl) ⟨Nat.zero_le _, Nat.zero_le _⟩ (fun μ25 h => ?_)
  have h := h _ rfl
  exact jw_vret C h dX4_joinLast_108
set_option maxRecDepth 100000 in
set_option maxHeartbeats 4000000 in
theorem ctX4_joinLast (l : Launch) (a1 : Int32) (μ : Mem) (Q : Mem → Prop) (h : wpX4_joinLast a1 μ Q) : Con l yX4_joinLast wsX4_joinLast rmX4_joinLast shT (fun ad => [.ref (ad 0), .int a1]) μ (pV Q) := by
  refine Con.mk (cc := cX4_joinLast) (maxL := 5) (ret := none) (own := RX4) (by decide) rfl rfl (fun _ => Nat.le_of_ble_eq_true rfl) (fun K ad hN C => ?_)
  show JW K (0, 0) shT ad μ 0 [(0, .ref (ad 0)), (1, .int a1)] []
  have hN_2 : 2 < kN K := by rw [hN]; decide
  have hN_3 : 3 < kN K := by rw [hN]; decide
  have hN_4 : 4 < kN K := by rw [hN]; decide
  unfold wpX4_joinLast at h
  refine jw_aload_n C.1 dX4_joinLast_0 rfl 0 rfl ?_
  refine jw_iload_n C.1 dX4_joinLast_1 rfl 1 rfl ?_
  refine jw_cVI (rest := []) C.1 dX4_joinLast_2 em_shT_id (ctX4_stonesIn l _ _ _ h) miX4_stonesIn shT_0 rfl gX4_joinLast_X4_stonesIn rfl (by decide) rfl rfl rfl (Nat.le_of_ble_eq_true rfl) ⟨Nat.zero_le _, Nat.zero_le _⟩ (fun r1 μ2 h => ?_)
  refine jw_iconst C.1 dX4_joinLast_5 ki_1 ?_
  refine jw_isub C.1 dX4_joinLast_6 ?_
  refine jw_istore_n (lw := [(2, .int _), (0, .ref _), (1, .int _)]) C.1 dX4_joinLast_7 rfl hN_2 rfl ?_
  have h := h _ rfl
  refine jw_aload_n C.1 dX4_joinLast_8 rfl 1 rfl ?_
  refine jw_iload_n C.1 dX4_joinLast_9 rfl 2 rfl ?_
  refine jw_iload_n C.1 dX4_joinLast_10 rfl 0 rfl ?_
  refine jw_cVI (rest := []) C.1 dX4_joinLast_11 em_shT_id (ctX4_stoneAt l _ _ _ _ h) miX4_stoneAt shT_0 rfl gX4_joinLast_X4_stoneAt rfl (by decide) rfl rfl rfl (Nat.le_of_ble_eq_true rfl) ⟨Nat.zero_le _, Nat.zero_le _⟩ (fun r4 μ5 h => ?_)
  refine jw_istore_n (lw := [(3, .int _), (2, .int _), (0, .ref _), (1, .int _)]) C.1 dX4_joinLast_14 rfl hN_3 rfl ?_
  refine jw_iload_n C.1 dX4_joinLast_15 rfl 0 rfl ?_
  refine jw_eSI (rest := []) C.1 dX4_joinLast_16 (ctX3_isOfOneKey l _ _ h _) miX3_isOfOneKey gX4_joinLast_X3_isOfOneKey (by decide) rfl rfl rfl (Nat.le_of_ble_eq_true rfl) ⟨Nat.zero_le _, Nat.zero_le _⟩ (fun r6 h => ?_)
  refine jw_if_ne C.1 23 dX4_joinLast_19 (by decide) (fun c => ?_) (fun c => ?_)
  · have h := h.1 c
    refine jw_aload_n C.1 dX4_joinLast_23 rfl 2 rfl ?_
    refine jw_iload_n C.1 dX4_joinLast_24 rfl 3 rfl ?_
    refine jw_iload_n C.1 dX4_joinLast_25 rfl 0 rfl ?_
    refine jw_eSI (rest := [.int _, .ref _]) C.1 dX4_joinLast_26 (ctX3_first l _ _ h _) miX3_first gX4_joinLast_X3_first (by decide) rfl rfl rfl (Nat.le_of_ble_eq_true rfl) ⟨Nat.zero_le _, Nat.zero_le _⟩ (fun r7 h => ?_)
    refine jw_iload_n C.1 dX4_joinLast_29 rfl 1 rfl ?_
    refine jw_cVI (rest := []) C.1 dX4_joinLast_30 em_shT_id (ctX4_lastPlaceWith l _ _ _ _ _ h) miX4_lastPlaceWith shT_0 rfl gX4_joinLast_X4_lastPlaceWith rfl (by decide) rfl rfl rfl (Nat.le_of_ble_eq_true rfl) ⟨Nat.zero_le _, Nat.zero_le _⟩ (fun r8 μ9 h => ?_)
    refine jw_istore (lw := [(4, .int _), (3, .int _), (2, .int _), (0, .ref _), (1, .int _)]) C.1 dX4_joinLast_33 hN_4 rfl ?_
    refine jw_iload C.1 dX4_joinLast_35 0 rfl ?_
    refine jw_if_lt C.1 53 dX4_joinLast_37 (by decide) (fun c => ?_) (fun c => ?_)
    · have h := h.1 c
      exact jw_vret C h dX4_joinLast_53
    · have h := h.2 c
      refine jw_aload_n C.1 dX4_joinLast_40 rfl 3 rfl ?_
      refine jw_iload_n C.1 dX4_joinLast_41 rfl 4 rfl ?_
      refine jw_iload C.1 dX4_joinLast_42 0 rfl ?_
      refine jw_cVI (rest := []) C.1 dX4_joinLast_44 em_shT_id (ctX4_stoneAt l _ _ _ _ h) miX4_stoneAt shT_0 rfl gX4_joinLast_X4_stoneAt rfl (by decide) rfl rfl rfl (Nat.le_of_ble_eq_true rfl) ⟨Nat.zero_le _, Nat.zero_le _⟩ (fun r10 μ11 h => ?_)
      refine jw_eSI (rest := []) C.1 dX4_joinLast_47 (ctX3_isOfOneKey l _ _ h _) miX3_isOfOneKey gX4_joinLast_X3_isOfOneKey (by decide) rfl rfl rfl (Nat.le_of_ble_eq_true rfl) ⟨Nat.zero_le _, Nat.zero_le _⟩ (fun r12 h => ?_)
      refine jw_if_ne C.1 54 dX4_joinLast_50 (by decide) (fun c => ?_) (fun c => ?_)
      · have h := h.1 c
        refine jw_iload_n C.1 dX4_joinLast_54 rfl 1 rfl ?_
        refine jw_eSI (rest := []) C.1 dX4_joinLast_55 (ctX3_kind l _ _ h _) miX3_kind gX4_joinLast_X3_kind (by decide) rfl rfl rfl (Nat.le_of_ble_eq_true rfl) ⟨Nat.zero_le _, Nat.zero_le _⟩ (fun r13 h => ?_)
        refine jw_iconst C.1 dX4_joinLast_58 ki_1 ?_
        refine jw_icmp_ne C.1 92 dX4_joinLast_59 (by decide) (fun c => ?_) (fun c => ?_)
        · have h := h.1 c
          refine jw_aload_n C.1 dX4_joinLast_92 rfl 3 rfl ?_
          refine jw_iload_n C.1 dX4_joinLast_93 rfl 4 rfl ?_
          refine jw_iload C.1 dX4_joinLast_94 0 rfl ?_
          refine jw_cVV (rest := []) C.1 dX4_joinLast_96 em_shT_id (ctX4_takeOut l _ _ _ _ h) miX4_takeOut shT_0 rfl gX4_joinLast_X4_takeOut rfl (by decide) rfl rfl rfl (Nat.le_of_ble_eq_true rfl) ⟨Nat.zero_le _, Nat.zero_le _⟩ (fun μ15 h => ?_)
          refine jw_sub [3, 4] rfl ?_
          exact jbX4_joinLast_99 hN C _ _ h
        · have h := h.2 c
          refine jw_aload_n C.1 dX4_joinLast_62 rfl 3 rfl ?_
          refine jw_iload_n C.1 dX4_joinLast_63 rfl 4 rfl ?_
          refine jw_iload C.1 dX4_joinLast_64 0 rfl ?_
          refine jw_aload_n C.1 dX4_joinLast_66 rfl 3 rfl ?_
          refine jw_iload_n C.1 dX4_joinLast_67 rfl 4 rfl ?_
          refine jw_iload C.1 dX4_joinLast_68 0 rfl ?_
          refine jw_cVI (rest := [.int _, .int _, .ref _]) C.1 dX4_joinLast_70 em_shT_id (ctX4_stoneAt l _ _ _ _ h) miX4_stoneAt shT_0 rfl gX4_joinLast_X4_stoneAt rfl (by decide) rfl rfl rfl (Nat.le_of_ble_eq_true rfl) ⟨Nat.zero_le _, Nat.zero_le _⟩ (fun r16 μ17 h => ?_)
          refine jw_iload_n C.1 dX4_joinLast_73 rfl 1 rfl ?_
          refine jw_eSI (rest := [.int _, .int _, .int _, .ref _]) C.1 dX4_joinLast_74 (ctX3_number l _ _ h _) miX3_number gX4_joinLast_X3_number (by decide) rfl rfl rfl (Nat.le_of_ble_eq_true rfl) ⟨Nat.zero_le _, Nat.zero_le _⟩ (fun r18 h => ?_)
          refine jw_eSI (rest := [.int _, .int _, .ref _]) C.1 dX4_joinLast_77 (ctX4_withMore l _ _ _ h _) miX4_withMore gX4_joinLast_X4_withMore (by decide) rfl rfl rfl (Nat.le_of_ble_eq_true rfl) ⟨Nat.zero_le _, Nat.zero_le _⟩ (fun r19 h => ?_)
          refine jw_cVV (rest := []) C.1 dX4_joinLast_80 em_shT_id (ctX4_layAt l _ _ _ _ _ h) miX4_layAt shT_0 rfl gX4_joinLast_X4_layAt rfl (by decide) rfl rfl rfl (Nat.le_of_ble_eq_true rfl) ⟨Nat.zero_le _, Nat.zero_le _⟩ (fun μ21 h => ?_)
          refine jw_aload_n C.1 dX4_joinLast_83 rfl 3 rfl ?_
          refine jw_iload_n C.1 dX4_joinLast_84 rfl 4 rfl ?_
          refine jw_iload_n C.1 dX4_joinLast_85 rfl 2 rfl ?_
          refine jw_cVV (rest := []) C.1 dX4_joinLast_86 em_shT_id (ctX4_takeOut l _ _ _ _ h) miX4_takeOut shT_0 rfl gX4_joinLast_X4_takeOut rfl (by decide) rfl rfl rfl (Nat.le_of_ble_eq_true rfl) ⟨Nat.zero_le _, Nat.zero_le _⟩ (fun μ23 h => ?_)
          refine jw_goto (tgt := 99) C.1 dX4_joinLast_89 (by decide) ?_
          refine jw_sub [3, 4] rfl ?_
          exact jbX4_joinLast_99 hN C _ _ h
      · have h := h.2 c
        exact jw_vret C h dX4_joinLast_53
  · have h := h.2 c
    exact jw_vret C h dX4_joinLast_22
set_option maxRecDepth 100000 in
set_option maxHeartbeats 4000000 in
theorem jbX4_putIn_19 {K : KT} {l : Launch} {ad : Nat → Nat} {Q : Mem → Prop} (hN : kN K = 6) (C : CtxM K l cX4_putIn RX4 wsX4_putIn rmX4_putIn shT ad none (pV Q)) : ∀ (n : Nat) (x1 : Int32) (x2 : Int32) (x3 : Int32) (x5 : Int32) (μ : Mem), bkX4_putIn_19 Q n x1 x2 x3 x5 μ → JW K (0, 0) shT ad μ 19 [(0, .ref (ad 0)), (1, .int x1), (2, .int x2), (3, .int x3), (5, .int x5)] [] := by
  have hN_4 : 4 < kN K := by rw [hN]; decide
  have hN_5 : 5 < kN K := by rw [hN]; decide
  intro n
  induction n with
  | zero =>
    intro x1 x2 x3 x5 μ h
    exact h.elim
  | succ n ih =>
    intro x1 x2 x3 x5 μ h
    unfold bkX4_putIn_19 at h
    refine jw_iload C.1 dX4_putIn_19 4 rfl ?_
    refine jw_iload_n C.1 dX4_putIn_21 rfl 2 rfl ?_
    refine jw_icmp_le C.1 47 dX4_putIn_22 (by decide) (fun c => ?_) (fun c => ?_)
    · have h := h.1 c
      refine jw_aload_n C.1 dX4_putIn_47 rfl 0 rfl ?_
      refine jw_iload_n C.1 dX4_putIn_48 rfl 1 rfl ?_
      refine jw_iload_n C.1 dX4_putIn_49 rfl 2 rfl ?_
      refine jw_iload_n C.1 dX4_putIn_50 rfl 3 rfl ?_
      refine jw_cVV (rest := []) C.1 dX4_putIn_51 em_shT_id (ctX4_layAt l _ _ _ _ _ h) miX4_layAt shT_0 rfl gX4_putIn_X4_layAt rfl (by decide) rfl rfl rfl (Nat.le_of_ble_eq_true rfl) ⟨Nat.zero_le _, Nat.zero_le _⟩ (fun μ4 h => ?_)
      refine jw_aload_n C.1 dX4_putIn_54 rfl 0 rfl ?_
      refine jw_getR C.1 iwX4_putIn_X4 rfl shT_0 rfl 2 (by decide) rfl (List.mem_of_getElem? (i := 1) rfl) dX4_putIn_55 ?_
      refine jw_iload_n C.1 dX4_putIn_58 rfl 1 rfl ?_
      refine jw_iconst C.1 dX4_putIn_59 ki_1 ?_
      refine jw_gSV (rest := []) C.1 dX4_putIn_60 (e1 3) em_shT_sh1_13_e1_3 (ctX4_addTo l _ _ _ _ _ h) miX4_addTo gX4_putIn_X4_addTo (by decide) rfl rfl rfl (Nat.le_of_ble_eq_true rfl) ⟨Nat.zero_le _, Nat.zero_le _⟩ (fun μ6 h => ?_)
      have h := h _ rfl
      exact jw_vret C h dX4_putIn_63
    · have h := h.2 c
      refine jw_aload_n C.1 dX4_putIn_25 rfl 0 rfl ?_
      refine jw_iload_n C.1 dX4_putIn_26 rfl 1 rfl ?_
      refine jw_iload C.1 dX4_putIn_27 4 rfl ?_
      refine jw_aload_n C.1 dX4_putIn_29 rfl 0 rfl ?_
      refine jw_iload_n C.1 dX4_putIn_30 rfl 1 rfl ?_
      refine jw_iload C.1 dX4_putIn_31 4 rfl ?_
      refine jw_iconst C.1 dX4_putIn_33 ki_1 ?_
      refine jw_isub C.1 dX4_putIn_34 ?_
      refine jw_cVI (rest := [.int _, .int _, .ref _]) C.1 dX4_putIn_35 em_shT_id (ctX4_stoneAt l _ _ _ _ h) miX4_stoneAt shT_0 rfl gX4_putIn_X4_stoneAt rfl (by decide) rfl rfl rfl (Nat.le_of_ble_eq_true rfl) ⟨Nat.zero_le _, Nat.zero_le _⟩ (fun r8 μ9 h => ?_)
      refine jw_cVV (rest := []) C.1 dX4_putIn_38 em_shT_id (ctX4_layAt l _ _ _ _ _ h) miX4_layAt shT_0 rfl gX4_putIn_X4_layAt rfl (by decide) rfl rfl rfl (Nat.le_of_ble_eq_true rfl) ⟨Nat.zero_le _, Nat.zero_le _⟩ (fun μ11 h => ?_)
      refine jw_iinc (lw := [(5, .int _), (0, .ref _), (1, .int _), (2, .int _), (3, .int _)]) (q := 4) C.1 dX4_putIn_41 rfl (ai_m1 _) hN_5 rfl ?_
      have h := h _ rfl
      refine jw_goto (tgt := 19) C.1 dX4_putIn_44 (by decide) ?_
      refine jw_sub [1, 2, 3, 4, 0] rfl ?_
      exact ih _ _ _ _ _ h
set_option maxRecDepth 100000 in
set_option maxHeartbeats 4000000 in
theorem ctX4_putIn (l : Launch) (a1 : Int32) (a2 : Int32) (a3 : Int32) (μ : Mem) (Q : Mem → Prop) (h : wpX4_putIn a1 a2 a3 μ Q) : Con l yX4_putIn wsX4_putIn rmX4_putIn shT (fun ad => [.ref (ad 0), .int a1, .int a2, .int a3]) μ (pV Q) := by
  refine Con.mk (cc := cX4_putIn) (maxL := 6) (ret := none) (own := RX4) (by decide) rfl rfl (fun _ => Nat.le_of_ble_eq_true rfl) (fun K ad hN C => ?_)
  show JW K (0, 0) shT ad μ 0 [(0, .ref (ad 0)), (1, .int a1), (2, .int a2), (3, .int a3)] []
  have hN_4 : 4 < kN K := by rw [hN]; decide
  have hN_5 : 5 < kN K := by rw [hN]; decide
  unfold wpX4_putIn at h
  refine jw_aload_n C.1 dX4_putIn_0 rfl 0 rfl ?_
  refine jw_iload_n C.1 dX4_putIn_1 rfl 1 rfl ?_
  refine jw_cVI (rest := []) C.1 dX4_putIn_2 em_shT_id (ctX4_stonesIn l _ _ _ h) miX4_stonesIn shT_0 rfl gX4_putIn_X4_stonesIn rfl (by decide) rfl rfl rfl (Nat.le_of_ble_eq_true rfl) ⟨Nat.zero_le _, Nat.zero_le _⟩ (fun r1 μ2 h => ?_)
  refine jw_istore (lw := [(4, .int _), (0, .ref _), (1, .int _), (2, .int _), (3, .int _)]) C.1 dX4_putIn_5 hN_4 rfl ?_
  refine jw_iload C.1 dX4_putIn_7 0 rfl ?_
  refine jw_bipush C.1 dX4_putIn_9 kb_22 ?_
  refine jw_icmp_lt C.1 15 dX4_putIn_11 (by decide) (fun c => ?_) (fun c => ?_)
  · have h := h.1 c
    refine jw_iload C.1 dX4_putIn_15 0 rfl ?_
    refine jw_istore (lw := [(5, .int _), (4, .int _), (0, .ref _), (1, .int _), (2, .int _), (3, .int _)]) C.1 dX4_putIn_17 hN_5 rfl ?_
    obtain ⟨n, h⟩ := h
    refine jw_sub [2, 3, 4, 5, 0] rfl ?_
    exact jbX4_putIn_19 hN C n _ _ _ _ _ h
  · have h := h.2 c
    exact jw_vret C h dX4_putIn_14
set_option maxRecDepth 100000 in
set_option maxHeartbeats 4000000 in
theorem jbX4_leaveRest_44 {K : KT} {l : Launch} {ad : Nat → Nat} {Q : Int32 → Mem → Prop} (hN : kN K = 7) (C : CtxM K l cX4_leaveRest RX4 wsX4_leaveRest rmX4_leaveRest shT ad (some .int) (pI Q)) (x1 : Int32) (x2 : Int32) (x4 : Int32) (x5 : Int32) (x6 : Int32) (μ : Mem) (h : bkX4_leaveRest_44 Q x1 x2 x4 x5 x6 μ) : JW K (0, 0) shT ad μ 44 [(0, .ref (ad 0)), (1, .int x1), (2, .int x2), (4, .int x4), (5, .int x5), (6, .int x6)] [] := by
  have hN_5 : 5 < kN K := by rw [hN]; decide
  have hN_6 : 6 < kN K := by rw [hN]; decide
  unfold bkX4_leaveRest_44 at h
  refine jw_iload C.1 dX4_leaveRest_44 4 rfl ?_
  refine jw_eSI (rest := []) C.1 dX4_leaveRest_46 (ctX3_last l _ _ h _) miX3_last gX4_leaveRest_X3_last (by decide) rfl rfl rfl (Nat.le_of_ble_eq_true rfl) ⟨Nat.zero_le _, Nat.zero_le _⟩ (fun r10 h => ?_)
  refine jw_iload C.1 dX4_leaveRest_49 3 rfl ?_
  refine jw_icmp_le C.1 77 dX4_leaveRest_51 (by decide) (fun c => ?_) (fun c => ?_)
  · have h := h.1 c
    refine jw_iload C.1 dX4_leaveRest_77 5 rfl ?_
    exact jw_iret (Q := Q) C h dX4_leaveRest_79
  · have h := h.2 c
    refine jw_aload_n C.1 dX4_leaveRest_54 rfl 0 rfl ?_
    refine jw_iload_n C.1 dX4_leaveRest_55 rfl 1 rfl ?_
    refine jw_iload_n C.1 dX4_leaveRest_56 rfl 2 rfl ?_
    refine jw_iload C.1 dX4_leaveRest_57 5 rfl ?_
    refine jw_iadd C.1 dX4_leaveRest_59 ?_
    refine jw_iload C.1 dX4_leaveRest_60 4 rfl ?_
    refine jw_iload C.1 dX4_leaveRest_62 3 rfl ?_
    refine jw_iconst C.1 dX4_leaveRest_64 ki_1 ?_
    refine jw_iadd C.1 dX4_leaveRest_65 ?_
    refine jw_bipush C.1 dX4_leaveRest_66 kb_26 ?_
    refine jw_eSI (rest := [.int _, .int _, .ref _]) C.1 dX4_leaveRest_68 (ctX3_part l _ _ _ _ h _) miX3_part gX4_leaveRest_X3_part (by decide) rfl rfl rfl (Nat.le_of_ble_eq_true rfl) ⟨Nat.zero_le _, Nat.zero_le _⟩ (fun r11 h => ?_)
    refine jw_cVV (rest := []) C.1 dX4_leaveRest_71 em_shT_id (ctX4_putIn l _ _ _ _ _ h) miX4_putIn shT_0 rfl gX4_leaveRest_X4_putIn rfl (by decide) rfl rfl rfl (Nat.le_of_ble_eq_true rfl) ⟨Nat.zero_le _, Nat.zero_le _⟩ (fun μ13 h => ?_)
    refine jw_iinc (lw := [(6, .int _), (0, .ref _), (1, .int _), (2, .int _), (4, .int _), (5, .int _)]) (q := 5) C.1 dX4_leaveRest_74 rfl (ai_1 _) hN_6 rfl ?_
    have h := h _ rfl
    refine jw_iload C.1 dX4_leaveRest_77 0 rfl ?_
    exact jw_iret (Q := Q) C h dX4_leaveRest_79
set_option maxRecDepth 100000 in
set_option maxHeartbeats 4000000 in
theorem ctX4_leaveRest (l : Launch) (a1 : Int32) (a2 : Int32) (a3 : Int32) (a4 : Int32) (μ : Mem) (Q : Int32 → Mem → Prop) (h : wpX4_leaveRest a1 a2 a3 a4 μ Q) : Con l yX4_leaveRest wsX4_leaveRest rmX4_leaveRest shT (fun ad => [.ref (ad 0), .int a1, .int a2, .int a3, .int a4]) μ (pI Q) := by
  refine Con.mk (cc := cX4_leaveRest) (maxL := 7) (ret := (some .int)) (own := RX4) (by decide) rfl rfl (fun _ => Nat.le_of_ble_eq_true rfl) (fun K ad hN C => ?_)
  show JW K (0, 0) shT ad μ 0 [(0, .ref (ad 0)), (1, .int a1), (2, .int a2), (3, .int a3), (4, .int a4)] []
  have hN_5 : 5 < kN K := by rw [hN]; decide
  have hN_6 : 6 < kN K := by rw [hN]; decide
  unfold wpX4_leaveRest at h
  refine jw_aload_n C.1 dX4_leaveRest_0 rfl 0 rfl ?_
  refine jw_iload_n C.1 dX4_leaveRest_1 rfl 1 rfl ?_
  refine jw_iload_n C.1 dX4_leaveRest_2 rfl 2 rfl ?_
  refine jw_cVI (rest := []) C.1 dX4_leaveRest_3 em_shT_id (ctX4_stoneAt l _ _ _ _ h) miX4_stoneAt shT_0 rfl gX4_leaveRest_X4_stoneAt rfl (by decide) rfl rfl rfl (Nat.le_of_ble_eq_true rfl) ⟨Nat.zero_le _, Nat.zero_le _⟩ (fun r1 μ2 h => ?_)
  refine jw_istore (lw := [(5, .int _), (0, .ref _), (1, .int _), (2, .int _), (3, .int _), (4, .int _)]) C.1 dX4_leaveRest_6 hN_5 rfl ?_
  refine jw_iconst C.1 dX4_leaveRest_8 ki_0 ?_
  refine jw_istore (lw := [(6, .int _), (5, .int _), (0, .ref _), (1, .int _), (2, .int _), (3, .int _), (4, .int _)]) C.1 dX4_leaveRest_9 hN_6 rfl ?_
  refine jw_aload_n C.1 dX4_leaveRest_11 rfl 2 rfl ?_
  refine jw_iload_n C.1 dX4_leaveRest_12 rfl 3 rfl ?_
  refine jw_iload_n C.1 dX4_leaveRest_13 rfl 4 rfl ?_
  refine jw_cVV (rest := []) C.1 dX4_leaveRest_14 em_shT_id (ctX4_takeOut l _ _ _ _ h) miX4_takeOut shT_0 rfl gX4_leaveRest_X4_takeOut rfl (by decide) rfl rfl rfl (Nat.le_of_ble_eq_true rfl) ⟨Nat.zero_le _, Nat.zero_le _⟩ (fun μ4 h => ?_)
  refine jw_iload C.1 dX4_leaveRest_17 1 rfl ?_
  refine jw_eSI (rest := []) C.1 dX4_leaveRest_19 (ctX3_first l _ _ h _) miX3_first gX4_leaveRest_X3_first (by decide) rfl rfl rfl (Nat.le_of_ble_eq_true rfl) ⟨Nat.zero_le _, Nat.zero_le _⟩ (fun r5 h => ?_)
  refine jw_iload_n C.1 dX4_leaveRest_22 rfl 5 rfl ?_
  refine jw_icmp_ge C.1 44 dX4_leaveRest_23 (by decide) (fun c => ?_) (fun c => ?_)
  · have h := h.1 c
    refine jw_sub [2, 3, 4, 6, 1, 0] rfl ?_
    exact jbX4_leaveRest_44 hN C _ _ _ _ _ _ h
  · have h := h.2 c
    refine jw_aload_n C.1 dX4_leaveRest_26 rfl 2 rfl ?_
    refine jw_iload_n C.1 dX4_leaveRest_27 rfl 3 rfl ?_
    refine jw_iload_n C.1 dX4_leaveRest_28 rfl 4 rfl ?_
    refine jw_iload C.1 dX4_leaveRest_29 1 rfl ?_
    refine jw_iconst C.1 dX4_leaveRest_31 ki_0 ?_
    refine jw_iload_n C.1 dX4_leaveRest_32 rfl 5 rfl ?_
    refine jw_iconst C.1 dX4_leaveRest_33 ki_1 ?_
    refine jw_isub C.1 dX4_leaveRest_34 ?_
    refine jw_eSI (rest := [.int _, .int _, .ref _]) C.1 dX4_leaveRest_35 (ctX3_part l _ _ _ _ h _) miX3_part gX4_leaveRest_X3_part (by decide) rfl rfl rfl (Nat.le_of_ble_eq_true rfl) ⟨Nat.zero_le _, Nat.zero_le _⟩ (fun r6 h => ?_)
    refine jw_cVV (rest := []) C.1 dX4_leaveRest_38 em_shT_id (ctX4_putIn l _ _ _ _ _ h) miX4_putIn shT_0 rfl gX4_leaveRest_X4_putIn rfl (by decide) rfl rfl rfl (Nat.le_of_ble_eq_true rfl) ⟨Nat.zero_le _, Nat.zero_le _⟩ (fun μ8 h => ?_)
    refine jw_iinc (lw := [(6, .int _), (5, .int _), (0, .ref _), (1, .int _), (2, .int _), (3, .int _), (4, .int _)]) (q := 0) C.1 dX4_leaveRest_41 rfl (ai_1 _) hN_6 rfl ?_
    have h := h _ rfl
    refine jw_sub [2, 3, 4, 6, 1, 0] rfl ?_
    exact jbX4_leaveRest_44 hN C _ _ _ _ _ _ h
set_option maxRecDepth 100000 in
set_option maxHeartbeats 4000000 in
theorem jbX4_come_34 {K : KT} {l : Launch} {ad : Nat → Nat} {WS : Int32 → Int32 → Int32 → Mem → (Mem → Prop) → Prop} {rm : Room} {Q : Mem → Prop} (hN : kN K = 5) (C : CtxM K l cX4_come RX4 wsX4_come rm shT ad none (pV Q)) {rmC : Room} (hWS : ∀ (b1 b2 b3 : Int32) (μ : Mem) (Q : Mem → Prop), WS b1 b2 b3 μ Q → Con l yX4_sinkInto wsX4_sinkInto rmC shT (fun ad => [.ref (ad 0), .int b1, .int b2, .int b3]) μ (pV Q)) (hrm_X4_heaviestChild : rmX4_heaviestChild.cells = 0 ∧ rmX4_heaviestChild.slots = 0 ∧ rmX4_heaviestChild.frames + 1 ≤ rm.frames ∧ 8 + (6 + 11) + rmX4_heaviestChild.locals ≤ rm.locals) (hrm_X4_joinLast : rmX4_joinLast.cells = 0 ∧ rmX4_joinLast.slots = 0 ∧ rmX4_joinLast.frames + 1 ≤ rm.frames ∧ 8 + (5 + 11) + rmX4_joinLast.locals ≤ rm.locals) (hrm_X4_putIn : rmX4_putIn.cells = 0 ∧ rmX4_putIn.slots = 0 ∧ rmX4_putIn.frames + 1 ≤ rm.frames ∧ 8 + (6 + 11) + rmX4_putIn.locals ≤ rm.locals) (hrm_X4_setting : rmX4_setting.cells = 0 ∧ rmX4_setting.slots = 0 ∧ rmX4_setting.frames + 1 ≤ rm.frames ∧ 8 + (2 + 11) + rmX4_setting.locals ≤ rm.locals) (hrm_X4_sinkInto : rmC.cells = 0 ∧ rmC.slots = 0 ∧ rmC.frames + 1 ≤ rm.frames ∧ 8 + (12 + 11) + rmC.locals ≤ rm.locals) (hrm_X4_stonesIn : rmX4_stonesIn.cells = 0 ∧ rmX4_stonesIn.slots = 0 ∧ rmX4_stonesIn.frames + 1 ≤ rm.frames ∧ 8 + (2 + 11) + rmX4_stonesIn.locals ≤ rm.locals) : ∀ (n : Nat) (x1 : Int32) (x3 : Int32) (x4 : Int32) (μ : Mem), bkX4_come_34 WS Q n x1 x3 x4 μ → JW K (0, 0) shT ad μ 34 [(0, .ref (ad 0)), (1, .int x1), (3, .int x3), (4, .int x4)] [] := by
  have hN_4 : 4 < kN K := by rw [hN]; decide
  intro n
  induction n with
  | zero =>
    intro x1 x3 x4 μ h
    exact h.elim
  | succ n ih =>
    intro x1 x3 x4 μ h
    unfold bkX4_come_34 at h
    refine jw_iload C.1 dX4_come_34 3 rfl ?_
    refine jw_iconst C.1 dX4_come_36 ki_3 ?_
    refine jw_icmp_ge C.1 70 dX4_come_37 (by decide) (fun c => ?_) (fun c => ?_)
    · have h := h.1 c
      exact jw_vret C h dX4_come_70
    · have h := h.2 c
      refine jw_aload_n C.1 dX4_come_40 rfl 0 rfl ?_
      refine jw_iload_n C.1 dX4_come_41 rfl 1 rfl ?_
      refine jw_cVI (rest := []) C.1 dX4_come_42 em_shT_id (ctX4_stonesIn l _ _ _ h) miX4_stonesIn shT_0 rfl gX4_come_X4_stonesIn rfl hrm_X4_stonesIn rfl rfl rfl (Nat.le_of_ble_eq_true rfl) ⟨Nat.zero_le _, Nat.zero_le _⟩ (fun r9 μ10 h => ?_)
      refine jw_aload_n C.1 dX4_come_45 rfl 0 rfl ?_
      refine jw_iconst C.1 dX4_come_46 ki_0 ?_
      refine jw_cVI (rest := [.int _]) C.1 dX4_come_47 em_shT_id (ctX4_setting l _ _ _ h) miX4_setting shT_0 rfl gX4_come_X4_setting rfl hrm_X4_setting rfl rfl rfl (Nat.le_of_ble_eq_true rfl) ⟨Nat.zero_le _, Nat.zero_le _⟩ (fun r11 μ12 h => ?_)
      refine jw_icmp_le C.1 70 dX4_come_50 (by decide) (fun c => ?_) (fun c => ?_)
      · have h := h.1 c
        exact jw_vret C h dX4_come_70
      · have h := h.2 c
        refine jw_aload_n C.1 dX4_come_53 rfl 0 rfl ?_
        refine jw_iload_n C.1 dX4_come_54 rfl 1 rfl ?_
        refine jw_aload_n C.1 dX4_come_55 rfl 0 rfl ?_
        refine jw_iload_n C.1 dX4_come_56 rfl 1 rfl ?_
        refine jw_cVI (rest := [.int _, .ref _]) C.1 dX4_come_57 em_shT_id (ctX4_heaviestChild l _ _ _ h) miX4_heaviestChild shT_0 rfl gX4_come_X4_heaviestChild rfl hrm_X4_heaviestChild rfl rfl rfl (Nat.le_of_ble_eq_true rfl) ⟨Nat.zero_le _, Nat.zero_le _⟩ (fun r13 μ14 h => ?_)
        refine jw_iload_n C.1 dX4_come_60 rfl 2 rfl ?_
        refine jw_cVV (rest := []) C.1 dX4_come_61 em_shT_id (hWS _ _ _ _ _ h) miX4_sinkInto shT_0 rfl gX4_come_X4_sinkInto rfl hrm_X4_sinkInto rfl rfl rfl (Nat.le_of_ble_eq_true rfl) ⟨Nat.zero_le _, Nat.zero_le _⟩ (fun μ16 h => ?_)
        refine jw_iinc (lw := [(4, .int _), (0, .ref _), (1, .int _), (3, .int _)]) (q := 3) C.1 dX4_come_64 rfl (ai_1 _) hN_4 rfl ?_
        have h := h _ rfl
        refine jw_goto (tgt := 34) C.1 dX4_come_67 (by decide) ?_
        refine jw_sub [1, 2, 3, 0] rfl ?_
        exact ih _ _ _ _ h
set_option maxRecDepth 100000 in
set_option maxHeartbeats 4000000 in
theorem ctbX4_come (l : Launch) {WS : Int32 → Int32 → Int32 → Mem → (Mem → Prop) → Prop} {rm : Room} {rmC : Room} (hWS : ∀ (b1 b2 b3 : Int32) (μ : Mem) (Q : Mem → Prop), WS b1 b2 b3 μ Q → Con l yX4_sinkInto wsX4_sinkInto rmC shT (fun ad => [.ref (ad 0), .int b1, .int b2, .int b3]) μ (pV Q)) (hrm_X4_heaviestChild : rmX4_heaviestChild.cells = 0 ∧ rmX4_heaviestChild.slots = 0 ∧ rmX4_heaviestChild.frames + 1 ≤ rm.frames ∧ 8 + (6 + 11) + rmX4_heaviestChild.locals ≤ rm.locals) (hrm_X4_joinLast : rmX4_joinLast.cells = 0 ∧ rmX4_joinLast.slots = 0 ∧ rmX4_joinLast.frames + 1 ≤ rm.frames ∧ 8 + (5 + 11) + rmX4_joinLast.locals ≤ rm.locals) (hrm_X4_putIn : rmX4_putIn.cells = 0 ∧ rmX4_putIn.slots = 0 ∧ rmX4_putIn.frames + 1 ≤ rm.frames ∧ 8 + (6 + 11) + rmX4_putIn.locals ≤ rm.locals) (hrm_X4_setting : rmX4_setting.cells = 0 ∧ rmX4_setting.slots = 0 ∧ rmX4_setting.frames + 1 ≤ rm.frames ∧ 8 + (2 + 11) + rmX4_setting.locals ≤ rm.locals) (hrm_X4_sinkInto : rmC.cells = 0 ∧ rmC.slots = 0 ∧ rmC.frames + 1 ≤ rm.frames ∧ 8 + (12 + 11) + rmC.locals ≤ rm.locals) (hrm_X4_stonesIn : rmX4_stonesIn.cells = 0 ∧ rmX4_stonesIn.slots = 0 ∧ rmX4_stonesIn.frames + 1 ≤ rm.frames ∧ 8 + (2 + 11) + rmX4_stonesIn.locals ≤ rm.locals) (a1 : Int32) (a2 : Int32) (a3 : Int32) (μ : Mem) (Q : Mem → Prop) (h : wpbX4_come WS a1 a2 a3 μ Q) : Con l yX4_come wsX4_come rm shT (fun ad => [.ref (ad 0), .int a1, .int a2, .int a3]) μ (pV Q) := by
  refine Con.mk (cc := cX4_come) (maxL := 5) (ret := none) (own := RX4) (by decide) rfl rfl (fun _ => Nat.le_of_ble_eq_true rfl) (fun K ad hN C => ?_)
  show JW K (0, 0) shT ad μ 0 [(0, .ref (ad 0)), (1, .int a1), (2, .int a2), (3, .int a3)] []
  have hN_4 : 4 < kN K := by rw [hN]; decide
  unfold wpbX4_come at h
  refine jw_iload_n C.1 dX4_come_0 rfl 3 rfl ?_
  refine jw_iconst C.1 dX4_come_1 ki_3 ?_
  refine jw_icmp_lt C.1 6 dX4_come_2 (by decide) (fun c => ?_) (fun c => ?_)
  · have h := h.1 c
    refine jw_aload_n C.1 dX4_come_6 rfl 0 rfl ?_
    refine jw_iload_n C.1 dX4_come_7 rfl 1 rfl ?_
    refine jw_aload_n C.1 dX4_come_8 rfl 0 rfl ?_
    refine jw_iload_n C.1 dX4_come_9 rfl 1 rfl ?_
    refine jw_cVI (rest := [.int _, .ref _]) C.1 dX4_come_10 em_shT_id (ctX4_stonesIn l _ _ _ h) miX4_stonesIn shT_0 rfl gX4_come_X4_stonesIn rfl hrm_X4_stonesIn rfl rfl rfl (Nat.le_of_ble_eq_true rfl) ⟨Nat.zero_le _, Nat.zero_le _⟩ (fun r1 μ2 h => ?_)
    refine jw_iload_n C.1 dX4_come_13 rfl 2 rfl ?_
    refine jw_cVV (rest := []) C.1 dX4_come_14 em_shT_id (ctX4_putIn l _ _ _ _ _ h) miX4_putIn shT_0 rfl gX4_come_X4_putIn rfl hrm_X4_putIn rfl rfl rfl (Nat.le_of_ble_eq_true rfl) ⟨Nat.zero_le _, Nat.zero_le _⟩ (fun μ4 h => ?_)
    refine jw_aload_n C.1 dX4_come_17 rfl 0 rfl ?_
    refine jw_iconst C.1 dX4_come_18 ki_1 ?_
    refine jw_cVI (rest := []) C.1 dX4_come_19 em_shT_id (ctX4_setting l _ _ _ h) miX4_setting shT_0 rfl gX4_come_X4_setting rfl hrm_X4_setting rfl rfl rfl (Nat.le_of_ble_eq_true rfl) ⟨Nat.zero_le _, Nat.zero_le _⟩ (fun r5 μ6 h => ?_)
    refine jw_iconst C.1 dX4_come_22 ki_1 ?_
    refine jw_icmp_ne C.1 31 dX4_come_23 (by decide) (fun c => ?_) (fun c => ?_)
    · have h := h.1 c
      refine jw_iconst C.1 dX4_come_31 ki_0 ?_
      refine jw_istore (lw := [(4, .int _), (0, .ref _), (1, .int _), (2, .int _), (3, .int _)]) C.1 dX4_come_32 hN_4 rfl ?_
      obtain ⟨n, h⟩ := h
      refine jw_sub [1, 2, 4, 0] rfl ?_
      exact jbX4_come_34 hN C hWS hrm_X4_heaviestChild hrm_X4_joinLast hrm_X4_putIn hrm_X4_setting hrm_X4_sinkInto hrm_X4_stonesIn n _ _ _ _ h
    · have h := h.2 c
      refine jw_aload_n C.1 dX4_come_26 rfl 0 rfl ?_
      refine jw_iload_n C.1 dX4_come_27 rfl 1 rfl ?_
      refine jw_cVV (rest := []) C.1 dX4_come_28 em_shT_id (ctX4_joinLast l _ _ _ h) miX4_joinLast shT_0 rfl gX4_come_X4_joinLast rfl hrm_X4_joinLast rfl rfl rfl (Nat.le_of_ble_eq_true rfl) ⟨Nat.zero_le _, Nat.zero_le _⟩ (fun μ8 h => ?_)
      refine jw_iconst C.1 dX4_come_31 ki_0 ?_
      refine jw_istore (lw := [(4, .int _), (0, .ref _), (1, .int _), (2, .int _), (3, .int _)]) C.1 dX4_come_32 hN_4 rfl ?_
      obtain ⟨n, h⟩ := h
      refine jw_sub [1, 2, 4, 0] rfl ?_
      exact jbX4_come_34 hN C hWS hrm_X4_heaviestChild hrm_X4_joinLast hrm_X4_putIn hrm_X4_setting hrm_X4_sinkInto hrm_X4_stonesIn n _ _ _ _ h
  · have h := h.2 c
    exact jw_vret C h dX4_come_5
set_option maxRecDepth 100000 in
set_option maxHeartbeats 4000000 in
theorem jbX4_sinkInto_40 {K : KT} {l : Launch} {ad : Nat → Nat} {WC : Int32 → Int32 → Int32 → Mem → (Mem → Prop) → Prop} {rm : Room} {Q : Mem → Prop} (hN : kN K = 12) (C : CtxM K l cX4_sinkInto RX4 wsX4_sinkInto rm shT ad none (pV Q)) {rmC : Room} (hWC : ∀ (b1 b2 b3 : Int32) (μ : Mem) (Q : Mem → Prop), WC b1 b2 b3 μ Q → Con l yX4_come wsX4_come rmC shT (fun ad => [.ref (ad 0), .int b1, .int b2, .int b3]) μ (pV Q)) (hrm_X2_childNode : rmX2_childNode.cells = 0 ∧ rmX2_childNode.slots = 0 ∧ rmX2_childNode.frames + 1 ≤ rm.frames ∧ 8 + (2 + 11) + rmX2_childNode.locals ≤ rm.locals) (hrm_X2_firstKeyOfChild : rmX2_firstKeyOfChild.cells = 0 ∧ rmX2_firstKeyOfChild.slots = 0 ∧ rmX2_firstKeyOfChild.frames + 1 ≤ rm.frames ∧ 8 + (2 + 11) + rmX2_firstKeyOfChild.locals ≤ rm.locals) (hrm_X2_isLow : rmX2_isLow.cells = 0 ∧ rmX2_isLow.slots = 0 ∧ rmX2_isLow.frames + 1 ≤ rm.frames ∧ 8 + (1 + 11) + rmX2_isLow.locals ≤ rm.locals) (hrm_X2_lastKeyOfChild : rmX2_lastKeyOfChild.cells = 0 ∧ rmX2_lastKeyOfChild.slots = 0 ∧ rmX2_lastKeyOfChild.frames + 1 ≤ rm.frames ∧ 8 + (2 + 11) + rmX2_lastKeyOfChild.locals ≤ rm.locals) (hrm_X3_part : rmX3_part.cells = 0 ∧ rmX3_part.slots = 0 ∧ rmX3_part.frames + 1 ≤ rm.frames ∧ 8 + (3 + 11) + rmX3_part.locals ≤ rm.locals) (hrm_X3_touches : rmX3_touches.cells = 0 ∧ rmX3_touches.slots = 0 ∧ rmX3_touches.frames + 1 ≤ rm.frames ∧ 8 + (3 + 11) + rmX3_touches.locals ≤ rm.locals) (hrm_X4_addTo : rmX4_addTo.cells = 0 ∧ rmX4_addTo.slots = 0 ∧ rmX4_addTo.frames + 1 ≤ rm.frames ∧ 8 + (3 + 11) + rmX4_addTo.locals ≤ rm.locals) (hrm_X4_applyToLeaf : rmX4_applyToLeaf.cells = 0 ∧ rmX4_applyToLeaf.slots = 0 ∧ rmX4_applyToLeaf.frames + 1 ≤ rm.frames ∧ 8 + (3 + 11) + rmX4_applyToLeaf.locals ≤ rm.locals) (hrm_X4_come : rmC.cells = 0 ∧ rmC.slots = 0 ∧ rmC.frames + 1 ≤ rm.frames ∧ 8 + (5 + 11) + rmC.locals ≤ rm.locals) (hrm_X4_leaveRest : rmX4_leaveRest.cells = 0 ∧ rmX4_leaveRest.slots = 0 ∧ rmX4_leaveRest.frames + 1 ≤ rm.frames ∧ 8 + (7 + 11) + rmX4_leaveRest.locals ≤ rm.locals) (hrm_X4_stoneAt : rmX4_stoneAt.cells = 0 ∧ rmX4_stoneAt.slots = 0 ∧ rmX4_stoneAt.frames + 1 ≤ rm.frames ∧ 8 + (4 + 11) + rmX4_stoneAt.locals ≤ rm.locals) (hrm_X4_stonesIn : rmX4_stonesIn.cells = 0 ∧ rmX4_stonesIn.slots = 0 ∧ rmX4_stonesIn.frames + 1 ≤ rm.frames ∧ 8 + (2 + 11) + rmX4_stonesIn.locals ≤ rm.locals) : ∀ (n : Nat) (x1 : Int32) (x2 : Int32) (x3 : Int32) (x4 : Int32) (x5 : Int32) (x6 : Int32) (x7 : Int32) (x8 : Int32) (x9 : Int32) (μ : Mem), bkX4_sinkInto_40 WC Q n x1 x2 x3 x4 x5 x6 x7 x8 x9 μ → JW K (0, 0) shT ad μ 40 [(0, .ref (ad 0)), (1, .int x1), (2, .int x2), (3, .int x3), (4, .int x4), (5, .int x5), (6, .int x6), (7, .int x7), (8, .int x8), (9, .int x9)] [] := by
  have hN_4 : 4 < kN K := by rw [hN]; decide
  have hN_5 : 5 < kN K := by rw [hN]; decide
  have hN_6 : 6 < kN K := by rw [hN]; decide
  have hN_7 : 7 < kN K := by rw [hN]; decide
  have hN_8 : 8 < kN K := by rw [hN]; decide
  have hN_9 : 9 < kN K := by rw [hN]; decide
  have hN_10 : 10 < kN K := by rw [hN]; decide
  have hN_11 : 11 < kN K := by rw [hN]; decide
  intro n
  induction n with
  | zero =>
    intro x1 x2 x3 x4 x5 x6 x7 x8 x9 μ h
    exact h.elim
  | succ n ih =>
    intro x1 x2 x3 x4 x5 x6 x7 x8 x9 μ h
    unfold bkX4_sinkInto_40 at h
    refine jw_iload C.1 dX4_sinkInto_40 9 rfl ?_
    refine jw_iload C.1 dX4_sinkInto_42 6 rfl ?_
    refine jw_icmp_ge C.1 142 dX4_sinkInto_44 (by decide) (fun c => ?_) (fun c => ?_)
    · have h := h.1 c
      refine jw_iload C.1 dX4_sinkInto_142 8 rfl ?_
      refine jw_if_le C.1 166 dX4_sinkInto_144 (by decide) (fun c => ?_) (fun c => ?_)
      · have h := h.1 c
        exact jw_vret C h dX4_sinkInto_166
      · have h := h.2 c
        refine jw_aload_n C.1 dX4_sinkInto_147 rfl 0 rfl ?_
        refine jw_getR C.1 iwX4_sinkInto_X4 rfl shT_0 rfl 4 (by decide) rfl (List.mem_of_getElem? (i := 1) rfl) dX4_sinkInto_148 ?_
        refine jw_iload_n C.1 dX4_sinkInto_151 rfl 1 rfl ?_
        refine jw_iconst C.1 dX4_sinkInto_152 ki_1 ?_
        refine jw_gSV (rest := []) C.1 dX4_sinkInto_153 (e1 5) em_shT_sh1_13_e1_5 (ctX4_addTo l _ _ _ _ _ h) miX4_addTo gX4_sinkInto_X4_addTo hrm_X4_addTo rfl rfl rfl (Nat.le_of_ble_eq_true rfl) ⟨Nat.zero_le _, Nat.zero_le _⟩ (fun μ6 h => ?_)
        have h := h _ rfl
        refine jw_aload_n C.1 dX4_sinkInto_156 rfl 0 rfl ?_
        refine jw_getR C.1 iwX4_sinkInto_X4 rfl shT_0 rfl 5 (by decide) rfl (List.mem_of_getElem? (i := 2) rfl) dX4_sinkInto_157 ?_
        refine jw_iload_n C.1 dX4_sinkInto_160 rfl 1 rfl ?_
        refine jw_iload C.1 dX4_sinkInto_161 8 rfl ?_
        refine jw_gSV (rest := []) C.1 dX4_sinkInto_163 (e1 6) em_shT_sh1_13_e1_6 (ctX4_addTo l _ _ _ _ _ h) miX4_addTo gX4_sinkInto_X4_addTo hrm_X4_addTo rfl rfl rfl (Nat.le_of_ble_eq_true rfl) ⟨Nat.zero_le _, Nat.zero_le _⟩ (fun μ9 h => ?_)
        have h := h _ rfl
        exact jw_vret C h dX4_sinkInto_166
    · have h := h.2 c
      refine jw_aload_n C.1 dX4_sinkInto_47 rfl 0 rfl ?_
      refine jw_iload_n C.1 dX4_sinkInto_48 rfl 1 rfl ?_
      refine jw_iload C.1 dX4_sinkInto_49 7 rfl ?_
      refine jw_cVI (rest := []) C.1 dX4_sinkInto_51 em_shT_id (ctX4_stoneAt l _ _ _ _ h) miX4_stoneAt shT_0 rfl gX4_sinkInto_X4_stoneAt rfl hrm_X4_stoneAt rfl rfl rfl (Nat.le_of_ble_eq_true rfl) ⟨Nat.zero_le _, Nat.zero_le _⟩ (fun r11 μ12 h => ?_)
      refine jw_istore (lw := [(10, .int _), (0, .ref _), (1, .int _), (2, .int _), (3, .int _), (4, .int _), (5, .int _), (6, .int _), (7, .int _), (8, .int _), (9, .int _)]) C.1 dX4_sinkInto_54 hN_10 rfl ?_
      refine jw_iload C.1 dX4_sinkInto_56 0 rfl ?_
      refine jw_iload C.1 dX4_sinkInto_58 5 rfl ?_
      refine jw_iload C.1 dX4_sinkInto_60 6 rfl ?_
      refine jw_eSI (rest := []) C.1 dX4_sinkInto_62 (ctX3_touches l _ _ _ _ h _) miX3_touches gX4_sinkInto_X3_touches hrm_X3_touches rfl rfl rfl (Nat.le_of_ble_eq_true rfl) ⟨Nat.zero_le _, Nat.zero_le _⟩ (fun r13 h => ?_)
      refine jw_if_ne C.1 74 dX4_sinkInto_65 (by decide) (fun c => ?_) (fun c => ?_)
      · have h := h.1 c
        refine jw_iload C.1 dX4_sinkInto_74 8 rfl ?_
        refine jw_aload_n C.1 dX4_sinkInto_76 rfl 1 rfl ?_
        refine jw_iload_n C.1 dX4_sinkInto_77 rfl 2 rfl ?_
        refine jw_iload C.1 dX4_sinkInto_78 8 rfl ?_
        refine jw_iload C.1 dX4_sinkInto_80 5 rfl ?_
        refine jw_iload C.1 dX4_sinkInto_82 6 rfl ?_
        refine jw_cVI (rest := [.int _]) C.1 dX4_sinkInto_84 em_shT_id (ctX4_leaveRest l _ _ _ _ _ _ h) miX4_leaveRest shT_0 rfl gX4_sinkInto_X4_leaveRest rfl hrm_X4_leaveRest rfl rfl rfl (Nat.le_of_ble_eq_true rfl) ⟨Nat.zero_le _, Nat.zero_le _⟩ (fun r14 μ15 h => ?_)
        refine jw_iadd C.1 dX4_sinkInto_87 ?_
        refine jw_istore (lw := [(7, .int _), (10, .int _), (0, .ref _), (1, .int _), (2, .int _), (3, .int _), (4, .int _), (5, .int _), (6, .int _), (8, .int _), (9, .int _)]) C.1 dX4_sinkInto_88 hN_7 rfl ?_
        have h := h _ rfl
        refine jw_iinc (lw := [(8, .int _), (7, .int _), (10, .int _), (0, .ref _), (1, .int _), (2, .int _), (3, .int _), (4, .int _), (5, .int _), (6, .int _), (9, .int _)]) (q := 9) C.1 dX4_sinkInto_90 rfl (ai_1 _) hN_8 rfl ?_
        have h := h _ rfl
        refine jw_iload C.1 dX4_sinkInto_93 2 rfl ?_
        refine jw_iload C.1 dX4_sinkInto_95 7 rfl ?_
        refine jw_iload C.1 dX4_sinkInto_97 8 rfl ?_
        refine jw_eSI (rest := []) C.1 dX4_sinkInto_99 (ctX3_part l _ _ _ _ h _) miX3_part gX4_sinkInto_X3_part hrm_X3_part rfl rfl rfl (Nat.le_of_ble_eq_true rfl) ⟨Nat.zero_le _, Nat.zero_le _⟩ (fun r18 h => ?_)
        refine jw_istore (lw := [(11, .int _), (8, .int _), (7, .int _), (10, .int _), (0, .ref _), (1, .int _), (2, .int _), (3, .int _), (4, .int _), (5, .int _), (6, .int _), (9, .int _)]) C.1 dX4_sinkInto_102 hN_11 rfl ?_
        refine jw_iload_n C.1 dX4_sinkInto_104 rfl 5 rfl ?_
        refine jw_eSI (rest := []) C.1 dX4_sinkInto_105 (ctX2_isLow l _ _ h _) miX2_isLow gX4_sinkInto_X2_isLow hrm_X2_isLow rfl rfl rfl (Nat.le_of_ble_eq_true rfl) ⟨Nat.zero_le _, Nat.zero_le _⟩ (fun r19 h => ?_)
        refine jw_if_eq C.1 122 dX4_sinkInto_108 (by decide) (fun c => ?_) (fun c => ?_)
        · have h := h.1 c
          refine jw_aload_n C.1 dX4_sinkInto_122 rfl 4 rfl ?_
          refine jw_iload_n C.1 dX4_sinkInto_123 rfl 5 rfl ?_
          refine jw_iload_n C.1 dX4_sinkInto_124 rfl 6 rfl ?_
          refine jw_eSI (rest := [.ref _]) C.1 dX4_sinkInto_125 (ctX2_childNode l _ _ _ h _) miX2_childNode gX4_sinkInto_X2_childNode hrm_X2_childNode rfl rfl rfl (Nat.le_of_ble_eq_true rfl) ⟨Nat.zero_le _, Nat.zero_le _⟩ (fun r20 h => ?_)
          refine jw_iload C.1 dX4_sinkInto_128 0 rfl ?_
          refine jw_iload_n C.1 dX4_sinkInto_130 rfl 7 rfl ?_
          refine jw_iconst C.1 dX4_sinkInto_131 ki_1 ?_
          refine jw_iadd C.1 dX4_sinkInto_132 ?_
          refine jw_cVV (rest := []) C.1 dX4_sinkInto_133 em_shT_id (hWC _ _ _ _ _ h) miX4_come shT_0 rfl gX4_sinkInto_X4_come rfl hrm_X4_come rfl rfl rfl (Nat.le_of_ble_eq_true rfl) ⟨Nat.zero_le _, Nat.zero_le _⟩ (fun μ22 h => ?_)
          refine jw_iinc (lw := [(9, .int _), (11, .int _), (8, .int _), (7, .int _), (10, .int _), (0, .ref _), (1, .int _), (2, .int _), (3, .int _), (4, .int _), (5, .int _), (6, .int _)]) (q := 11) C.1 dX4_sinkInto_136 rfl (ai_1 _) hN_9 rfl ?_
          have h := h _ rfl
          refine jw_goto (tgt := 40) C.1 dX4_sinkInto_139 (by decide) ?_
          refine jw_sub [5, 6, 7, 8, 9, 10, 11, 3, 2, 0] rfl ?_
          exact ih _ _ _ _ _ _ _ _ _ _ h
        · have h := h.2 c
          refine jw_aload_n C.1 dX4_sinkInto_111 rfl 4 rfl ?_
          refine jw_iload C.1 dX4_sinkInto_112 8 rfl ?_
          refine jw_iload C.1 dX4_sinkInto_114 0 rfl ?_
          refine jw_cVV (rest := []) C.1 dX4_sinkInto_116 em_shT_id (ctX4_applyToLeaf l _ _ _ _ h) miX4_applyToLeaf shT_0 rfl gX4_sinkInto_X4_applyToLeaf rfl hrm_X4_applyToLeaf rfl rfl rfl (Nat.le_of_ble_eq_true rfl) ⟨Nat.zero_le _, Nat.zero_le _⟩ (fun μ25 h => ?_)
          refine jw_goto (tgt := 136) C.1 dX4_sinkInto_119 (by decide) ?_
          refine jw_iinc (lw := [(9, .int _), (11, .int _), (8, .int _), (7, .int _), (10, .int _), (0, .ref _), (1, .int _), (2, .int _), (3, .int _), (4, .int _), (5, .int _), (6, .int _)]) (q := 11) C.1 dX4_sinkInto_136 rfl (ai_1 _) hN_9 rfl ?_
          have h := h _ rfl
          refine jw_goto (tgt := 40) C.1 dX4_sinkInto_139 (by decide) ?_
          refine jw_sub [5, 6, 7, 8, 9, 10, 11, 3, 2, 0] rfl ?_
          exact ih _ _ _ _ _ _ _ _ _ _ h
      · have h := h.2 c
        refine jw_iinc (lw := [(7, .int _), (10, .int _), (0, .ref _), (1, .int _), (2, .int _), (3, .int _), (4, .int _), (5, .int _), (6, .int _), (8, .int _), (9, .int _)]) (q := 8) C.1 dX4_sinkInto_68 rfl (ai_1 _) hN_7 rfl ?_
        have h := h _ rfl
        refine jw_goto (tgt := 136) C.1 dX4_sinkInto_71 (by decide) ?_
        refine jw_iinc (lw := [(9, .int _), (7, .int _), (10, .int _), (0, .ref _), (1, .int _), (2, .int _), (3, .int _), (4, .int _), (5, .int _), (6, .int _), (8, .int _)]) (q := 10) C.1 dX4_sinkInto_136 rfl (ai_1 _) hN_9 rfl ?_
        have h := h _ rfl
        refine jw_goto (tgt := 40) C.1 dX4_sinkInto_139 (by decide) ?_
        refine jw_sub [3, 4, 5, 6, 7, 8, 9, 1, 10, 0] rfl ?_
        exact ih _ _ _ _ _ _ _ _ _ _ h
set_option maxRecDepth 100000 in
set_option maxHeartbeats 4000000 in
theorem ctbX4_sinkInto (l : Launch) {WC : Int32 → Int32 → Int32 → Mem → (Mem → Prop) → Prop} {rm : Room} {rmC : Room} (hWC : ∀ (b1 b2 b3 : Int32) (μ : Mem) (Q : Mem → Prop), WC b1 b2 b3 μ Q → Con l yX4_come wsX4_come rmC shT (fun ad => [.ref (ad 0), .int b1, .int b2, .int b3]) μ (pV Q)) (hrm_X2_childNode : rmX2_childNode.cells = 0 ∧ rmX2_childNode.slots = 0 ∧ rmX2_childNode.frames + 1 ≤ rm.frames ∧ 8 + (2 + 11) + rmX2_childNode.locals ≤ rm.locals) (hrm_X2_firstKeyOfChild : rmX2_firstKeyOfChild.cells = 0 ∧ rmX2_firstKeyOfChild.slots = 0 ∧ rmX2_firstKeyOfChild.frames + 1 ≤ rm.frames ∧ 8 + (2 + 11) + rmX2_firstKeyOfChild.locals ≤ rm.locals) (hrm_X2_isLow : rmX2_isLow.cells = 0 ∧ rmX2_isLow.slots = 0 ∧ rmX2_isLow.frames + 1 ≤ rm.frames ∧ 8 + (1 + 11) + rmX2_isLow.locals ≤ rm.locals) (hrm_X2_lastKeyOfChild : rmX2_lastKeyOfChild.cells = 0 ∧ rmX2_lastKeyOfChild.slots = 0 ∧ rmX2_lastKeyOfChild.frames + 1 ≤ rm.frames ∧ 8 + (2 + 11) + rmX2_lastKeyOfChild.locals ≤ rm.locals) (hrm_X3_part : rmX3_part.cells = 0 ∧ rmX3_part.slots = 0 ∧ rmX3_part.frames + 1 ≤ rm.frames ∧ 8 + (3 + 11) + rmX3_part.locals ≤ rm.locals) (hrm_X3_touches : rmX3_touches.cells = 0 ∧ rmX3_touches.slots = 0 ∧ rmX3_touches.frames + 1 ≤ rm.frames ∧ 8 + (3 + 11) + rmX3_touches.locals ≤ rm.locals) (hrm_X4_addTo : rmX4_addTo.cells = 0 ∧ rmX4_addTo.slots = 0 ∧ rmX4_addTo.frames + 1 ≤ rm.frames ∧ 8 + (3 + 11) + rmX4_addTo.locals ≤ rm.locals) (hrm_X4_applyToLeaf : rmX4_applyToLeaf.cells = 0 ∧ rmX4_applyToLeaf.slots = 0 ∧ rmX4_applyToLeaf.frames + 1 ≤ rm.frames ∧ 8 + (3 + 11) + rmX4_applyToLeaf.locals ≤ rm.locals) (hrm_X4_come : rmC.cells = 0 ∧ rmC.slots = 0 ∧ rmC.frames + 1 ≤ rm.frames ∧ 8 + (5 + 11) + rmC.locals ≤ rm.locals) (hrm_X4_leaveRest : rmX4_leaveRest.cells = 0 ∧ rmX4_leaveRest.slots = 0 ∧ rmX4_leaveRest.frames + 1 ≤ rm.frames ∧ 8 + (7 + 11) + rmX4_leaveRest.locals ≤ rm.locals) (hrm_X4_stoneAt : rmX4_stoneAt.cells = 0 ∧ rmX4_stoneAt.slots = 0 ∧ rmX4_stoneAt.frames + 1 ≤ rm.frames ∧ 8 + (4 + 11) + rmX4_stoneAt.locals ≤ rm.locals) (hrm_X4_stonesIn : rmX4_stonesIn.cells = 0 ∧ rmX4_stonesIn.slots = 0 ∧ rmX4_stonesIn.frames + 1 ≤ rm.frames ∧ 8 + (2 + 11) + rmX4_stonesIn.locals ≤ rm.locals) (a1 : Int32) (a2 : Int32) (a3 : Int32) (μ : Mem) (Q : Mem → Prop) (h : wpbX4_sinkInto WC a1 a2 a3 μ Q) : Con l yX4_sinkInto wsX4_sinkInto rm shT (fun ad => [.ref (ad 0), .int a1, .int a2, .int a3]) μ (pV Q) := by
  refine Con.mk (cc := cX4_sinkInto) (maxL := 12) (ret := none) (own := RX4) (by decide) rfl rfl (fun _ => Nat.le_of_ble_eq_true rfl) (fun K ad hN C => ?_)
  show JW K (0, 0) shT ad μ 0 [(0, .ref (ad 0)), (1, .int a1), (2, .int a2), (3, .int a3)] []
  have hN_4 : 4 < kN K := by rw [hN]; decide
  have hN_5 : 5 < kN K := by rw [hN]; decide
  have hN_6 : 6 < kN K := by rw [hN]; decide
  have hN_7 : 7 < kN K := by rw [hN]; decide
  have hN_8 : 8 < kN K := by rw [hN]; decide
  have hN_9 : 9 < kN K := by rw [hN]; decide
  have hN_10 : 10 < kN K := by rw [hN]; decide
  have hN_11 : 11 < kN K := by rw [hN]; decide
  unfold wpbX4_sinkInto at h
  refine jw_iload_n C.1 dX4_sinkInto_0 rfl 2 rfl ?_
  refine jw_if_lt C.1 9 dX4_sinkInto_1 (by decide) (fun c => ?_) (fun c => ?_)
  · have h := h.1 c
    exact jw_vret C h dX4_sinkInto_9
  · have h := h.2 c
    refine jw_iload_n C.1 dX4_sinkInto_4 rfl 2 rfl ?_
    refine jw_iconst C.1 dX4_sinkInto_5 ki_3 ?_
    refine jw_icmp_lt C.1 10 dX4_sinkInto_6 (by decide) (fun c => ?_) (fun c => ?_)
    · have h := h.1 c
      refine jw_iload_n C.1 dX4_sinkInto_10 rfl 1 rfl ?_
      refine jw_iload_n C.1 dX4_sinkInto_11 rfl 2 rfl ?_
      refine jw_eSI (rest := []) C.1 dX4_sinkInto_12 (ctX2_firstKeyOfChild l _ _ _ h _) miX2_firstKeyOfChild gX4_sinkInto_X2_firstKeyOfChild hrm_X2_firstKeyOfChild rfl rfl rfl (Nat.le_of_ble_eq_true rfl) ⟨Nat.zero_le _, Nat.zero_le _⟩ (fun r1 h => ?_)
      refine jw_istore (lw := [(4, .int _), (0, .ref _), (1, .int _), (2, .int _), (3, .int _)]) C.1 dX4_sinkInto_15 hN_4 rfl ?_
      refine jw_iload_n C.1 dX4_sinkInto_17 rfl 2 rfl ?_
      refine jw_iload_n C.1 dX4_sinkInto_18 rfl 3 rfl ?_
      refine jw_eSI (rest := []) C.1 dX4_sinkInto_19 (ctX2_lastKeyOfChild l _ _ _ h _) miX2_lastKeyOfChild gX4_sinkInto_X2_lastKeyOfChild hrm_X2_lastKeyOfChild rfl rfl rfl (Nat.le_of_ble_eq_true rfl) ⟨Nat.zero_le _, Nat.zero_le _⟩ (fun r2 h => ?_)
      refine jw_istore (lw := [(5, .int _), (4, .int _), (0, .ref _), (1, .int _), (2, .int _), (3, .int _)]) C.1 dX4_sinkInto_22 hN_5 rfl ?_
      refine jw_aload_n C.1 dX4_sinkInto_24 rfl 2 rfl ?_
      refine jw_iload_n C.1 dX4_sinkInto_25 rfl 3 rfl ?_
      refine jw_cVI (rest := []) C.1 dX4_sinkInto_26 em_shT_id (ctX4_stonesIn l _ _ _ h) miX4_stonesIn shT_0 rfl gX4_sinkInto_X4_stonesIn rfl hrm_X4_stonesIn rfl rfl rfl (Nat.le_of_ble_eq_true rfl) ⟨Nat.zero_le _, Nat.zero_le _⟩ (fun r3 μ4 h => ?_)
      refine jw_istore (lw := [(6, .int _), (5, .int _), (4, .int _), (0, .ref _), (1, .int _), (2, .int _), (3, .int _)]) C.1 dX4_sinkInto_29 hN_6 rfl ?_
      refine jw_iconst C.1 dX4_sinkInto_31 ki_0 ?_
      refine jw_istore (lw := [(7, .int _), (6, .int _), (5, .int _), (4, .int _), (0, .ref _), (1, .int _), (2, .int _), (3, .int _)]) C.1 dX4_sinkInto_32 hN_7 rfl ?_
      refine jw_iconst C.1 dX4_sinkInto_34 ki_0 ?_
      refine jw_istore (lw := [(8, .int _), (7, .int _), (6, .int _), (5, .int _), (4, .int _), (0, .ref _), (1, .int _), (2, .int _), (3, .int _)]) C.1 dX4_sinkInto_35 hN_8 rfl ?_
      refine jw_iconst C.1 dX4_sinkInto_37 ki_0 ?_
      refine jw_istore (lw := [(9, .int _), (8, .int _), (7, .int _), (6, .int _), (5, .int _), (4, .int _), (0, .ref _), (1, .int _), (2, .int _), (3, .int _)]) C.1 dX4_sinkInto_38 hN_9 rfl ?_
      obtain ⟨n, h⟩ := h
      refine jw_sub [6, 7, 8, 9, 5, 4, 3, 2, 1, 0] rfl ?_
      exact jbX4_sinkInto_40 hN C hWC hrm_X2_childNode hrm_X2_firstKeyOfChild hrm_X2_isLow hrm_X2_lastKeyOfChild hrm_X3_part hrm_X3_touches hrm_X4_addTo hrm_X4_applyToLeaf hrm_X4_come hrm_X4_leaveRest hrm_X4_stoneAt hrm_X4_stonesIn n _ _ _ _ _ _ _ _ _ _ h
    · have h := h.2 c
      exact jw_vret C h dX4_sinkInto_9
theorem ctX4_sinkInto_0 (l : Launch) (a1 a2 a3 : Int32) (μ : Mem) (Q : Mem → Prop) (h : wpX4_sinkInto 0 a1 a2 a3 μ Q) : Con l yX4_sinkInto wsX4_sinkInto rmX4_sinkInto_0 shT (fun ad => [.ref (ad 0), .int a1, .int a2, .int a3]) μ (pV Q) := ctbX4_sinkInto l (rmC := rmX4_come_0) (fun _ _ _ _ _ h => h.elim) (by decide) (by decide) (by decide) (by decide) (by decide) (by decide) (by decide) (by decide) (by decide) (by decide) (by decide) (by decide) a1 a2 a3 μ Q h
theorem ctX4_come_1 (l : Launch) (a1 a2 a3 : Int32) (μ : Mem) (Q : Mem → Prop) (h : wpX4_come 1 a1 a2 a3 μ Q) : Con l yX4_come wsX4_come rmX4_come_1 shT (fun ad => [.ref (ad 0), .int a1, .int a2, .int a3]) μ (pV Q) := ctbX4_come l (rmC := rmX4_sinkInto_0) (ctX4_sinkInto_0 l) (by decide) (by decide) (by decide) (by decide) (by decide) (by decide) a1 a2 a3 μ Q h
theorem ctX4_sinkInto_1 (l : Launch) (a1 a2 a3 : Int32) (μ : Mem) (Q : Mem → Prop) (h : wpX4_sinkInto 1 a1 a2 a3 μ Q) : Con l yX4_sinkInto wsX4_sinkInto rmX4_sinkInto_1 shT (fun ad => [.ref (ad 0), .int a1, .int a2, .int a3]) μ (pV Q) := ctbX4_sinkInto l (rmC := rmX4_come_1) (ctX4_come_1 l) (by decide) (by decide) (by decide) (by decide) (by decide) (by decide) (by decide) (by decide) (by decide) (by decide) (by decide) (by decide) a1 a2 a3 μ Q h
theorem ctX4_come_2 (l : Launch) (a1 a2 a3 : Int32) (μ : Mem) (Q : Mem → Prop) (h : wpX4_come 2 a1 a2 a3 μ Q) : Con l yX4_come wsX4_come rmX4_come_2 shT (fun ad => [.ref (ad 0), .int a1, .int a2, .int a3]) μ (pV Q) := ctbX4_come l (rmC := rmX4_sinkInto_1) (ctX4_sinkInto_1 l) (by decide) (by decide) (by decide) (by decide) (by decide) (by decide) a1 a2 a3 μ Q h
theorem ctX4_sinkInto_2 (l : Launch) (a1 a2 a3 : Int32) (μ : Mem) (Q : Mem → Prop) (h : wpX4_sinkInto 2 a1 a2 a3 μ Q) : Con l yX4_sinkInto wsX4_sinkInto rmX4_sinkInto_2 shT (fun ad => [.ref (ad 0), .int a1, .int a2, .int a3]) μ (pV Q) := ctbX4_sinkInto l (rmC := rmX4_come_2) (ctX4_come_2 l) (by decide) (by decide) (by decide) (by decide) (by decide) (by decide) (by decide) (by decide) (by decide) (by decide) (by decide) (by decide) a1 a2 a3 μ Q h
theorem ctX4_come_3 (l : Launch) (a1 a2 a3 : Int32) (μ : Mem) (Q : Mem → Prop) (h : wpX4_come 3 a1 a2 a3 μ Q) : Con l yX4_come wsX4_come rmX4_come_3 shT (fun ad => [.ref (ad 0), .int a1, .int a2, .int a3]) μ (pV Q) := ctbX4_come l (rmC := rmX4_sinkInto_2) (ctX4_sinkInto_2 l) (by decide) (by decide) (by decide) (by decide) (by decide) (by decide) a1 a2 a3 μ Q h
set_option maxRecDepth 100000 in
set_option maxHeartbeats 4000000 in
theorem jbX4_deepestWith_7 {K : KT} {l : Launch} {ad : Nat → Nat} {Q : Int32 → Mem → Prop} (hN : kN K = 4) (C : CtxM K l cX4_deepestWith RX4 wsX4_deepestWith rmX4_deepestWith shT ad (some .int) (pI Q)) : ∀ (n : Nat) (x1 : Int32) (x2 : Int32) (x3 : Int32) (μ : Mem), bkX4_deepestWith_7 Q n x1 x2 x3 μ → JW K (0, 0) shT ad μ 7 [(0, .ref (ad 0)), (1, .int x1), (2, .int x2), (3, .int x3)] [] := by
  have hN_2 : 2 < kN K := by rw [hN]; decide
  have hN_3 : 3 < kN K := by rw [hN]; decide
  intro n
  induction n with
  | zero =>
    intro x1 x2 x3 μ h
    exact h.elim
  | succ n ih =>
    intro x1 x2 x3 μ h
    unfold bkX4_deepestWith_7 at h
    refine jw_iload_n C.1 dX4_deepestWith_7 rfl 3 rfl ?_
    refine jw_iconst C.1 dX4_deepestWith_8 ki_3 ?_
    refine jw_icmp_ge C.1 35 dX4_deepestWith_9 (by decide) (fun c => ?_) (fun c => ?_)
    · have h := h.1 c
      refine jw_bipush C.1 dX4_deepestWith_35 kb_m6 ?_
      exact jw_iret (Q := Q) C h dX4_deepestWith_37
    · have h := h.2 c
      refine jw_aload_n C.1 dX4_deepestWith_12 rfl 0 rfl ?_
      refine jw_iload_n C.1 dX4_deepestWith_13 rfl 2 rfl ?_
      refine jw_iload_n C.1 dX4_deepestWith_14 rfl 1 rfl ?_
      refine jw_iload_n C.1 dX4_deepestWith_15 rfl 1 rfl ?_
      refine jw_cVI (rest := []) C.1 dX4_deepestWith_16 em_shT_id (ctX4_stonesTouching l _ _ _ _ _ h) miX4_stonesTouching shT_0 rfl gX4_deepestWith_X4_stonesTouching rfl (by decide) rfl rfl rfl (Nat.le_of_ble_eq_true rfl) ⟨Nat.zero_le _, Nat.zero_le _⟩ (fun r2 μ3 h => ?_)
      refine jw_if_le C.1 24 dX4_deepestWith_19 (by decide) (fun c => ?_) (fun c => ?_)
      · have h := h.1 c
        refine jw_iload_n C.1 dX4_deepestWith_24 rfl 2 rfl ?_
        refine jw_eSI (rest := []) C.1 dX4_deepestWith_25 (ctX2_parent l _ _ h _) miX2_parent gX4_deepestWith_X2_parent (by decide) rfl rfl rfl (Nat.le_of_ble_eq_true rfl) ⟨Nat.zero_le _, Nat.zero_le _⟩ (fun r4 h => ?_)
        refine jw_istore_n (lw := [(2, .int _), (0, .ref _), (1, .int _), (3, .int _)]) C.1 dX4_deepestWith_28 rfl hN_2 rfl ?_
        refine jw_iinc (lw := [(3, .int _), (2, .int _), (0, .ref _), (1, .int _)]) (q := 3) C.1 dX4_deepestWith_29 rfl (ai_1 _) hN_3 rfl ?_
        have h := h _ rfl
        refine jw_goto (tgt := 7) C.1 dX4_deepestWith_32 (by decide) ?_
        refine jw_sub [2, 3, 1, 0] rfl ?_
        exact ih _ _ _ _ h
      · have h := h.2 c
        refine jw_iload_n C.1 dX4_deepestWith_22 rfl 2 rfl ?_
        exact jw_iret (Q := Q) C h dX4_deepestWith_23
set_option maxRecDepth 100000 in
set_option maxHeartbeats 4000000 in
theorem ctX4_deepestWith (l : Launch) (a1 : Int32) (μ : Mem) (Q : Int32 → Mem → Prop) (h : wpX4_deepestWith a1 μ Q) : Con l yX4_deepestWith wsX4_deepestWith rmX4_deepestWith shT (fun ad => [.ref (ad 0), .int a1]) μ (pI Q) := by
  refine Con.mk (cc := cX4_deepestWith) (maxL := 4) (ret := (some .int)) (own := RX4) (by decide) rfl rfl (fun _ => Nat.le_of_ble_eq_true rfl) (fun K ad hN C => ?_)
  show JW K (0, 0) shT ad μ 0 [(0, .ref (ad 0)), (1, .int a1)] []
  have hN_2 : 2 < kN K := by rw [hN]; decide
  have hN_3 : 3 < kN K := by rw [hN]; decide
  unfold wpX4_deepestWith at h
  refine jw_iload_n C.1 dX4_deepestWith_0 rfl 1 rfl ?_
  refine jw_eSI (rest := []) C.1 dX4_deepestWith_1 (ctX2_lowNodeOf l _ _ h _) miX2_lowNodeOf gX4_deepestWith_X2_lowNodeOf (by decide) rfl rfl rfl (Nat.le_of_ble_eq_true rfl) ⟨Nat.zero_le _, Nat.zero_le _⟩ (fun r1 h => ?_)
  refine jw_istore_n (lw := [(2, .int _), (0, .ref _), (1, .int _)]) C.1 dX4_deepestWith_4 rfl hN_2 rfl ?_
  refine jw_iconst C.1 dX4_deepestWith_5 ki_0 ?_
  refine jw_istore_n (lw := [(3, .int _), (2, .int _), (0, .ref _), (1, .int _)]) C.1 dX4_deepestWith_6 rfl hN_3 rfl ?_
  obtain ⟨n, h⟩ := h
  refine jw_sub [2, 3, 1, 0] rfl ?_
  exact jbX4_deepestWith_7 hN C n _ _ _ _ h
set_option maxRecDepth 100000 in
set_option maxHeartbeats 4000000 in
theorem ctX4_drop (l : Launch) (a1 : Int32) (μ : Mem) (Q : Mem → Prop) (h : wpX4_drop a1 μ Q) : Con l yX4_drop wsX4_drop rmX4_drop shT (fun ad => [.ref (ad 0), .int a1]) μ (pV Q) := by
  refine Con.mk (cc := cX4_drop) (maxL := 2) (ret := none) (own := RX4) (by decide) rfl rfl (fun _ => Nat.le_of_ble_eq_true rfl) (fun K ad hN C => ?_)
  show JW K (0, 0) shT ad μ 0 [(0, .ref (ad 0)), (1, .int a1)] []
  unfold wpX4_drop at h
  refine jw_aload_n C.1 dX4_drop_0 rfl 0 rfl ?_
  refine jw_dup C.1 dX4_drop_1 rfl ?_
  refine jw_getI C.1 iwX4_drop_X4 rfl shT_0 rfl 7 (by decide) rfl (List.mem_of_getElem? (i := 1) rfl) dX4_drop_2 ?_
  refine jw_iconst C.1 dX4_drop_5 ki_1 ?_
  refine jw_iadd C.1 dX4_drop_6 ?_
  refine jw_putI C.1 iwX4_drop_X4 rfl shT_0 rfl 7 (by decide) tyX4 tyX4_ok nmX4 (j := 0) rfl fuX4_7 (List.mem_of_getElem? (i := 1) rfl) rfl (ty := .int) (by decide +kernel) rfl rfl dX4_drop_7 ?_
  have h := h _ rfl
  refine jw_aload_n C.1 dX4_drop_10 rfl 0 rfl ?_
  refine jw_iconst C.1 dX4_drop_11 ki_0 ?_
  refine jw_iload_n C.1 dX4_drop_12 rfl 1 rfl ?_
  refine jw_iconst C.1 dX4_drop_13 ki_0 ?_
  refine jw_cVV (rest := []) C.1 dX4_drop_14 em_shT_id (ctX4_come_3 l _ _ _ _ _ h) miX4_come shT_0 rfl gX4_drop_X4_come rfl (by decide) rfl rfl rfl (Nat.le_of_ble_eq_true rfl) ⟨Nat.zero_le _, Nat.zero_le _⟩ (fun μ3 h => ?_)
  exact jw_vret C h dX4_drop_17
set_option maxRecDepth 100000 in
set_option maxHeartbeats 4000000 in
theorem jbX4_emptyBuffer_2 {K : KT} {l : Launch} {ad : Nat → Nat} {Q : Mem → Prop} (hN : kN K = 3) (C : CtxM K l cX4_emptyBuffer RX4 wsX4_emptyBuffer rmX4_emptyBuffer shT ad none (pV Q)) : ∀ (n : Nat) (x1 : Int32) (x2 : Int32) (μ : Mem), bkX4_emptyBuffer_2 Q n x1 x2 μ → JW K (0, 0) shT ad μ 2 [(0, .ref (ad 0)), (1, .int x1), (2, .int x2)] [] := by
  have hN_2 : 2 < kN K := by rw [hN]; decide
  intro n
  induction n with
  | zero =>
    intro x1 x2 μ h
    exact h.elim
  | succ n ih =>
    intro x1 x2 μ h
    unfold bkX4_emptyBuffer_2 at h
    refine jw_iload_n C.1 dX4_emptyBuffer_2 rfl 2 rfl ?_
    refine jw_iconst C.1 dX4_emptyBuffer_3 ki_3 ?_
    refine jw_icmp_ge C.1 23 dX4_emptyBuffer_4 (by decide) (fun c => ?_) (fun c => ?_)
    · have h := h.1 c
      exact jw_vret C h dX4_emptyBuffer_23
    · have h := h.2 c
      refine jw_aload_n C.1 dX4_emptyBuffer_7 rfl 0 rfl ?_
      refine jw_iload_n C.1 dX4_emptyBuffer_8 rfl 1 rfl ?_
      refine jw_iload_n C.1 dX4_emptyBuffer_9 rfl 2 rfl ?_
      refine jw_iload_n C.1 dX4_emptyBuffer_10 rfl 1 rfl ?_
      refine jw_eSI (rest := [.int _, .int _, .ref _]) C.1 dX4_emptyBuffer_11 (ctX2_level l _ _ h _) miX2_level gX4_emptyBuffer_X2_level (by decide) rfl rfl rfl (Nat.le_of_ble_eq_true rfl) ⟨Nat.zero_le _, Nat.zero_le _⟩ (fun r1 h => ?_)
      refine jw_cVV (rest := []) C.1 dX4_emptyBuffer_14 em_shT_id (ctX4_sinkInto_2 l _ _ _ _ _ h) miX4_sinkInto shT_0 rfl gX4_emptyBuffer_X4_sinkInto rfl (by decide) rfl rfl rfl (Nat.le_of_ble_eq_true rfl) ⟨Nat.zero_le _, Nat.zero_le _⟩ (fun μ3 h => ?_)
      refine jw_iinc (lw := [(2, .int _), (0, .ref _), (1, .int _)]) (q := 2) C.1 dX4_emptyBuffer_17 rfl (ai_1 _) hN_2 rfl ?_
      have h := h _ rfl
      refine jw_goto (tgt := 2) C.1 dX4_emptyBuffer_20 (by decide) ?_
      refine jw_sub [1, 2, 0] rfl ?_
      exact ih _ _ _ h
set_option maxRecDepth 100000 in
set_option maxHeartbeats 4000000 in
theorem ctX4_emptyBuffer (l : Launch) (a1 : Int32) (μ : Mem) (Q : Mem → Prop) (h : wpX4_emptyBuffer a1 μ Q) : Con l yX4_emptyBuffer wsX4_emptyBuffer rmX4_emptyBuffer shT (fun ad => [.ref (ad 0), .int a1]) μ (pV Q) := by
  refine Con.mk (cc := cX4_emptyBuffer) (maxL := 3) (ret := none) (own := RX4) (by decide) rfl rfl (fun _ => Nat.le_of_ble_eq_true rfl) (fun K ad hN C => ?_)
  show JW K (0, 0) shT ad μ 0 [(0, .ref (ad 0)), (1, .int a1)] []
  have hN_2 : 2 < kN K := by rw [hN]; decide
  unfold wpX4_emptyBuffer at h
  refine jw_iconst C.1 dX4_emptyBuffer_0 ki_0 ?_
  refine jw_istore_n (lw := [(2, .int _), (0, .ref _), (1, .int _)]) C.1 dX4_emptyBuffer_1 rfl hN_2 rfl ?_
  obtain ⟨n, h⟩ := h
  refine jw_sub [1, 2, 0] rfl ?_
  exact jbX4_emptyBuffer_2 hN C n _ _ _ h
set_option maxRecDepth 100000 in
set_option maxHeartbeats 4000000 in
theorem jbX4_valueAbove_13 {K : KT} {l : Launch} {ad : Nat → Nat} {Q : Int32 → Mem → Prop} (hN : kN K = 8) (C : CtxM K l cX4_valueAbove RX4 wsX4_valueAbove rmX4_valueAbove shT ad (some .int) (pI Q)) : ∀ (n : Nat) (x1 : Int32) (x2 : Int32) (x4 : Int32) (x5 : Int32) (x6 : Int32) (μ : Mem), bkX4_valueAbove_13 Q n x1 x2 x4 x5 x6 μ → JW K (0, 0) shT ad μ 13 [(0, .ref (ad 0)), (1, .int x1), (2, .int x2), (4, .int x4), (5, .int x5), (6, .int x6)] [] := by
  have hN_4 : 4 < kN K := by rw [hN]; decide
  have hN_5 : 5 < kN K := by rw [hN]; decide
  have hN_6 : 6 < kN K := by rw [hN]; decide
  have hN_7 : 7 < kN K := by rw [hN]; decide
  intro n
  induction n with
  | zero =>
    intro x1 x2 x4 x5 x6 μ h
    exact h.elim
  | succ n ih =>
    intro x1 x2 x4 x5 x6 μ h
    unfold bkX4_valueAbove_13 at h
    refine jw_iload C.1 dX4_valueAbove_13 5 rfl ?_
    refine jw_iload C.1 dX4_valueAbove_15 3 rfl ?_
    refine jw_icmp_ge C.1 54 dX4_valueAbove_17 (by decide) (fun c => ?_) (fun c => ?_)
    · have h := h.1 c
      refine jw_iload C.1 dX4_valueAbove_54 4 rfl ?_
      exact jw_iret (Q := Q) C h dX4_valueAbove_56
    · have h := h.2 c
      refine jw_aload_n C.1 dX4_valueAbove_20 rfl 0 rfl ?_
      refine jw_iload_n C.1 dX4_valueAbove_21 rfl 1 rfl ?_
      refine jw_iload C.1 dX4_valueAbove_22 5 rfl ?_
      refine jw_cVI (rest := []) C.1 dX4_valueAbove_24 em_shT_id (ctX4_stoneAt l _ _ _ _ h) miX4_stoneAt shT_0 rfl gX4_valueAbove_X4_stoneAt rfl (by decide) rfl rfl rfl (Nat.le_of_ble_eq_true rfl) ⟨Nat.zero_le _, Nat.zero_le _⟩ (fun r3 μ4 h => ?_)
      refine jw_istore (lw := [(7, .int _), (0, .ref _), (1, .int _), (2, .int _), (4, .int _), (5, .int _), (6, .int _)]) C.1 dX4_valueAbove_27 hN_7 rfl ?_
      refine jw_iload C.1 dX4_valueAbove_29 0 rfl ?_
      refine jw_iload_n C.1 dX4_valueAbove_31 rfl 3 rfl ?_
      refine jw_iload_n C.1 dX4_valueAbove_32 rfl 3 rfl ?_
      refine jw_eSI (rest := []) C.1 dX4_valueAbove_33 (ctX3_touches l _ _ _ _ h _) miX3_touches gX4_valueAbove_X3_touches (by decide) rfl rfl rfl (Nat.le_of_ble_eq_true rfl) ⟨Nat.zero_le _, Nat.zero_le _⟩ (fun r5 h => ?_)
      refine jw_if_eq C.1 48 dX4_valueAbove_36 (by decide) (fun c => ?_) (fun c => ?_)
      · have h := h.1 c
        refine jw_iinc (lw := [(6, .int _), (7, .int _), (0, .ref _), (1, .int _), (2, .int _), (4, .int _), (5, .int _)]) (q := 6) C.1 dX4_valueAbove_48 rfl (ai_1 _) hN_6 rfl ?_
        have h := h _ rfl
        refine jw_goto (tgt := 13) C.1 dX4_valueAbove_51 (by decide) ?_
        refine jw_sub [2, 3, 4, 5, 6, 0] rfl ?_
        exact ih _ _ _ _ _ _ h
      · have h := h.2 c
        refine jw_iload C.1 dX4_valueAbove_39 0 rfl ?_
        refine jw_iload C.1 dX4_valueAbove_41 5 rfl ?_
        refine jw_eSI (rest := []) C.1 dX4_valueAbove_43 (ctX3_valueAfter l _ _ _ h _) miX3_valueAfter gX4_valueAbove_X3_valueAfter (by decide) rfl rfl rfl (Nat.le_of_ble_eq_true rfl) ⟨Nat.zero_le _, Nat.zero_le _⟩ (fun r7 h => ?_)
        refine jw_istore (lw := [(5, .int _), (7, .int _), (0, .ref _), (1, .int _), (2, .int _), (4, .int _), (6, .int _)]) C.1 dX4_valueAbove_46 hN_5 rfl ?_
        refine jw_iinc (lw := [(6, .int _), (5, .int _), (7, .int _), (0, .ref _), (1, .int _), (2, .int _), (4, .int _)]) (q := 6) C.1 dX4_valueAbove_48 rfl (ai_1 _) hN_6 rfl ?_
        have h := h _ rfl
        refine jw_goto (tgt := 13) C.1 dX4_valueAbove_51 (by decide) ?_
        refine jw_sub [3, 4, 5, 6, 1, 0] rfl ?_
        exact ih _ _ _ _ _ _ h
set_option maxRecDepth 100000 in
set_option maxHeartbeats 4000000 in
theorem ctX4_valueAbove (l : Launch) (a1 : Int32) (a2 : Int32) (a3 : Int32) (μ : Mem) (Q : Int32 → Mem → Prop) (h : wpX4_valueAbove a1 a2 a3 μ Q) : Con l yX4_valueAbove wsX4_valueAbove rmX4_valueAbove shT (fun ad => [.ref (ad 0), .int a1, .int a2, .int a3]) μ (pI Q) := by
  refine Con.mk (cc := cX4_valueAbove) (maxL := 8) (ret := (some .int)) (own := RX4) (by decide) rfl rfl (fun _ => Nat.le_of_ble_eq_true rfl) (fun K ad hN C => ?_)
  show JW K (0, 0) shT ad μ 0 [(0, .ref (ad 0)), (1, .int a1), (2, .int a2), (3, .int a3)] []
  have hN_4 : 4 < kN K := by rw [hN]; decide
  have hN_5 : 5 < kN K := by rw [hN]; decide
  have hN_6 : 6 < kN K := by rw [hN]; decide
  have hN_7 : 7 < kN K := by rw [hN]; decide
  unfold wpX4_valueAbove at h
  refine jw_aload_n C.1 dX4_valueAbove_0 rfl 0 rfl ?_
  refine jw_iload_n C.1 dX4_valueAbove_1 rfl 1 rfl ?_
  refine jw_cVI (rest := []) C.1 dX4_valueAbove_2 em_shT_id (ctX4_stonesIn l _ _ _ h) miX4_stonesIn shT_0 rfl gX4_valueAbove_X4_stonesIn rfl (by decide) rfl rfl rfl (Nat.le_of_ble_eq_true rfl) ⟨Nat.zero_le _, Nat.zero_le _⟩ (fun r1 μ2 h => ?_)
  refine jw_istore (lw := [(4, .int _), (0, .ref _), (1, .int _), (2, .int _), (3, .int _)]) C.1 dX4_valueAbove_5 hN_4 rfl ?_
  refine jw_iload_n C.1 dX4_valueAbove_7 rfl 4 rfl ?_
  refine jw_istore (lw := [(5, .int _), (4, .int _), (0, .ref _), (1, .int _), (2, .int _), (3, .int _)]) C.1 dX4_valueAbove_8 hN_5 rfl ?_
  refine jw_iconst C.1 dX4_valueAbove_10 ki_0 ?_
  refine jw_istore (lw := [(6, .int _), (5, .int _), (4, .int _), (0, .ref _), (1, .int _), (2, .int _), (3, .int _)]) C.1 dX4_valueAbove_11 hN_6 rfl ?_
  obtain ⟨n, h⟩ := h
  refine jw_sub [3, 4, 5, 2, 1, 0] rfl ?_
  exact jbX4_valueAbove_13 hN C n _ _ _ _ _ _ h
set_option maxRecDepth 100000 in
set_option maxHeartbeats 4000000 in
theorem ctX4_valueInLeaf (l : Launch) (a1 : Int32) (μ : Mem) (Q : Int32 → Mem → Prop) (h : wpX4_valueInLeaf a1 μ Q) : Con l yX4_valueInLeaf wsX4_valueInLeaf rmX4_valueInLeaf shT (fun ad => [.ref (ad 0), .int a1]) μ (pI Q) := by
  refine Con.mk (cc := cX4_valueInLeaf) (maxL := 2) (ret := (some .int)) (own := RX4) (by decide) rfl rfl (fun _ => Nat.le_of_ble_eq_true rfl) (fun K ad hN C => ?_)
  show JW K (0, 0) shT ad μ 0 [(0, .ref (ad 0)), (1, .int a1)] []
  unfold wpX4_valueInLeaf at h
  refine jw_iload_n C.1 dX4_valueInLeaf_0 rfl 1 rfl ?_
  refine jw_if_lt C.1 22 dX4_valueInLeaf_1 (by decide) (fun c => ?_) (fun c => ?_)
  · have h := h.1 c
    refine jw_bipush C.1 dX4_valueInLeaf_22 kb_m6 ?_
    exact jw_iret (Q := Q) C h dX4_valueInLeaf_24
  · have h := h.2 c
    refine jw_iload_n C.1 dX4_valueInLeaf_4 rfl 1 rfl ?_
    refine jw_aload_n C.1 dX4_valueInLeaf_5 rfl 0 rfl ?_
    refine jw_getR C.1 iwX4_valueInLeaf_X4 rfl shT_0 rfl 1 (by decide) rfl (List.mem_of_getElem? (i := 1) rfl) dX4_valueInLeaf_6 ?_
    refine jw_alenD C.1 rfl shT_2 rfl (v := 27) (by decide) dX4_valueInLeaf_9 ?_
    refine jw_icmp_ge C.1 22 dX4_valueInLeaf_10 (by decide) (fun c => ?_) (fun c => ?_)
    · have h := h.1 c
      refine jw_bipush C.1 dX4_valueInLeaf_22 kb_m6 ?_
      exact jw_iret (Q := Q) C h dX4_valueInLeaf_24
    · have h := h.2 c
      refine jw_aload_n C.1 dX4_valueInLeaf_13 rfl 0 rfl ?_
      refine jw_getR C.1 iwX4_valueInLeaf_X4 rfl shT_0 rfl 1 (by decide) rfl (List.mem_of_getElem? (i := 1) rfl) dX4_valueInLeaf_14 ?_
      refine jw_iload_n C.1 dX4_valueInLeaf_17 rfl 1 rfl ?_
      obtain ⟨hi, h⟩ := h
      refine jw_iald C.1 rfl shT_2 hi dX4_valueInLeaf_18 ?_
      refine jw_goto (tgt := 24) C.1 dX4_valueInLeaf_19 (by decide) ?_
      exact jw_iret (Q := Q) C h dX4_valueInLeaf_24
set_option maxRecDepth 100000 in
set_option maxHeartbeats 4000000 in
theorem jbX4_valueAsRead_14 {K : KT} {l : Launch} {ad : Nat → Nat} {Q : Int32 → Mem → Prop} (hN : kN K = 5) (C : CtxM K l cX4_valueAsRead RX4 wsX4_valueAsRead rmX4_valueAsRead shT ad (some .int) (pI Q)) : ∀ (n : Nat) (x1 : Int32) (x2 : Int32) (x3 : Int32) (x4 : Int32) (μ : Mem), bkX4_valueAsRead_14 Q n x1 x2 x3 x4 μ → JW K (0, 0) shT ad μ 14 [(0, .ref (ad 0)), (1, .int x1), (2, .int x2), (3, .int x3), (4, .int x4)] [] := by
  have hN_2 : 2 < kN K := by rw [hN]; decide
  have hN_3 : 3 < kN K := by rw [hN]; decide
  have hN_4 : 4 < kN K := by rw [hN]; decide
  intro n
  induction n with
  | zero =>
    intro x1 x2 x3 x4 μ h
    exact h.elim
  | succ n ih =>
    intro x1 x2 x3 x4 μ h
    unfold bkX4_valueAsRead_14 at h
    refine jw_iload C.1 dX4_valueAsRead_14 4 rfl ?_
    refine jw_iconst C.1 dX4_valueAsRead_16 ki_3 ?_
    refine jw_icmp_ge C.1 39 dX4_valueAsRead_17 (by decide) (fun c => ?_) (fun c => ?_)
    · have h := h.1 c
      refine jw_iload_n C.1 dX4_valueAsRead_39 rfl 2 rfl ?_
      exact jw_iret (Q := Q) C h dX4_valueAsRead_40
    · have h := h.2 c
      refine jw_aload_n C.1 dX4_valueAsRead_20 rfl 0 rfl ?_
      refine jw_iload_n C.1 dX4_valueAsRead_21 rfl 3 rfl ?_
      refine jw_iload_n C.1 dX4_valueAsRead_22 rfl 1 rfl ?_
      refine jw_iload_n C.1 dX4_valueAsRead_23 rfl 2 rfl ?_
      refine jw_cVI (rest := []) C.1 dX4_valueAsRead_24 em_shT_id (ctX4_valueAbove l _ _ _ _ _ h) miX4_valueAbove shT_0 rfl gX4_valueAsRead_X4_valueAbove rfl (by decide) rfl rfl rfl (Nat.le_of_ble_eq_true rfl) ⟨Nat.zero_le _, Nat.zero_le _⟩ (fun r4 μ5 h => ?_)
      refine jw_istore_n (lw := [(2, .int _), (0, .ref _), (1, .int _), (3, .int _), (4, .int _)]) C.1 dX4_valueAsRead_27 rfl hN_2 rfl ?_
      refine jw_iload_n C.1 dX4_valueAsRead_28 rfl 3 rfl ?_
      refine jw_eSI (rest := []) C.1 dX4_valueAsRead_29 (ctX2_parent l _ _ h _) miX2_parent gX4_valueAsRead_X2_parent (by decide) rfl rfl rfl (Nat.le_of_ble_eq_true rfl) ⟨Nat.zero_le _, Nat.zero_le _⟩ (fun r6 h => ?_)
      refine jw_istore_n (lw := [(3, .int _), (2, .int _), (0, .ref _), (1, .int _), (4, .int _)]) C.1 dX4_valueAsRead_32 rfl hN_3 rfl ?_
      refine jw_iinc (lw := [(4, .int _), (3, .int _), (2, .int _), (0, .ref _), (1, .int _)]) (q := 4) C.1 dX4_valueAsRead_33 rfl (ai_1 _) hN_4 rfl ?_
      have h := h _ rfl
      refine jw_goto (tgt := 14) C.1 dX4_valueAsRead_36 (by decide) ?_
      refine jw_sub [3, 4, 2, 1, 0] rfl ?_
      exact ih _ _ _ _ _ h
set_option maxRecDepth 100000 in
set_option maxHeartbeats 4000000 in
theorem ctX4_valueAsRead (l : Launch) (a1 : Int32) (μ : Mem) (Q : Int32 → Mem → Prop) (h : wpX4_valueAsRead a1 μ Q) : Con l yX4_valueAsRead wsX4_valueAsRead rmX4_valueAsRead shT (fun ad => [.ref (ad 0), .int a1]) μ (pI Q) := by
  refine Con.mk (cc := cX4_valueAsRead) (maxL := 5) (ret := (some .int)) (own := RX4) (by decide) rfl rfl (fun _ => Nat.le_of_ble_eq_true rfl) (fun K ad hN C => ?_)
  show JW K (0, 0) shT ad μ 0 [(0, .ref (ad 0)), (1, .int a1)] []
  have hN_2 : 2 < kN K := by rw [hN]; decide
  have hN_3 : 3 < kN K := by rw [hN]; decide
  have hN_4 : 4 < kN K := by rw [hN]; decide
  unfold wpX4_valueAsRead at h
  refine jw_aload_n C.1 dX4_valueAsRead_0 rfl 0 rfl ?_
  refine jw_iload_n C.1 dX4_valueAsRead_1 rfl 1 rfl ?_
  refine jw_cVI (rest := []) C.1 dX4_valueAsRead_2 em_shT_id (ctX4_valueInLeaf l _ _ _ h) miX4_valueInLeaf shT_0 rfl gX4_valueAsRead_X4_valueInLeaf rfl (by decide) rfl rfl rfl (Nat.le_of_ble_eq_true rfl) ⟨Nat.zero_le _, Nat.zero_le _⟩ (fun r1 μ2 h => ?_)
  refine jw_istore_n (lw := [(2, .int _), (0, .ref _), (1, .int _)]) C.1 dX4_valueAsRead_5 rfl hN_2 rfl ?_
  refine jw_iload_n C.1 dX4_valueAsRead_6 rfl 2 rfl ?_
  refine jw_eSI (rest := []) C.1 dX4_valueAsRead_7 (ctX2_lowNodeOf l _ _ h _) miX2_lowNodeOf gX4_valueAsRead_X2_lowNodeOf (by decide) rfl rfl rfl (Nat.le_of_ble_eq_true rfl) ⟨Nat.zero_le _, Nat.zero_le _⟩ (fun r3 h => ?_)
  refine jw_istore_n (lw := [(3, .int _), (2, .int _), (0, .ref _), (1, .int _)]) C.1 dX4_valueAsRead_10 rfl hN_3 rfl ?_
  refine jw_iconst C.1 dX4_valueAsRead_11 ki_0 ?_
  refine jw_istore (lw := [(4, .int _), (3, .int _), (2, .int _), (0, .ref _), (1, .int _)]) C.1 dX4_valueAsRead_12 hN_4 rfl ?_
  obtain ⟨n, h⟩ := h
  refine jw_sub [3, 4, 2, 1, 0] rfl ?_
  exact jbX4_valueAsRead_14 hN C n _ _ _ _ _ h
set_option maxRecDepth 100000 in
set_option maxHeartbeats 4000000 in
theorem jbX4_keysPresent_4 {K : KT} {l : Launch} {ad : Nat → Nat} {Q : Int32 → Mem → Prop} (hN : kN K = 3) (C : CtxM K l cX4_keysPresent RX4 wsX4_keysPresent rmX4_keysPresent shT ad (some .int) (pI Q)) : ∀ (n : Nat) (x1 : Int32) (x2 : Int32) (μ : Mem), bkX4_keysPresent_4 Q n x1 x2 μ → JW K (0, 0) shT ad μ 4 [(0, .ref (ad 0)), (1, .int x1), (2, .int x2)] [] := by
  have hN_1 : 1 < kN K := by rw [hN]; decide
  have hN_2 : 2 < kN K := by rw [hN]; decide
  intro n
  induction n with
  | zero =>
    intro x1 x2 μ h
    exact h.elim
  | succ n ih =>
    intro x1 x2 μ h
    unfold bkX4_keysPresent_4 at h
    refine jw_iload_n C.1 dX4_keysPresent_4 rfl 2 rfl ?_
    refine jw_bipush C.1 dX4_keysPresent_5 kb_27 ?_
    refine jw_icmp_ge C.1 29 dX4_keysPresent_7 (by decide) (fun c => ?_) (fun c => ?_)
    · have h := h.1 c
      refine jw_iload_n C.1 dX4_keysPresent_29 rfl 1 rfl ?_
      exact jw_iret (Q := Q) C h dX4_keysPresent_30
    · have h := h.2 c
      refine jw_aload_n C.1 dX4_keysPresent_10 rfl 0 rfl ?_
      refine jw_iload_n C.1 dX4_keysPresent_11 rfl 2 rfl ?_
      refine jw_cVI (rest := []) C.1 dX4_keysPresent_12 em_shT_id (ctX4_valueAsRead l _ _ _ h) miX4_valueAsRead shT_0 rfl gX4_keysPresent_X4_valueAsRead rfl (by decide) rfl rfl rfl (Nat.le_of_ble_eq_true rfl) ⟨Nat.zero_le _, Nat.zero_le _⟩ (fun r1 μ2 h => ?_)
      refine jw_bipush C.1 dX4_keysPresent_15 kb_m6 ?_
      refine jw_icmp_eq C.1 23 dX4_keysPresent_17 (by decide) (fun c => ?_) (fun c => ?_)
      · have h := h.1 c
        refine jw_iinc (lw := [(2, .int _), (0, .ref _), (1, .int _)]) (q := 2) C.1 dX4_keysPresent_23 rfl (ai_1 _) hN_2 rfl ?_
        have h := h _ rfl
        refine jw_goto (tgt := 4) C.1 dX4_keysPresent_26 (by decide) ?_
        refine jw_sub [1, 2, 0] rfl ?_
        exact ih _ _ _ h
      · have h := h.2 c
        refine jw_iinc (lw := [(1, .int _), (0, .ref _), (2, .int _)]) (q := 1) C.1 dX4_keysPresent_20 rfl (ai_1 _) hN_1 rfl ?_
        have h := h _ rfl
        refine jw_iinc (lw := [(2, .int _), (1, .int _), (0, .ref _)]) (q := 2) C.1 dX4_keysPresent_23 rfl (ai_1 _) hN_2 rfl ?_
        have h := h _ rfl
        refine jw_goto (tgt := 4) C.1 dX4_keysPresent_26 (by decide) ?_
        refine jw_sub [2, 1, 0] rfl ?_
        exact ih _ _ _ h
set_option maxRecDepth 100000 in
set_option maxHeartbeats 4000000 in
theorem ctX4_keysPresent (l : Launch) (μ : Mem) (Q : Int32 → Mem → Prop) (h : wpX4_keysPresent μ Q) : Con l yX4_keysPresent wsX4_keysPresent rmX4_keysPresent shT (fun ad => [.ref (ad 0)]) μ (pI Q) := by
  refine Con.mk (cc := cX4_keysPresent) (maxL := 3) (ret := (some .int)) (own := RX4) (by decide) rfl rfl (fun _ => Nat.le_of_ble_eq_true rfl) (fun K ad hN C => ?_)
  show JW K (0, 0) shT ad μ 0 [(0, .ref (ad 0))] []
  have hN_1 : 1 < kN K := by rw [hN]; decide
  have hN_2 : 2 < kN K := by rw [hN]; decide
  unfold wpX4_keysPresent at h
  refine jw_iconst C.1 dX4_keysPresent_0 ki_0 ?_
  refine jw_istore_n (lw := [(1, .int _), (0, .ref _)]) C.1 dX4_keysPresent_1 rfl hN_1 rfl ?_
  refine jw_iconst C.1 dX4_keysPresent_2 ki_0 ?_
  refine jw_istore_n (lw := [(2, .int _), (1, .int _), (0, .ref _)]) C.1 dX4_keysPresent_3 rfl hN_2 rfl ?_
  obtain ⟨n, h⟩ := h
  refine jw_sub [2, 1, 0] rfl ?_
  exact jbX4_keysPresent_4 hN C n _ _ _ h
set_option maxRecDepth 100000 in
set_option maxHeartbeats 4000000 in
theorem ctX4_noteRead (l : Launch) (μ : Mem) (Q : Mem → Prop) (h : wpX4_noteRead μ Q) : Con l yX4_noteRead wsX4_noteRead rmX4_noteRead shT (fun ad => [.ref (ad 0)]) μ (pV Q) := by
  refine Con.mk (cc := cX4_noteRead) (maxL := 1) (ret := none) (own := RX4) (by decide) rfl rfl (fun _ => Nat.le_of_ble_eq_true rfl) (fun K ad hN C => ?_)
  show JW K (0, 0) shT ad μ 0 [(0, .ref (ad 0))] []
  unfold wpX4_noteRead at h
  refine jw_aload_n C.1 dX4_noteRead_0 rfl 0 rfl ?_
  refine jw_dup C.1 dX4_noteRead_1 rfl ?_
  refine jw_getI C.1 iwX4_noteRead_X4 rfl shT_0 rfl 9 (by decide) rfl (List.mem_of_getElem? (i := 1) rfl) dX4_noteRead_2 ?_
  refine jw_iconst C.1 dX4_noteRead_5 ki_3 ?_
  refine jw_iadd C.1 dX4_noteRead_6 ?_
  refine jw_putI C.1 iwX4_noteRead_X4 rfl shT_0 rfl 9 (by decide) tyX4 tyX4_ok nmX4 (j := 2) rfl fuX4_9 (List.mem_of_getElem? (i := 1) rfl) rfl (ty := .int) (by decide +kernel) rfl rfl dX4_noteRead_7 ?_
  have h := h _ rfl
  exact jw_vret C h dX4_noteRead_10
set_option maxRecDepth 100000 in
set_option maxHeartbeats 4000000 in
theorem ctX4_numberOf (l : Launch) (n1 : Nat) (a1 : Int32) (μ : Mem) (Q : Int32 → Mem → Prop) (h : wpX4_numberOf n1 a1 μ Q) : Con l yX4_numberOf wsX4_numberOf rmX4_numberOf (sh1 n1) (fun ad => [.ref (ad 0), .int a1]) μ (pI Q) := by
  refine Con.mk (cc := cX4_numberOf) (maxL := 2) (ret := (some .int)) (own := RX4) (by decide) rfl rfl (fun _ => Nat.le_of_ble_eq_true rfl) (fun K ad hN C => ?_)
  show JW K (0, 0) (sh1 n1) ad μ 0 [(0, .ref (ad 0)), (1, .int a1)] []
  unfold wpX4_numberOf at h
  refine jw_iload_n C.1 dX4_numberOf_0 rfl 1 rfl ?_
  refine jw_if_lt C.1 16 dX4_numberOf_1 (by decide) (fun c => ?_) (fun c => ?_)
  · have h := h.1 c
    refine jw_iconst C.1 dX4_numberOf_16 ki_0 ?_
    exact jw_iret (Q := Q) C h dX4_numberOf_17
  · have h := h.2 c
    refine jw_iload_n C.1 dX4_numberOf_4 rfl 1 rfl ?_
    refine jw_aload_n C.1 dX4_numberOf_5 rfl 0 rfl ?_
    refine jw_alenD C.1 rfl rfl rfl (v := Int32.ofNat n1) rfl dX4_numberOf_6 ?_
    refine jw_icmp_ge C.1 16 dX4_numberOf_7 (by decide) (fun c => ?_) (fun c => ?_)
    · have h := h.1 c
      refine jw_iconst C.1 dX4_numberOf_16 ki_0 ?_
      exact jw_iret (Q := Q) C h dX4_numberOf_17
    · have h := h.2 c
      refine jw_aload_n C.1 dX4_numberOf_10 rfl 0 rfl ?_
      refine jw_iload_n C.1 dX4_numberOf_11 rfl 1 rfl ?_
      obtain ⟨hi, h⟩ := h
      refine jw_iald C.1 rfl rfl hi dX4_numberOf_12 ?_
      refine jw_goto (tgt := 17) C.1 dX4_numberOf_13 (by decide) ?_
      exact jw_iret (Q := Q) C h dX4_numberOf_17
set_option maxRecDepth 100000 in
set_option maxHeartbeats 4000000 in
theorem ctX4_stones (l : Launch) (μ : Mem) (Q : Int32 → Mem → Prop) (h : wpX4_stones μ Q) : Con l yX4_stones wsX4_stones rmX4_stones shT (fun ad => [.ref (ad 0)]) μ (pI Q) := by
  refine Con.mk (cc := cX4_stones) (maxL := 1) (ret := (some .int)) (own := RX4) (by decide) rfl rfl (fun _ => Nat.le_of_ble_eq_true rfl) (fun K ad hN C => ?_)
  show JW K (0, 0) shT ad μ 0 [(0, .ref (ad 0))] []
  unfold wpX4_stones at h
  refine jw_aload_n C.1 dX4_stones_0 rfl 0 rfl ?_
  refine jw_getR C.1 iwX4_stones_X4 rfl shT_0 rfl 2 (by decide) rfl (List.mem_of_getElem? (i := 1) rfl) dX4_stones_1 ?_
  refine jw_gSI (rest := []) C.1 dX4_stones_4 (e1 3) em_shT_sh1_13_e1_3 (ctX4_total l _ _ _ h) miX4_total gX4_stones_X4_total (by decide) rfl rfl rfl (Nat.le_of_ble_eq_true rfl) ⟨Nat.zero_le _, Nat.zero_le _⟩ (fun r1 μ2 h => ?_)
  have h := h _ rfl
  exact jw_iret (Q := Q) C h dX4_stones_7
set_option maxRecDepth 100000 in
set_option maxHeartbeats 4000000 in
theorem ctX4_stonesApplied (l : Launch) (μ : Mem) (Q : Int32 → Mem → Prop) (h : wpX4_stonesApplied μ Q) : Con l yX4_stonesApplied wsX4_stonesApplied rmX4_stonesApplied shT (fun ad => [.ref (ad 0)]) μ (pI Q) := by
  refine Con.mk (cc := cX4_stonesApplied) (maxL := 1) (ret := (some .int)) (own := RX4) (by decide) rfl rfl (fun _ => Nat.le_of_ble_eq_true rfl) (fun K ad hN C => ?_)
  show JW K (0, 0) shT ad μ 0 [(0, .ref (ad 0))] []
  unfold wpX4_stonesApplied at h
  refine jw_aload_n C.1 dX4_stonesApplied_0 rfl 0 rfl ?_
  refine jw_getI C.1 iwX4_stonesApplied_X4 rfl shT_0 rfl 8 (by decide) rfl (List.mem_of_getElem? (i := 1) rfl) dX4_stonesApplied_1 ?_
  exact jw_iret (Q := Q) C h dX4_stonesApplied_4
set_option maxRecDepth 100000 in
set_option maxHeartbeats 4000000 in
theorem ctX4_stonesJoined (l : Launch) (a1 : Int32) (μ : Mem) (Q : Int32 → Mem → Prop) (h : wpX4_stonesJoined a1 μ Q) : Con l yX4_stonesJoined wsX4_stonesJoined rmX4_stonesJoined shT (fun ad => [.ref (ad 0), .int a1]) μ (pI Q) := by
  refine Con.mk (cc := cX4_stonesJoined) (maxL := 2) (ret := (some .int)) (own := RX4) (by decide) rfl rfl (fun _ => Nat.le_of_ble_eq_true rfl) (fun K ad hN C => ?_)
  show JW K (0, 0) shT ad μ 0 [(0, .ref (ad 0)), (1, .int a1)] []
  unfold wpX4_stonesJoined at h
  refine jw_aload_n C.1 dX4_stonesJoined_0 rfl 0 rfl ?_
  refine jw_getR C.1 iwX4_stonesJoined_X4 rfl shT_0 rfl 6 (by decide) rfl (List.mem_of_getElem? (i := 1) rfl) dX4_stonesJoined_1 ?_
  refine jw_iload_n C.1 dX4_stonesJoined_4 rfl 1 rfl ?_
  refine jw_gSI (rest := []) C.1 dX4_stonesJoined_5 (e1 7) em_shT_sh1_13_e1_7 (ctX4_numberOf l _ _ _ _ h) miX4_numberOf gX4_stonesJoined_X4_numberOf (by decide) rfl rfl rfl (Nat.le_of_ble_eq_true rfl) ⟨Nat.zero_le _, Nat.zero_le _⟩ (fun r1 μ2 h => ?_)
  have h := h _ rfl
  exact jw_iret (Q := Q) C h dX4_stonesJoined_8
set_option maxRecDepth 100000 in
set_option maxHeartbeats 4000000 in
theorem ctX4_stonesSent (l : Launch) (μ : Mem) (Q : Int32 → Mem → Prop) (h : wpX4_stonesSent μ Q) : Con l yX4_stonesSent wsX4_stonesSent rmX4_stonesSent shT (fun ad => [.ref (ad 0)]) μ (pI Q) := by
  refine Con.mk (cc := cX4_stonesSent) (maxL := 1) (ret := (some .int)) (own := RX4) (by decide) rfl rfl (fun _ => Nat.le_of_ble_eq_true rfl) (fun K ad hN C => ?_)
  show JW K (0, 0) shT ad μ 0 [(0, .ref (ad 0))] []
  unfold wpX4_stonesSent at h
  refine jw_aload_n C.1 dX4_stonesSent_0 rfl 0 rfl ?_
  refine jw_getI C.1 iwX4_stonesSent_X4 rfl shT_0 rfl 7 (by decide) rfl (List.mem_of_getElem? (i := 1) rfl) dX4_stonesSent_1 ?_
  exact jw_iret (Q := Q) C h dX4_stonesSent_4
set_option maxRecDepth 100000 in
set_option maxHeartbeats 4000000 in
theorem ctX4_stonesSunk (l : Launch) (a1 : Int32) (μ : Mem) (Q : Int32 → Mem → Prop) (h : wpX4_stonesSunk a1 μ Q) : Con l yX4_stonesSunk wsX4_stonesSunk rmX4_stonesSunk shT (fun ad => [.ref (ad 0), .int a1]) μ (pI Q) := by
  refine Con.mk (cc := cX4_stonesSunk) (maxL := 2) (ret := (some .int)) (own := RX4) (by decide) rfl rfl (fun _ => Nat.le_of_ble_eq_true rfl) (fun K ad hN C => ?_)
  show JW K (0, 0) shT ad μ 0 [(0, .ref (ad 0)), (1, .int a1)] []
  unfold wpX4_stonesSunk at h
  refine jw_aload_n C.1 dX4_stonesSunk_0 rfl 0 rfl ?_
  refine jw_getR C.1 iwX4_stonesSunk_X4 rfl shT_0 rfl 5 (by decide) rfl (List.mem_of_getElem? (i := 1) rfl) dX4_stonesSunk_1 ?_
  refine jw_iload_n C.1 dX4_stonesSunk_4 rfl 1 rfl ?_
  refine jw_gSI (rest := []) C.1 dX4_stonesSunk_5 (e1 6) em_shT_sh1_13_e1_6 (ctX4_numberOf l _ _ _ _ h) miX4_numberOf gX4_stonesSunk_X4_numberOf (by decide) rfl rfl rfl (Nat.le_of_ble_eq_true rfl) ⟨Nat.zero_le _, Nat.zero_le _⟩ (fun r1 μ2 h => ?_)
  have h := h _ rfl
  exact jw_iret (Q := Q) C h dX4_stonesSunk_8
set_option maxRecDepth 100000 in
set_option maxHeartbeats 4000000 in
theorem jbX4_stonesWith_10 {K : KT} {l : Launch} {ad : Nat → Nat} {Q : Int32 → Mem → Prop} (hN : kN K = 5) (C : CtxM K l cX4_stonesWith RX4 wsX4_stonesWith rmX4_stonesWith shT ad (some .int) (pI Q)) : ∀ (n : Nat) (x1 : Int32) (x2 : Int32) (x3 : Int32) (x4 : Int32) (μ : Mem), bkX4_stonesWith_10 Q n x1 x2 x3 x4 μ → JW K (0, 0) shT ad μ 10 [(0, .ref (ad 0)), (1, .int x1), (2, .int x2), (3, .int x3), (4, .int x4)] [] := by
  have hN_2 : 2 < kN K := by rw [hN]; decide
  have hN_3 : 3 < kN K := by rw [hN]; decide
  have hN_4 : 4 < kN K := by rw [hN]; decide
  intro n
  induction n with
  | zero =>
    intro x1 x2 x3 x4 μ h
    exact h.elim
  | succ n ih =>
    intro x1 x2 x3 x4 μ h
    unfold bkX4_stonesWith_10 at h
    refine jw_iload C.1 dX4_stonesWith_10 4 rfl ?_
    refine jw_iconst C.1 dX4_stonesWith_12 ki_3 ?_
    refine jw_icmp_ge C.1 37 dX4_stonesWith_13 (by decide) (fun c => ?_) (fun c => ?_)
    · have h := h.1 c
      refine jw_iload_n C.1 dX4_stonesWith_37 rfl 2 rfl ?_
      exact jw_iret (Q := Q) C h dX4_stonesWith_38
    · have h := h.2 c
      refine jw_iload_n C.1 dX4_stonesWith_16 rfl 2 rfl ?_
      refine jw_aload_n C.1 dX4_stonesWith_17 rfl 0 rfl ?_
      refine jw_iload_n C.1 dX4_stonesWith_18 rfl 3 rfl ?_
      refine jw_iload_n C.1 dX4_stonesWith_19 rfl 1 rfl ?_
      refine jw_iload_n C.1 dX4_stonesWith_20 rfl 1 rfl ?_
      refine jw_cVI (rest := [.int _]) C.1 dX4_stonesWith_21 em_shT_id (ctX4_stonesTouching l _ _ _ _ _ h) miX4_stonesTouching shT_0 rfl gX4_stonesWith_X4_stonesTouching rfl (by decide) rfl rfl rfl (Nat.le_of_ble_eq_true rfl) ⟨Nat.zero_le _, Nat.zero_le _⟩ (fun r2 μ3 h => ?_)
      refine jw_iadd C.1 dX4_stonesWith_24 ?_
      refine jw_istore_n (lw := [(2, .int _), (0, .ref _), (1, .int _), (3, .int _), (4, .int _)]) C.1 dX4_stonesWith_25 rfl hN_2 rfl ?_
      have h := h _ rfl
      refine jw_iload_n C.1 dX4_stonesWith_26 rfl 3 rfl ?_
      refine jw_eSI (rest := []) C.1 dX4_stonesWith_27 (ctX2_parent l _ _ h _) miX2_parent gX4_stonesWith_X2_parent (by decide) rfl rfl rfl (Nat.le_of_ble_eq_true rfl) ⟨Nat.zero_le _, Nat.zero_le _⟩ (fun r5 h => ?_)
      refine jw_istore_n (lw := [(3, .int _), (2, .int _), (0, .ref _), (1, .int _), (4, .int _)]) C.1 dX4_stonesWith_30 rfl hN_3 rfl ?_
      refine jw_iinc (lw := [(4, .int _), (3, .int _), (2, .int _), (0, .ref _), (1, .int _)]) (q := 4) C.1 dX4_stonesWith_31 rfl (ai_1 _) hN_4 rfl ?_
      have h := h _ rfl
      refine jw_goto (tgt := 10) C.1 dX4_stonesWith_34 (by decide) ?_
      refine jw_sub [3, 4, 2, 1, 0] rfl ?_
      exact ih _ _ _ _ _ h
set_option maxRecDepth 100000 in
set_option maxHeartbeats 4000000 in
theorem ctX4_stonesWith (l : Launch) (a1 : Int32) (μ : Mem) (Q : Int32 → Mem → Prop) (h : wpX4_stonesWith a1 μ Q) : Con l yX4_stonesWith wsX4_stonesWith rmX4_stonesWith shT (fun ad => [.ref (ad 0), .int a1]) μ (pI Q) := by
  refine Con.mk (cc := cX4_stonesWith) (maxL := 5) (ret := (some .int)) (own := RX4) (by decide) rfl rfl (fun _ => Nat.le_of_ble_eq_true rfl) (fun K ad hN C => ?_)
  show JW K (0, 0) shT ad μ 0 [(0, .ref (ad 0)), (1, .int a1)] []
  have hN_2 : 2 < kN K := by rw [hN]; decide
  have hN_3 : 3 < kN K := by rw [hN]; decide
  have hN_4 : 4 < kN K := by rw [hN]; decide
  unfold wpX4_stonesWith at h
  refine jw_iconst C.1 dX4_stonesWith_0 ki_0 ?_
  refine jw_istore_n (lw := [(2, .int _), (0, .ref _), (1, .int _)]) C.1 dX4_stonesWith_1 rfl hN_2 rfl ?_
  refine jw_iload_n C.1 dX4_stonesWith_2 rfl 2 rfl ?_
  refine jw_eSI (rest := []) C.1 dX4_stonesWith_3 (ctX2_lowNodeOf l _ _ h _) miX2_lowNodeOf gX4_stonesWith_X2_lowNodeOf (by decide) rfl rfl rfl (Nat.le_of_ble_eq_true rfl) ⟨Nat.zero_le _, Nat.zero_le _⟩ (fun r1 h => ?_)
  refine jw_istore_n (lw := [(3, .int _), (2, .int _), (0, .ref _), (1, .int _)]) C.1 dX4_stonesWith_6 rfl hN_3 rfl ?_
  refine jw_iconst C.1 dX4_stonesWith_7 ki_0 ?_
  refine jw_istore (lw := [(4, .int _), (3, .int _), (2, .int _), (0, .ref _), (1, .int _)]) C.1 dX4_stonesWith_8 hN_4 rfl ?_
  obtain ⟨n, h⟩ := h
  refine jw_sub [3, 4, 2, 1, 0] rfl ?_
  exact jbX4_stonesWith_10 hN C n _ _ _ _ _ h
set_option maxRecDepth 100000 in
set_option maxHeartbeats 4000000 in
theorem jbX4_sumAsRead_5 {K : KT} {l : Launch} {ad : Nat → Nat} {Q : Int32 → Mem → Prop} (hN : kN K = 6) (C : CtxM K l cX4_sumAsRead RX4 wsX4_sumAsRead rmX4_sumAsRead shT ad (some .int) (pI Q)) : ∀ (n : Nat) (x2 : Int32) (x3 : Int32) (x4 : Int32) (μ : Mem), bkX4_sumAsRead_5 Q n x2 x3 x4 μ → JW K (0, 0) shT ad μ 5 [(0, .ref (ad 0)), (2, .int x2), (3, .int x3), (4, .int x4)] [] := by
  have hN_3 : 3 < kN K := by rw [hN]; decide
  have hN_4 : 4 < kN K := by rw [hN]; decide
  have hN_5 : 5 < kN K := by rw [hN]; decide
  intro n
  induction n with
  | zero =>
    intro x2 x3 x4 μ h
    exact h.elim
  | succ n ih =>
    intro x2 x3 x4 μ h
    unfold bkX4_sumAsRead_5 at h
    refine jw_iload C.1 dX4_sumAsRead_5 3 rfl ?_
    refine jw_iload_n C.1 dX4_sumAsRead_7 rfl 1 rfl ?_
    refine jw_icmp_gt C.1 37 dX4_sumAsRead_8 (by decide) (fun c => ?_) (fun c => ?_)
    · have h := h.1 c
      refine jw_iload_n C.1 dX4_sumAsRead_37 rfl 2 rfl ?_
      exact jw_iret (Q := Q) C h dX4_sumAsRead_38
    · have h := h.2 c
      refine jw_aload_n C.1 dX4_sumAsRead_11 rfl 0 rfl ?_
      refine jw_iload C.1 dX4_sumAsRead_12 3 rfl ?_
      refine jw_cVI (rest := []) C.1 dX4_sumAsRead_14 em_shT_id (ctX4_valueAsRead l _ _ _ h) miX4_valueAsRead shT_0 rfl gX4_sumAsRead_X4_valueAsRead rfl (by decide) rfl rfl rfl (Nat.le_of_ble_eq_true rfl) ⟨Nat.zero_le _, Nat.zero_le _⟩ (fun r1 μ2 h => ?_)
      refine jw_istore (lw := [(5, .int _), (0, .ref _), (2, .int _), (3, .int _), (4, .int _)]) C.1 dX4_sumAsRead_17 hN_5 rfl ?_
      refine jw_iload C.1 dX4_sumAsRead_19 0 rfl ?_
      refine jw_bipush C.1 dX4_sumAsRead_21 kb_m6 ?_
      refine jw_icmp_eq C.1 31 dX4_sumAsRead_23 (by decide) (fun c => ?_) (fun c => ?_)
      · have h := h.1 c
        refine jw_iinc (lw := [(4, .int _), (5, .int _), (0, .ref _), (2, .int _), (3, .int _)]) (q := 4) C.1 dX4_sumAsRead_31 rfl (ai_1 _) hN_4 rfl ?_
        have h := h _ rfl
        refine jw_goto (tgt := 5) C.1 dX4_sumAsRead_34 (by decide) ?_
        refine jw_sub [2, 3, 4, 0] rfl ?_
        exact ih _ _ _ _ h
      · have h := h.2 c
        refine jw_iload_n C.1 dX4_sumAsRead_26 rfl 3 rfl ?_
        refine jw_iload C.1 dX4_sumAsRead_27 0 rfl ?_
        refine jw_iadd C.1 dX4_sumAsRead_29 ?_
        refine jw_istore_n (lw := [(3, .int _), (5, .int _), (0, .ref _), (2, .int _), (4, .int _)]) C.1 dX4_sumAsRead_30 rfl hN_3 rfl ?_
        have h := h _ rfl
        refine jw_iinc (lw := [(4, .int _), (3, .int _), (5, .int _), (0, .ref _), (2, .int _)]) (q := 4) C.1 dX4_sumAsRead_31 rfl (ai_1 _) hN_4 rfl ?_
        have h := h _ rfl
        refine jw_goto (tgt := 5) C.1 dX4_sumAsRead_34 (by decide) ?_
        refine jw_sub [3, 4, 1, 0] rfl ?_
        exact ih _ _ _ _ h
set_option maxRecDepth 100000 in
set_option maxHeartbeats 4000000 in
theorem ctX4_sumAsRead (l : Launch) (a1 : Int32) (a2 : Int32) (μ : Mem) (Q : Int32 → Mem → Prop) (h : wpX4_sumAsRead a1 a2 μ Q) : Con l yX4_sumAsRead wsX4_sumAsRead rmX4_sumAsRead shT (fun ad => [.ref (ad 0), .int a1, .int a2]) μ (pI Q) := by
  refine Con.mk (cc := cX4_sumAsRead) (maxL := 6) (ret := (some .int)) (own := RX4) (by decide) rfl rfl (fun _ => Nat.le_of_ble_eq_true rfl) (fun K ad hN C => ?_)
  show JW K (0, 0) shT ad μ 0 [(0, .ref (ad 0)), (1, .int a1), (2, .int a2)] []
  have hN_3 : 3 < kN K := by rw [hN]; decide
  have hN_4 : 4 < kN K := by rw [hN]; decide
  have hN_5 : 5 < kN K := by rw [hN]; decide
  unfold wpX4_sumAsRead at h
  refine jw_iconst C.1 dX4_sumAsRead_0 ki_0 ?_
  refine jw_istore_n (lw := [(3, .int _), (0, .ref _), (1, .int _), (2, .int _)]) C.1 dX4_sumAsRead_1 rfl hN_3 rfl ?_
  refine jw_iload_n C.1 dX4_sumAsRead_2 rfl 2 rfl ?_
  refine jw_istore (lw := [(4, .int _), (3, .int _), (0, .ref _), (1, .int _), (2, .int _)]) C.1 dX4_sumAsRead_3 hN_4 rfl ?_
  obtain ⟨n, h⟩ := h
  refine jw_sub [2, 4, 1, 0] rfl ?_
  exact jbX4_sumAsRead_5 hN C n _ _ _ _ h
set_option maxRecDepth 100000 in
set_option maxHeartbeats 4000000 in
theorem ctX4_timesSunk (l : Launch) (a1 : Int32) (μ : Mem) (Q : Int32 → Mem → Prop) (h : wpX4_timesSunk a1 μ Q) : Con l yX4_timesSunk wsX4_timesSunk rmX4_timesSunk shT (fun ad => [.ref (ad 0), .int a1]) μ (pI Q) := by
  refine Con.mk (cc := cX4_timesSunk) (maxL := 2) (ret := (some .int)) (own := RX4) (by decide) rfl rfl (fun _ => Nat.le_of_ble_eq_true rfl) (fun K ad hN C => ?_)
  show JW K (0, 0) shT ad μ 0 [(0, .ref (ad 0)), (1, .int a1)] []
  unfold wpX4_timesSunk at h
  refine jw_aload_n C.1 dX4_timesSunk_0 rfl 0 rfl ?_
  refine jw_getR C.1 iwX4_timesSunk_X4 rfl shT_0 rfl 4 (by decide) rfl (List.mem_of_getElem? (i := 1) rfl) dX4_timesSunk_1 ?_
  refine jw_iload_n C.1 dX4_timesSunk_4 rfl 1 rfl ?_
  refine jw_gSI (rest := []) C.1 dX4_timesSunk_5 (e1 5) em_shT_sh1_13_e1_5 (ctX4_numberOf l _ _ _ _ h) miX4_numberOf gX4_timesSunk_X4_numberOf (by decide) rfl rfl rfl (Nat.le_of_ble_eq_true rfl) ⟨Nat.zero_le _, Nat.zero_le _⟩ (fun r1 μ2 h => ?_)
  have h := h _ rfl
  exact jw_iret (Q := Q) C h dX4_timesSunk_8
set_option maxRecDepth 100000 in
set_option maxHeartbeats 4000000 in
theorem jbX5_carryOut_36 {K : KT} {l : Launch} {ad : Nat → Nat} {Q : Int32 → Mem → Prop} (hN : kN K = 3) (C : CtxM K l cX5_carryOut RX5 wsX5_carryOut rmX5_carryOut shX ad (some .int) (pI Q)) : ∀ (n : Nat) (x1 : Int32) (x2 : Int32) (μ : Mem), bkX5_carryOut_36 Q n x1 x2 μ → JW K (0, 0) shX ad μ 36 [(0, .ref (ad 0)), (1, .int x1), (2, .int x2)] [] := by
  have hN_1 : 1 < kN K := by rw [hN]; decide
  have hN_2 : 2 < kN K := by rw [hN]; decide
  intro n
  induction n with
  | zero =>
    intro x1 x2 μ h
    exact h.elim
  | succ n ih =>
    intro x1 x2 μ h
    unfold bkX5_carryOut_36 at h
    refine jw_iload_n C.1 dX5_carryOut_36 rfl 2 rfl ?_
    refine jw_iload_n C.1 dX5_carryOut_37 rfl 1 rfl ?_
    refine jw_icmp_ge C.1 62 dX5_carryOut_38 (by decide) (fun c => ?_) (fun c => ?_)
    · have h := h.1 c
      refine jw_aload_n C.1 dX5_carryOut_62 rfl 0 rfl ?_
      refine jw_getR C.1 iwX5_carryOut_X5 rfl shX_0 rfl 5 (by decide) rfl (List.mem_of_getElem? (i := 1) rfl) dX5_carryOut_63 ?_
      refine jw_gVV (rest := []) C.1 dX5_carryOut_66 (e1 85) em_shX_shP_e1_85 (ctX1_clear l _ _ h) miX1_clear shX_85 rfl gX5_carryOut_X1_clear rfl (by decide) rfl rfl rfl (Nat.le_of_ble_eq_true rfl) ⟨Nat.zero_le _, Nat.zero_le _⟩ (fun μ11 h => ?_)
      have h := h _ rfl
      refine jw_iload_n C.1 dX5_carryOut_69 rfl 1 rfl ?_
      exact jw_iret (Q := Q) C h dX5_carryOut_70
    · have h := h.2 c
      refine jw_aload_n C.1 dX5_carryOut_41 rfl 0 rfl ?_
      refine jw_getR C.1 iwX5_carryOut_X5 rfl shX_0 rfl 0 (by decide) rfl (List.mem_of_getElem? (i := 3) rfl) dX5_carryOut_42 ?_
      refine jw_aload_n C.1 dX5_carryOut_45 rfl 0 rfl ?_
      refine jw_getR C.1 iwX5_carryOut_X5 rfl shX_0 rfl 5 (by decide) rfl (List.mem_of_getElem? (i := 1) rfl) dX5_carryOut_46 ?_
      refine jw_iload_n C.1 dX5_carryOut_49 rfl 2 rfl ?_
      refine jw_gVI (rest := [.ref _]) C.1 dX5_carryOut_50 (e1 85) em_shX_shP_e1_85 (ctX1_order l _ _ _ h) miX1_order shX_85 rfl gX5_carryOut_X1_order rfl (by decide) rfl rfl rfl (Nat.le_of_ble_eq_true rfl) ⟨Nat.zero_le _, Nat.zero_le _⟩ (fun r13 μ14 h => ?_)
      have h := h _ rfl
      refine jw_gVV (rest := []) C.1 dX5_carryOut_53 (e1 1) em_shX_shT_e1_1 (ctX4_drop l _ _ _ h) miX4_drop shX_1 rfl gX5_carryOut_X4_drop rfl (by decide) rfl rfl rfl (Nat.le_of_ble_eq_true rfl) ⟨Nat.zero_le _, Nat.zero_le _⟩ (fun μ17 h => ?_)
      have h := h _ rfl
      refine jw_iinc (lw := [(2, .int _), (0, .ref _), (1, .int _)]) (q := 2) C.1 dX5_carryOut_56 rfl (ai_1 _) hN_2 rfl ?_
      have h := h _ rfl
      refine jw_goto (tgt := 36) C.1 dX5_carryOut_59 (by decide) ?_
      refine jw_sub [1, 2, 0] rfl ?_
      exact ih _ _ _ h
set_option maxRecDepth 100000 in
set_option maxHeartbeats 4000000 in
theorem ctX5_carryOut (l : Launch) (μ : Mem) (Q : Int32 → Mem → Prop) (h : wpX5_carryOut μ Q) : Con l yX5_carryOut wsX5_carryOut rmX5_carryOut shX (fun ad => [.ref (ad 0)]) μ (pI Q) := by
  refine Con.mk (cc := cX5_carryOut) (maxL := 3) (ret := (some .int)) (own := RX5) (by decide) rfl rfl (fun _ => Nat.le_of_ble_eq_true rfl) (fun K ad hN C => ?_)
  show JW K (0, 0) shX ad μ 0 [(0, .ref (ad 0))] []
  have hN_1 : 1 < kN K := by rw [hN]; decide
  have hN_2 : 2 < kN K := by rw [hN]; decide
  unfold wpX5_carryOut at h
  refine jw_aload_n C.1 dX5_carryOut_0 rfl 0 rfl ?_
  refine jw_getR C.1 iwX5_carryOut_X5 rfl shX_0 rfl 5 (by decide) rfl (List.mem_of_getElem? (i := 1) rfl) dX5_carryOut_1 ?_
  refine jw_gVI (rest := []) C.1 dX5_carryOut_4 (e1 85) em_shX_shP_e1_85 (ctX1_readOrders l _ _ h) miX1_readOrders shX_85 rfl gX5_carryOut_X1_readOrders rfl (by decide) rfl rfl rfl (Nat.le_of_ble_eq_true rfl) ⟨Nat.zero_le _, Nat.zero_le _⟩ (fun r1 μ2 h => ?_)
  have h := h _ rfl
  refine jw_bipush C.1 dX5_carryOut_7 kb_m6 ?_
  refine jw_icmp_eq C.1 15 dX5_carryOut_9 (by decide) (fun c => ?_) (fun c => ?_)
  · have h := h.1 c
    refine jw_aload_n C.1 dX5_carryOut_15 rfl 0 rfl ?_
    refine jw_getR C.1 iwX5_carryOut_X5 rfl shX_0 rfl 2 (by decide) rfl (List.mem_of_getElem? (i := 2) rfl) dX5_carryOut_16 ?_
    refine jw_aload_n C.1 dX5_carryOut_19 rfl 0 rfl ?_
    refine jw_getR C.1 iwX5_carryOut_X5 rfl shX_0 rfl 0 (by decide) rfl (List.mem_of_getElem? (i := 3) rfl) dX5_carryOut_20 ?_
    refine jw_gVV (rest := []) C.1 dX5_carryOut_23 (e2 50 17 1) em_shX_shHT_e2_50_17_1 (ctX0_record l _ _ h) miX0_record shX_17 rfl gX5_carryOut_X0_record rfl (by decide) rfl rfl rfl (Nat.le_of_ble_eq_true rfl) ⟨Nat.zero_le _, Nat.zero_le _⟩ (fun μ5 h => ?_)
    have h := h _ rfl
    refine jw_aload_n C.1 dX5_carryOut_26 rfl 0 rfl ?_
    refine jw_getR C.1 iwX5_carryOut_X5 rfl shX_0 rfl 5 (by decide) rfl (List.mem_of_getElem? (i := 1) rfl) dX5_carryOut_27 ?_
    refine jw_gVI (rest := []) C.1 dX5_carryOut_30 (e1 85) em_shX_shP_e1_85 (ctX1_orders l _ _ h) miX1_orders shX_85 rfl gX5_carryOut_X1_orders rfl (by decide) rfl rfl rfl (Nat.le_of_ble_eq_true rfl) ⟨Nat.zero_le _, Nat.zero_le _⟩ (fun r7 μ8 h => ?_)
    have h := h _ rfl
    refine jw_istore_n (lw := [(1, .int _), (0, .ref _)]) C.1 dX5_carryOut_33 rfl hN_1 rfl ?_
    refine jw_iconst C.1 dX5_carryOut_34 ki_0 ?_
    refine jw_istore_n (lw := [(2, .int _), (1, .int _), (0, .ref _)]) C.1 dX5_carryOut_35 rfl hN_2 rfl ?_
    obtain ⟨n, h⟩ := h
    refine jw_sub [2, 1, 0] rfl ?_
    exact jbX5_carryOut_36 hN C n _ _ _ h
  · have h := h.2 c
    refine jw_bipush C.1 dX5_carryOut_12 kb_m3 ?_
    exact jw_iret (Q := Q) C h dX5_carryOut_14
set_option maxRecDepth 100000 in
set_option maxHeartbeats 4000000 in
theorem ctX5_count (l : Launch) (a1 : Int32) (μ : Mem) (Q : Int32 → Mem → Prop) (h : wpX5_count a1 μ Q) : Con l yX5_count wsX5_count rmX5_count shX (fun ad => [.ref (ad 0), .int a1]) μ (pI Q) := by
  refine Con.mk (cc := cX5_count) (maxL := 2) (ret := (some .int)) (own := RX5) (by decide) rfl rfl (fun _ => Nat.le_of_ble_eq_true rfl) (fun K ad hN C => ?_)
  show JW K (0, 0) shX ad μ 0 [(0, .ref (ad 0)), (1, .int a1)] []
  unfold wpX5_count at h
  refine jw_iload_n C.1 dX5_count_0 rfl 1 rfl ?_
  by_cases c0 : a1 = (0 : Int32)
  · have h := h.1 c0
    refine jw_tsIn C.1 (0 : Int32) 56 dX5_count_1 c0 (by decide) (by decide) (off := 55) (by decide +kernel) (by decide) ?_
    refine jw_aload_n C.1 dX5_count_56 rfl 0 rfl ?_
    refine jw_getR C.1 iwX5_count_X5 rfl shX_0 rfl 0 (by decide) rfl (List.mem_of_getElem? (i := 1) rfl) dX5_count_57 ?_
    refine jw_gVI (rest := []) C.1 dX5_count_60 (e1 1) em_shX_shT_e1_1 (ctX4_stones l _ _ h) miX4_stones shX_1 rfl gX5_count_X4_stones rfl (by decide) rfl rfl rfl (Nat.le_of_ble_eq_true rfl) ⟨Nat.zero_le _, Nat.zero_le _⟩ (fun r1 μ2 h => ?_)
    have h := h _ rfl
    exact jw_iret (Q := Q) C h dX5_count_63
  · have h := h.2 c0
    by_cases c1 : a1 = (1 : Int32)
    · have h := h.1 c1
      refine jw_tsIn C.1 (1 : Int32) 64 dX5_count_1 c1 (by decide) (by decide) (off := 63) (by decide +kernel) (by decide) ?_
      refine jw_aload_n C.1 dX5_count_64 rfl 0 rfl ?_
      refine jw_getR C.1 iwX5_count_X5 rfl shX_0 rfl 0 (by decide) rfl (List.mem_of_getElem? (i := 1) rfl) dX5_count_65 ?_
      refine jw_gVI (rest := []) C.1 dX5_count_68 (e1 1) em_shX_shT_e1_1 (ctX4_stonesSent l _ _ h) miX4_stonesSent shX_1 rfl gX5_count_X4_stonesSent rfl (by decide) rfl rfl rfl (Nat.le_of_ble_eq_true rfl) ⟨Nat.zero_le _, Nat.zero_le _⟩ (fun r4 μ5 h => ?_)
      have h := h _ rfl
      exact jw_iret (Q := Q) C h dX5_count_71
    · have h := h.2 c1
      by_cases c2 : a1 = (2 : Int32)
      · have h := h.1 c2
        refine jw_tsIn C.1 (2 : Int32) 72 dX5_count_1 c2 (by decide) (by decide) (off := 71) (by decide +kernel) (by decide) ?_
        refine jw_aload_n C.1 dX5_count_72 rfl 0 rfl ?_
        refine jw_getR C.1 iwX5_count_X5 rfl shX_0 rfl 0 (by decide) rfl (List.mem_of_getElem? (i := 1) rfl) dX5_count_73 ?_
        refine jw_gVI (rest := []) C.1 dX5_count_76 (e1 1) em_shX_shT_e1_1 (ctX4_allStonesSunk l _ _ h) miX4_allStonesSunk shX_1 rfl gX5_count_X4_allStonesSunk rfl (by decide) rfl rfl rfl (Nat.le_of_ble_eq_true rfl) ⟨Nat.zero_le _, Nat.zero_le _⟩ (fun r7 μ8 h => ?_)
        have h := h _ rfl
        exact jw_iret (Q := Q) C h dX5_count_79
      · have h := h.2 c2
        by_cases c3 : a1 = (3 : Int32)
        · have h := h.1 c3
          refine jw_tsIn C.1 (3 : Int32) 80 dX5_count_1 c3 (by decide) (by decide) (off := 79) (by decide +kernel) (by decide) ?_
          refine jw_aload_n C.1 dX5_count_80 rfl 0 rfl ?_
          refine jw_getR C.1 iwX5_count_X5 rfl shX_0 rfl 0 (by decide) rfl (List.mem_of_getElem? (i := 1) rfl) dX5_count_81 ?_
          refine jw_gVI (rest := []) C.1 dX5_count_84 (e1 1) em_shX_shT_e1_1 (ctX4_stonesApplied l _ _ h) miX4_stonesApplied shX_1 rfl gX5_count_X4_stonesApplied rfl (by decide) rfl rfl rfl (Nat.le_of_ble_eq_true rfl) ⟨Nat.zero_le _, Nat.zero_le _⟩ (fun r10 μ11 h => ?_)
          have h := h _ rfl
          exact jw_iret (Q := Q) C h dX5_count_87
        · have h := h.2 c3
          by_cases c4 : a1 = (4 : Int32)
          · have h := h.1 c4
            refine jw_tsIn C.1 (4 : Int32) 88 dX5_count_1 c4 (by decide) (by decide) (off := 87) (by decide +kernel) (by decide) ?_
            refine jw_aload_n C.1 dX5_count_88 rfl 0 rfl ?_
            refine jw_getR C.1 iwX5_count_X5 rfl shX_0 rfl 0 (by decide) rfl (List.mem_of_getElem? (i := 1) rfl) dX5_count_89 ?_
            refine jw_gVI (rest := []) C.1 dX5_count_92 (e1 1) em_shX_shT_e1_1 (ctX4_buffersLookedAt l _ _ h) miX4_buffersLookedAt shX_1 rfl gX5_count_X4_buffersLookedAt rfl (by decide) rfl rfl rfl (Nat.le_of_ble_eq_true rfl) ⟨Nat.zero_le _, Nat.zero_le _⟩ (fun r13 μ14 h => ?_)
            have h := h _ rfl
            exact jw_iret (Q := Q) C h dX5_count_95
          · have h := h.2 c4
            by_cases c5 : a1 = (5 : Int32)
            · have h := h.1 c5
              refine jw_tsIn C.1 (5 : Int32) 96 dX5_count_1 c5 (by decide) (by decide) (off := 95) (by decide +kernel) (by decide) ?_
              refine jw_aload_n C.1 dX5_count_96 rfl 0 rfl ?_
              refine jw_getR C.1 iwX5_count_X5 rfl shX_0 rfl 0 (by decide) rfl (List.mem_of_getElem? (i := 1) rfl) dX5_count_97 ?_
              refine jw_gVI (rest := []) C.1 dX5_count_100 (e1 1) em_shX_shT_e1_1 (ctX4_keysPresent l _ _ h) miX4_keysPresent shX_1 rfl gX5_count_X4_keysPresent rfl (by decide) rfl rfl rfl (Nat.le_of_ble_eq_true rfl) ⟨Nat.zero_le _, Nat.zero_le _⟩ (fun r16 μ17 h => ?_)
              have h := h _ rfl
              exact jw_iret (Q := Q) C h dX5_count_103
            · have h := h.2 c5
              by_cases c6 : a1 = (6 : Int32)
              · have h := h.1 c6
                refine jw_tsIn C.1 (6 : Int32) 104 dX5_count_1 c6 (by decide) (by decide) (off := 103) (by decide +kernel) (by decide) ?_
                refine jw_aload_n C.1 dX5_count_104 rfl 0 rfl ?_
                refine jw_getR C.1 iwX5_count_X5 rfl shX_0 rfl 5 (by decide) rfl (List.mem_of_getElem? (i := 2) rfl) dX5_count_105 ?_
                refine jw_gVI (rest := []) C.1 dX5_count_108 (e1 85) em_shX_shP_e1_85 (ctX1_length l _ _ h) miX1_length shX_85 rfl gX5_count_X1_length rfl (by decide) rfl rfl rfl (Nat.le_of_ble_eq_true rfl) ⟨Nat.zero_le _, Nat.zero_le _⟩ (fun r19 μ20 h => ?_)
                have h := h _ rfl
                exact jw_iret (Q := Q) C h dX5_count_111
              · have h := h.2 c6
                by_cases c7 : a1 = (7 : Int32)
                · have h := h.1 c7
                  refine jw_tsIn C.1 (7 : Int32) 112 dX5_count_1 c7 (by decide) (by decide) (off := 111) (by decide +kernel) (by decide) ?_
                  refine jw_aload_n C.1 dX5_count_112 rfl 0 rfl ?_
                  refine jw_getR C.1 iwX5_count_X5 rfl shX_0 rfl 2 (by decide) rfl (List.mem_of_getElem? (i := 3) rfl) dX5_count_113 ?_
                  refine jw_gVI (rest := []) C.1 dX5_count_116 (e1 17) em_shX_shH_e1_17 (ctX0_states l _ _ h) miX0_states shX_17 rfl gX5_count_X0_states rfl (by decide) rfl rfl rfl (Nat.le_of_ble_eq_true rfl) ⟨Nat.zero_le _, Nat.zero_le _⟩ (fun r22 μ23 h => ?_)
                  have h := h _ rfl
                  exact jw_iret (Q := Q) C h dX5_count_119
                · have h := h.2 c7
                  by_cases c8 : a1 = (8 : Int32)
                  · have h := h.1 c8
                    refine jw_tsIn C.1 (8 : Int32) 120 dX5_count_1 c8 (by decide) (by decide) (off := 119) (by decide +kernel) (by decide) ?_
                    refine jw_aload_n C.1 dX5_count_120 rfl 0 rfl ?_
                    refine jw_getR C.1 iwX5_count_X5 rfl shX_0 rfl 0 (by decide) rfl (List.mem_of_getElem? (i := 1) rfl) dX5_count_121 ?_
                    refine jw_iconst C.1 dX5_count_124 ki_0 ?_
                    refine jw_gVI (rest := []) C.1 dX5_count_125 (e1 1) em_shX_shT_e1_1 (ctX4_setting l _ _ _ h) miX4_setting shX_1 rfl gX5_count_X4_setting rfl (by decide) rfl rfl rfl (Nat.le_of_ble_eq_true rfl) ⟨Nat.zero_le _, Nat.zero_le _⟩ (fun r25 μ26 h => ?_)
                    have h := h _ rfl
                    exact jw_iret (Q := Q) C h dX5_count_128
                  · have h := h.2 c8
                    by_cases c9 : a1 = (9 : Int32)
                    · have h := h.1 c9
                      refine jw_tsIn C.1 (9 : Int32) 129 dX5_count_1 c9 (by decide) (by decide) (off := 128) (by decide +kernel) (by decide) ?_
                      refine jw_aload_n C.1 dX5_count_129 rfl 0 rfl ?_
                      refine jw_getR C.1 iwX5_count_X5 rfl shX_0 rfl 0 (by decide) rfl (List.mem_of_getElem? (i := 1) rfl) dX5_count_130 ?_
                      refine jw_iconst C.1 dX5_count_133 ki_1 ?_
                      refine jw_gVI (rest := []) C.1 dX5_count_134 (e1 1) em_shX_shT_e1_1 (ctX4_setting l _ _ _ h) miX4_setting shX_1 rfl gX5_count_X4_setting rfl (by decide) rfl rfl rfl (Nat.le_of_ble_eq_true rfl) ⟨Nat.zero_le _, Nat.zero_le _⟩ (fun r28 μ29 h => ?_)
                      have h := h _ rfl
                      exact jw_iret (Q := Q) C h dX5_count_137
                    · have h := h.2 c9
                      refine jw_tsOut C.1 138 dX5_count_1 (by have e0 := lv_neT c0 (a := 0) rfl; have e1 := lv_neT c1 (a := 1) rfl; have e2 := lv_neT c2 (a := 2) rfl; have e3 := lv_neT c3 (a := 3) rfl; have e4 := lv_neT c4 (a := 4) rfl; have e5 := lv_neT c5 (a := 5) rfl; have e6 := lv_neT c6 (a := 6) rfl; have e7 := lv_neT c7 (a := 7) rfl; have e8 := lv_neT c8 (a := 8) rfl; have e9 := lv_neT c9 (a := 9) rfl; omega) (by decide) ?_
                      refine jw_bipush C.1 dX5_count_138 kb_m2 ?_
                      exact jw_iret (Q := Q) C h dX5_count_140
set_option maxRecDepth 100000 in
set_option maxHeartbeats 4000000 in
theorem ctX5_isNode (l : Launch) (a1 : Int32) (Q : Int32 → Prop) (h : wpX5_isNode a1 Q) (μ : Mem) : Con l yX5_isNode wsX5_isNode rmX5_isNode [] (fun _ => [.int a1]) μ (pI (fun r _ => Q r)) := by
  refine Con.mk (cc := cX5_isNode) (maxL := 1) (ret := (some .boolean)) (own := RX5) (by decide) rfl rfl (fun _ => Nat.le_of_ble_eq_true rfl) (fun K ad hN C => ?_)
  show JW K (0, 0) [] ad μ 0 [(0, .int a1)] []
  unfold wpX5_isNode at h
  refine jw_iload_n C.1 dX5_isNode_0 rfl 0 rfl ?_
  refine jw_if_lt C.1 14 dX5_isNode_1 (by decide) (fun c => ?_) (fun c => ?_)
  · have h := h.1 c
    refine jw_iconst C.1 dX5_isNode_14 ki_0 ?_
    exact jw_zret (Q := fun r _ => Q r) C rfl h dX5_isNode_15
  · have h := h.2 c
    refine jw_iload_n C.1 dX5_isNode_4 rfl 0 rfl ?_
    refine jw_bipush C.1 dX5_isNode_5 kb_13 ?_
    refine jw_icmp_ge C.1 14 dX5_isNode_7 (by decide) (fun c => ?_) (fun c => ?_)
    · have h := h.1 c
      refine jw_iconst C.1 dX5_isNode_14 ki_0 ?_
      exact jw_zret (Q := fun r _ => Q r) C rfl h dX5_isNode_15
    · have h := h.2 c
      refine jw_iconst C.1 dX5_isNode_10 ki_1 ?_
      refine jw_goto (tgt := 15) C.1 dX5_isNode_11 (by decide) ?_
      exact jw_zret (Q := fun r _ => Q r) C rfl h dX5_isNode_15
set_option maxRecDepth 100000 in
set_option maxHeartbeats 4000000 in
theorem ctX5_empty (l : Launch) (a1 : Int32) (μ : Mem) (Q : Int32 → Mem → Prop) (h : wpX5_empty a1 μ Q) : Con l yX5_empty wsX5_empty rmX5_empty shX (fun ad => [.ref (ad 0), .int a1]) μ (pI Q) := by
  refine Con.mk (cc := cX5_empty) (maxL := 2) (ret := (some .int)) (own := RX5) (by decide) rfl rfl (fun _ => Nat.le_of_ble_eq_true rfl) (fun K ad hN C => ?_)
  show JW K (0, 0) shX ad μ 0 [(0, .ref (ad 0)), (1, .int a1)] []
  unfold wpX5_empty at h
  refine jw_iload_n C.1 dX5_empty_0 rfl 1 rfl ?_
  refine jw_eSI (rest := []) C.1 dX5_empty_1 (ctX5_isNode l _ _ h _) miX5_isNode gX5_empty_X5_isNode (by decide) rfl rfl rfl (Nat.le_of_ble_eq_true rfl) ⟨Nat.zero_le _, Nat.zero_le _⟩ (fun r1 h => ?_)
  refine jw_if_ne C.1 9 dX5_empty_4 (by decide) (fun c => ?_) (fun c => ?_)
  · have h := h.1 c
    refine jw_aload_n C.1 dX5_empty_9 rfl 0 rfl ?_
    refine jw_getR C.1 iwX5_empty_X5 rfl shX_0 rfl 2 (by decide) rfl (List.mem_of_getElem? (i := 1) rfl) dX5_empty_10 ?_
    refine jw_aload_n C.1 dX5_empty_13 rfl 0 rfl ?_
    refine jw_getR C.1 iwX5_empty_X5 rfl shX_0 rfl 0 (by decide) rfl (List.mem_of_getElem? (i := 2) rfl) dX5_empty_14 ?_
    refine jw_gVV (rest := []) C.1 dX5_empty_17 (e2 50 17 1) em_shX_shHT_e2_50_17_1 (ctX0_record l _ _ h) miX0_record shX_17 rfl gX5_empty_X0_record rfl (by decide) rfl rfl rfl (Nat.le_of_ble_eq_true rfl) ⟨Nat.zero_le _, Nat.zero_le _⟩ (fun μ3 h => ?_)
    have h := h _ rfl
    refine jw_aload_n C.1 dX5_empty_20 rfl 0 rfl ?_
    refine jw_getR C.1 iwX5_empty_X5 rfl shX_0 rfl 0 (by decide) rfl (List.mem_of_getElem? (i := 2) rfl) dX5_empty_21 ?_
    refine jw_iload_n C.1 dX5_empty_24 rfl 1 rfl ?_
    refine jw_gVV (rest := []) C.1 dX5_empty_25 (e1 1) em_shX_shT_e1_1 (ctX4_emptyBuffer l _ _ _ h) miX4_emptyBuffer shX_1 rfl gX5_empty_X4_emptyBuffer rfl (by decide) rfl rfl rfl (Nat.le_of_ble_eq_true rfl) ⟨Nat.zero_le _, Nat.zero_le _⟩ (fun μ6 h => ?_)
    have h := h _ rfl
    refine jw_aload_n C.1 dX5_empty_28 rfl 0 rfl ?_
    refine jw_getR C.1 iwX5_empty_X5 rfl shX_0 rfl 0 (by decide) rfl (List.mem_of_getElem? (i := 2) rfl) dX5_empty_29 ?_
    refine jw_gVI (rest := []) C.1 dX5_empty_32 (e1 1) em_shX_shT_e1_1 (ctX4_stones l _ _ h) miX4_stones shX_1 rfl gX5_empty_X4_stones rfl (by decide) rfl rfl rfl (Nat.le_of_ble_eq_true rfl) ⟨Nat.zero_le _, Nat.zero_le _⟩ (fun r8 μ9 h => ?_)
    have h := h _ rfl
    exact jw_iret (Q := Q) C h dX5_empty_35
  · have h := h.2 c
    refine jw_iconst C.1 dX5_empty_7 ki_m1 ?_
    exact jw_iret (Q := Q) C h dX5_empty_8
set_option maxRecDepth 100000 in
set_option maxHeartbeats 4000000 in
theorem ctX5_fault (l : Launch) (μ : Mem) (Q : Int32 → Mem → Prop) (h : wpX5_fault μ Q) : Con l yX5_fault wsX5_fault rmX5_fault shX (fun ad => [.ref (ad 0)]) μ (pI Q) := by
  refine Con.mk (cc := cX5_fault) (maxL := 1) (ret := (some .int)) (own := RX5) (by decide) rfl rfl (fun _ => Nat.le_of_ble_eq_true rfl) (fun K ad hN C => ?_)
  show JW K (0, 0) shX ad μ 0 [(0, .ref (ad 0))] []
  unfold wpX5_fault at h
  refine jw_aload_n C.1 dX5_fault_0 rfl 0 rfl ?_
  refine jw_getR C.1 iwX5_fault_X5 rfl shX_0 rfl 5 (by decide) rfl (List.mem_of_getElem? (i := 1) rfl) dX5_fault_1 ?_
  refine jw_gVI (rest := []) C.1 dX5_fault_4 (e1 85) em_shX_shP_e1_85 (ctX1_readOrders l _ _ h) miX1_readOrders shX_85 rfl gX5_fault_X1_readOrders rfl (by decide) rfl rfl rfl (Nat.le_of_ble_eq_true rfl) ⟨Nat.zero_le _, Nat.zero_le _⟩ (fun r1 μ2 h => ?_)
  have h := h _ rfl
  exact jw_iret (Q := Q) C h dX5_fault_7
set_option maxRecDepth 100000 in
set_option maxHeartbeats 4000000 in
theorem ctX5_heaviest (l : Launch) (a1 : Int32) (μ : Mem) (Q : Int32 → Mem → Prop) (h : wpX5_heaviest a1 μ Q) : Con l yX5_heaviest wsX5_heaviest rmX5_heaviest shX (fun ad => [.ref (ad 0), .int a1]) μ (pI Q) := by
  refine Con.mk (cc := cX5_heaviest) (maxL := 3) (ret := (some .int)) (own := RX5) (by decide) rfl rfl (fun _ => Nat.le_of_ble_eq_true rfl) (fun K ad hN C => ?_)
  show JW K (0, 0) shX ad μ 0 [(0, .ref (ad 0)), (1, .int a1)] []
  have hN_2 : 2 < kN K := by rw [hN]; decide
  unfold wpX5_heaviest at h
  refine jw_iload_n C.1 dX5_heaviest_0 rfl 1 rfl ?_
  refine jw_eSI (rest := []) C.1 dX5_heaviest_1 (ctX5_isNode l _ _ h _) miX5_isNode gX5_heaviest_X5_isNode (by decide) rfl rfl rfl (Nat.le_of_ble_eq_true rfl) ⟨Nat.zero_le _, Nat.zero_le _⟩ (fun r1 h => ?_)
  refine jw_if_ne C.1 9 dX5_heaviest_4 (by decide) (fun c => ?_) (fun c => ?_)
  · have h := h.1 c
    refine jw_aload_n C.1 dX5_heaviest_9 rfl 0 rfl ?_
    refine jw_getR C.1 iwX5_heaviest_X5 rfl shX_0 rfl 0 (by decide) rfl (List.mem_of_getElem? (i := 1) rfl) dX5_heaviest_10 ?_
    refine jw_iload_n C.1 dX5_heaviest_13 rfl 1 rfl ?_
    refine jw_gVI (rest := []) C.1 dX5_heaviest_14 (e1 1) em_shX_shT_e1_1 (ctX4_heaviestChild l _ _ _ h) miX4_heaviestChild shX_1 rfl gX5_heaviest_X4_heaviestChild rfl (by decide) rfl rfl rfl (Nat.le_of_ble_eq_true rfl) ⟨Nat.zero_le _, Nat.zero_le _⟩ (fun r2 μ3 h => ?_)
    have h := h _ rfl
    refine jw_istore_n (lw := [(2, .int _), (0, .ref _), (1, .int _)]) C.1 dX5_heaviest_17 rfl hN_2 rfl ?_
    refine jw_iload_n C.1 dX5_heaviest_18 rfl 0 rfl ?_
    refine jw_if_ge C.1 25 dX5_heaviest_19 (by decide) (fun c => ?_) (fun c => ?_)
    · have h := h.1 c
      refine jw_iload_n C.1 dX5_heaviest_25 rfl 2 rfl ?_
      refine jw_eSI (rest := []) C.1 dX5_heaviest_26 (ctX2_isLow l _ _ h _) miX2_isLow gX5_heaviest_X2_isLow (by decide) rfl rfl rfl (Nat.le_of_ble_eq_true rfl) ⟨Nat.zero_le _, Nat.zero_le _⟩ (fun r5 h => ?_)
      refine jw_if_eq C.1 40 dX5_heaviest_29 (by decide) (fun c => ?_) (fun c => ?_)
      · have h := h.1 c
        refine jw_iload_n C.1 dX5_heaviest_40 rfl 2 rfl ?_
        refine jw_iload_n C.1 dX5_heaviest_41 rfl 0 rfl ?_
        refine jw_eSI (rest := []) C.1 dX5_heaviest_42 (ctX2_childNode l _ _ _ h _) miX2_childNode gX5_heaviest_X2_childNode (by decide) rfl rfl rfl (Nat.le_of_ble_eq_true rfl) ⟨Nat.zero_le _, Nat.zero_le _⟩ (fun r6 h => ?_)
        exact jw_iret (Q := Q) C h dX5_heaviest_45
      · have h := h.2 c
        refine jw_iload_n C.1 dX5_heaviest_32 rfl 2 rfl ?_
        refine jw_iload_n C.1 dX5_heaviest_33 rfl 0 rfl ?_
        refine jw_eSI (rest := []) C.1 dX5_heaviest_34 (ctX2_firstKeyOfChild l _ _ _ h _) miX2_firstKeyOfChild gX5_heaviest_X2_firstKeyOfChild (by decide) rfl rfl rfl (Nat.le_of_ble_eq_true rfl) ⟨Nat.zero_le _, Nat.zero_le _⟩ (fun r7 h => ?_)
        refine jw_goto (tgt := 45) C.1 dX5_heaviest_37 (by decide) ?_
        exact jw_iret (Q := Q) C h dX5_heaviest_45
    · have h := h.2 c
      refine jw_bipush C.1 dX5_heaviest_22 kb_m6 ?_
      exact jw_iret (Q := Q) C h dX5_heaviest_24
  · have h := h.2 c
    refine jw_iconst C.1 dX5_heaviest_7 ki_m1 ?_
    exact jw_iret (Q := Q) C h dX5_heaviest_8
set_option maxRecDepth 100000 in
set_option maxHeartbeats 4000000 in
theorem ctX5_isKey (l : Launch) (a1 : Int32) (Q : Int32 → Prop) (h : wpX5_isKey a1 Q) (μ : Mem) : Con l yX5_isKey wsX5_isKey rmX5_isKey [] (fun _ => [.int a1]) μ (pI (fun r _ => Q r)) := by
  refine Con.mk (cc := cX5_isKey) (maxL := 1) (ret := (some .boolean)) (own := RX5) (by decide) rfl rfl (fun _ => Nat.le_of_ble_eq_true rfl) (fun K ad hN C => ?_)
  show JW K (0, 0) [] ad μ 0 [(0, .int a1)] []
  unfold wpX5_isKey at h
  refine jw_iload_n C.1 dX5_isKey_0 rfl 0 rfl ?_
  refine jw_if_lt C.1 14 dX5_isKey_1 (by decide) (fun c => ?_) (fun c => ?_)
  · have h := h.1 c
    refine jw_iconst C.1 dX5_isKey_14 ki_0 ?_
    exact jw_zret (Q := fun r _ => Q r) C rfl h dX5_isKey_15
  · have h := h.2 c
    refine jw_iload_n C.1 dX5_isKey_4 rfl 0 rfl ?_
    refine jw_bipush C.1 dX5_isKey_5 kb_27 ?_
    refine jw_icmp_ge C.1 14 dX5_isKey_7 (by decide) (fun c => ?_) (fun c => ?_)
    · have h := h.1 c
      refine jw_iconst C.1 dX5_isKey_14 ki_0 ?_
      exact jw_zret (Q := fun r _ => Q r) C rfl h dX5_isKey_15
    · have h := h.2 c
      refine jw_iconst C.1 dX5_isKey_10 ki_1 ?_
      refine jw_goto (tgt := 15) C.1 dX5_isKey_11 (by decide) ?_
      exact jw_zret (Q := fun r _ => Q r) C rfl h dX5_isKey_15
set_option maxRecDepth 100000 in
set_option maxHeartbeats 4000000 in
theorem jbX5_isNumberFor_17 {K : KT} {l : Launch} {ad : Nat → Nat} {Q : Int32 → Prop} {μ0 : Mem} (hN : kN K = 2) (C : CtxM K l cX5_isNumberFor RX5 wsX5_isNumberFor rmX5_isNumberFor [] ad (some .boolean) (pI (fun r _ => Q r))) (s0 : Int32) (s1 : Int32) (h : bkX5_isNumberFor_17 Q s0 s1) : JW K (0, 0) [] ad μ0 17 [] [.int s0, .int s1] := by
  unfold bkX5_isNumberFor_17 at h
  refine jw_icmp_ge C.1 24 dX5_isNumberFor_17 (by decide) (fun c => ?_) (fun c => ?_)
  · have h := h.1 c
    refine jw_iconst C.1 dX5_isNumberFor_24 ki_0 ?_
    exact jw_zret (Q := fun r _ => Q r) C rfl h dX5_isNumberFor_25
  · have h := h.2 c
    refine jw_iconst C.1 dX5_isNumberFor_20 ki_1 ?_
    refine jw_goto (tgt := 25) C.1 dX5_isNumberFor_21 (by decide) ?_
    exact jw_zret (Q := fun r _ => Q r) C rfl h dX5_isNumberFor_25
set_option maxRecDepth 100000 in
set_option maxHeartbeats 4000000 in
theorem ctX5_isNumberFor (l : Launch) (a1 : Int32) (a2 : Int32) (Q : Int32 → Prop) (h : wpX5_isNumberFor a1 a2 Q) (μ : Mem) : Con l yX5_isNumberFor wsX5_isNumberFor rmX5_isNumberFor [] (fun _ => [.int a1, .int a2]) μ (pI (fun r _ => Q r)) := by
  refine Con.mk (cc := cX5_isNumberFor) (maxL := 2) (ret := (some .boolean)) (own := RX5) (by decide) rfl rfl (fun _ => Nat.le_of_ble_eq_true rfl) (fun K ad hN C => ?_)
  show JW K (0, 0) [] ad μ 0 [(0, .int a1), (1, .int a2)] []
  unfold wpX5_isNumberFor at h
  refine jw_iload_n C.1 dX5_isNumberFor_0 rfl 1 rfl ?_
  refine jw_if_lt C.1 24 dX5_isNumberFor_1 (by decide) (fun c => ?_) (fun c => ?_)
  · have h := h.1 c
    refine jw_iconst C.1 dX5_isNumberFor_24 ki_0 ?_
    exact jw_zret (Q := fun r _ => Q r) C rfl h dX5_isNumberFor_25
  · have h := h.2 c
    refine jw_iload_n C.1 dX5_isNumberFor_4 rfl 1 rfl ?_
    refine jw_iload_n C.1 dX5_isNumberFor_5 rfl 0 rfl ?_
    refine jw_iconst C.1 dX5_isNumberFor_6 ki_2 ?_
    refine jw_icmp_ne C.1 14 dX5_isNumberFor_7 (by decide) (fun c => ?_) (fun c => ?_)
    · have h := h.1 c
      refine jw_sipush C.1 dX5_isNumberFor_14 ks_1000 ?_
      refine jw_sub [] rfl ?_
      exact jbX5_isNumberFor_17 hN C _ _ h
    · have h := h.2 c
      refine jw_iconst C.1 dX5_isNumberFor_10 ki_1 ?_
      refine jw_goto (tgt := 17) C.1 dX5_isNumberFor_11 (by decide) ?_
      refine jw_sub [] rfl ?_
      exact jbX5_isNumberFor_17 hN C _ _ h
set_option maxRecDepth 100000 in
set_option maxHeartbeats 4000000 in
theorem ctX5_isPiece (l : Launch) (a1 : Int32) (a2 : Int32) (Q : Int32 → Prop) (h : wpX5_isPiece a1 a2 Q) (μ : Mem) : Con l yX5_isPiece wsX5_isPiece rmX5_isPiece [] (fun _ => [.int a1, .int a2]) μ (pI (fun r _ => Q r)) := by
  refine Con.mk (cc := cX5_isPiece) (maxL := 2) (ret := (some .boolean)) (own := RX5) (by decide) rfl rfl (fun _ => Nat.le_of_ble_eq_true rfl) (fun K ad hN C => ?_)
  show JW K (0, 0) [] ad μ 0 [(0, .int a1), (1, .int a2)] []
  unfold wpX5_isPiece at h
  refine jw_iload_n C.1 dX5_isPiece_0 rfl 0 rfl ?_
  refine jw_eSI (rest := []) C.1 dX5_isPiece_1 (ctX5_isKey l _ _ h _) miX5_isKey gX5_isPiece_X5_isKey (by decide) rfl rfl rfl (Nat.le_of_ble_eq_true rfl) ⟨Nat.zero_le _, Nat.zero_le _⟩ (fun r1 h => ?_)
  refine jw_if_eq C.1 23 dX5_isPiece_4 (by decide) (fun c => ?_) (fun c => ?_)
  · have h := h.1 c
    refine jw_iconst C.1 dX5_isPiece_23 ki_0 ?_
    exact jw_zret (Q := fun r _ => Q r) C rfl h dX5_isPiece_24
  · have h := h.2 c
    refine jw_iload_n C.1 dX5_isPiece_7 rfl 1 rfl ?_
    refine jw_eSI (rest := []) C.1 dX5_isPiece_8 (ctX5_isKey l _ _ h _) miX5_isKey gX5_isPiece_X5_isKey (by decide) rfl rfl rfl (Nat.le_of_ble_eq_true rfl) ⟨Nat.zero_le _, Nat.zero_le _⟩ (fun r2 h => ?_)
    refine jw_if_eq C.1 23 dX5_isPiece_11 (by decide) (fun c => ?_) (fun c => ?_)
    · have h := h.1 c
      refine jw_iconst C.1 dX5_isPiece_23 ki_0 ?_
      exact jw_zret (Q := fun r _ => Q r) C rfl h dX5_isPiece_24
    · have h := h.2 c
      refine jw_iload_n C.1 dX5_isPiece_14 rfl 0 rfl ?_
      refine jw_iload_n C.1 dX5_isPiece_15 rfl 1 rfl ?_
      refine jw_icmp_gt C.1 23 dX5_isPiece_16 (by decide) (fun c => ?_) (fun c => ?_)
      · have h := h.1 c
        refine jw_iconst C.1 dX5_isPiece_23 ki_0 ?_
        exact jw_zret (Q := fun r _ => Q r) C rfl h dX5_isPiece_24
      · have h := h.2 c
        refine jw_iconst C.1 dX5_isPiece_19 ki_1 ?_
        refine jw_goto (tgt := 24) C.1 dX5_isPiece_20 (by decide) ?_
        exact jw_zret (Q := fun r _ => Q r) C rfl h dX5_isPiece_24
set_option maxRecDepth 100000 in
set_option maxHeartbeats 4000000 in
theorem ctX5_isSettingValue (l : Launch) (a1 : Int32) (a2 : Int32) (Q : Int32 → Prop) (h : wpX5_isSettingValue a1 a2 Q) (μ : Mem) : Con l yX5_isSettingValue wsX5_isSettingValue rmX5_isSettingValue [] (fun _ => [.int a1, .int a2]) μ (pI (fun r _ => Q r)) := by
  refine Con.mk (cc := cX5_isSettingValue) (maxL := 2) (ret := (some .boolean)) (own := RX5) (by decide) rfl rfl (fun _ => Nat.le_of_ble_eq_true rfl) (fun K ad hN C => ?_)
  show JW K (0, 0) [] ad μ 0 [(0, .int a1), (1, .int a2)] []
  unfold wpX5_isSettingValue at h
  refine jw_iload_n C.1 dX5_isSettingValue_0 rfl 0 rfl ?_
  refine jw_if_ne C.1 21 dX5_isSettingValue_1 (by decide) (fun c => ?_) (fun c => ?_)
  · have h := h.1 c
    refine jw_iload_n C.1 dX5_isSettingValue_21 rfl 0 rfl ?_
    refine jw_iconst C.1 dX5_isSettingValue_22 ki_1 ?_
    refine jw_icmp_ne C.1 39 dX5_isSettingValue_23 (by decide) (fun c => ?_) (fun c => ?_)
    · have h := h.1 c
      refine jw_iconst C.1 dX5_isSettingValue_39 ki_0 ?_
      exact jw_zret (Q := fun r _ => Q r) C rfl h dX5_isSettingValue_40
    · have h := h.2 c
      refine jw_iload_n C.1 dX5_isSettingValue_26 rfl 1 rfl ?_
      refine jw_if_eq C.1 35 dX5_isSettingValue_27 (by decide) (fun c => ?_) (fun c => ?_)
      · have h := h.1 c
        refine jw_iconst C.1 dX5_isSettingValue_35 ki_1 ?_
        refine jw_goto (tgt := 40) C.1 dX5_isSettingValue_36 (by decide) ?_
        exact jw_zret (Q := fun r _ => Q r) C rfl h dX5_isSettingValue_40
      · have h := h.2 c
        refine jw_iload_n C.1 dX5_isSettingValue_30 rfl 1 rfl ?_
        refine jw_iconst C.1 dX5_isSettingValue_31 ki_1 ?_
        refine jw_icmp_ne C.1 39 dX5_isSettingValue_32 (by decide) (fun c => ?_) (fun c => ?_)
        · have h := h.1 c
          refine jw_iconst C.1 dX5_isSettingValue_39 ki_0 ?_
          exact jw_zret (Q := fun r _ => Q r) C rfl h dX5_isSettingValue_40
        · have h := h.2 c
          refine jw_iconst C.1 dX5_isSettingValue_35 ki_1 ?_
          refine jw_goto (tgt := 40) C.1 dX5_isSettingValue_36 (by decide) ?_
          exact jw_zret (Q := fun r _ => Q r) C rfl h dX5_isSettingValue_40
  · have h := h.2 c
    refine jw_iload_n C.1 dX5_isSettingValue_4 rfl 1 rfl ?_
    refine jw_iconst C.1 dX5_isSettingValue_5 ki_1 ?_
    refine jw_icmp_lt C.1 19 dX5_isSettingValue_6 (by decide) (fun c => ?_) (fun c => ?_)
    · have h := h.1 c
      refine jw_iconst C.1 dX5_isSettingValue_19 ki_0 ?_
      exact jw_zret (Q := fun r _ => Q r) C rfl h dX5_isSettingValue_20
    · have h := h.2 c
      refine jw_iload_n C.1 dX5_isSettingValue_9 rfl 1 rfl ?_
      refine jw_bipush C.1 dX5_isSettingValue_10 kb_10 ?_
      refine jw_icmp_gt C.1 19 dX5_isSettingValue_12 (by decide) (fun c => ?_) (fun c => ?_)
      · have h := h.1 c
        refine jw_iconst C.1 dX5_isSettingValue_19 ki_0 ?_
        exact jw_zret (Q := fun r _ => Q r) C rfl h dX5_isSettingValue_20
      · have h := h.2 c
        refine jw_iconst C.1 dX5_isSettingValue_15 ki_1 ?_
        refine jw_goto (tgt := 20) C.1 dX5_isSettingValue_16 (by decide) ?_
        exact jw_zret (Q := fun r _ => Q r) C rfl h dX5_isSettingValue_20
set_option maxRecDepth 100000 in
set_option maxHeartbeats 4000000 in
theorem ctX5_isSlot (l : Launch) (a1 : Int32) (μ : Mem) (Q : Int32 → Mem → Prop) (h : wpX5_isSlot a1 μ Q) : Con l yX5_isSlot wsX5_isSlot rmX5_isSlot shX (fun ad => [.ref (ad 0), .int a1]) μ (pI Q) := by
  refine Con.mk (cc := cX5_isSlot) (maxL := 2) (ret := (some .boolean)) (own := RX5) (by decide) rfl rfl (fun _ => Nat.le_of_ble_eq_true rfl) (fun K ad hN C => ?_)
  show JW K (0, 0) shX ad μ 0 [(0, .ref (ad 0)), (1, .int a1)] []
  unfold wpX5_isSlot at h
  refine jw_iload_n C.1 dX5_isSlot_0 rfl 1 rfl ?_
  refine jw_if_lt C.1 22 dX5_isSlot_1 (by decide) (fun c => ?_) (fun c => ?_)
  · have h := h.1 c
    refine jw_iconst C.1 dX5_isSlot_22 ki_0 ?_
    exact jw_zret (Q := Q) C rfl h dX5_isSlot_23
  · have h := h.2 c
    refine jw_iload_n C.1 dX5_isSlot_4 rfl 1 rfl ?_
    refine jw_iconst C.1 dX5_isSlot_5 ki_2 ?_
    refine jw_icmp_ge C.1 22 dX5_isSlot_6 (by decide) (fun c => ?_) (fun c => ?_)
    · have h := h.1 c
      refine jw_iconst C.1 dX5_isSlot_22 ki_0 ?_
      exact jw_zret (Q := Q) C rfl h dX5_isSlot_23
    · have h := h.2 c
      refine jw_aload_n C.1 dX5_isSlot_9 rfl 0 rfl ?_
      refine jw_getR C.1 iwX5_isSlot_X5 rfl shX_0 rfl 3 (by decide) rfl (List.mem_of_getElem? (i := 1) rfl) dX5_isSlot_10 ?_
      refine jw_iload_n C.1 dX5_isSlot_13 rfl 1 rfl ?_
      obtain ⟨hi, h⟩ := h
      refine jw_aald C.1 rfl shX_67 hi (rf_2_68 hi) dX5_isSlot_14 ?_
      refine jw_ifnull C.1 dX5_isSlot_15 ?_
      refine jw_iconst C.1 dX5_isSlot_18 ki_1 ?_
      refine jw_goto (tgt := 23) C.1 dX5_isSlot_19 (by decide) ?_
      exact jw_zret (Q := Q) C rfl h dX5_isSlot_23
set_option maxRecDepth 100000 in
set_option maxHeartbeats 4000000 in
theorem ctX5_ofKey (l : Launch) (a1 : Int32) (a2 : Int32) (μ : Mem) (Q : Int32 → Mem → Prop) (h : wpX5_ofKey a1 a2 μ Q) : Con l yX5_ofKey wsX5_ofKey rmX5_ofKey shX (fun ad => [.ref (ad 0), .int a1, .int a2]) μ (pI Q) := by
  refine Con.mk (cc := cX5_ofKey) (maxL := 3) (ret := (some .int)) (own := RX5) (by decide) rfl rfl (fun _ => Nat.le_of_ble_eq_true rfl) (fun K ad hN C => ?_)
  show JW K (0, 0) shX ad μ 0 [(0, .ref (ad 0)), (1, .int a1), (2, .int a2)] []
  unfold wpX5_ofKey at h
  refine jw_iload_n C.1 dX5_ofKey_0 rfl 1 rfl ?_
  refine jw_eSI (rest := []) C.1 dX5_ofKey_1 (ctX5_isKey l _ _ h _) miX5_isKey gX5_ofKey_X5_isKey (by decide) rfl rfl rfl (Nat.le_of_ble_eq_true rfl) ⟨Nat.zero_le _, Nat.zero_le _⟩ (fun r1 h => ?_)
  refine jw_if_ne C.1 9 dX5_ofKey_4 (by decide) (fun c => ?_) (fun c => ?_)
  · have h := h.1 c
    refine jw_iload_n C.1 dX5_ofKey_9 rfl 2 rfl ?_
    by_cases c0 : a2 = (0 : Int32)
    · have h := h.1 c0
      refine jw_tsIn C.1 (0 : Int32) 40 dX5_ofKey_10 c0 (by decide) (by decide) (off := 30) (by decide +kernel) (by decide) ?_
      refine jw_aload_n C.1 dX5_ofKey_40 rfl 0 rfl ?_
      refine jw_getR C.1 iwX5_ofKey_X5 rfl shX_0 rfl 0 (by decide) rfl (List.mem_of_getElem? (i := 1) rfl) dX5_ofKey_41 ?_
      refine jw_iload_n C.1 dX5_ofKey_44 rfl 1 rfl ?_
      refine jw_gVI (rest := []) C.1 dX5_ofKey_45 (e1 1) em_shX_shT_e1_1 (ctX4_valueInLeaf l _ _ _ h) miX4_valueInLeaf shX_1 rfl gX5_ofKey_X4_valueInLeaf rfl (by decide) rfl rfl rfl (Nat.le_of_ble_eq_true rfl) ⟨Nat.zero_le _, Nat.zero_le _⟩ (fun r2 μ3 h => ?_)
      have h := h _ rfl
      exact jw_iret (Q := Q) C h dX5_ofKey_48
    · have h := h.2 c0
      by_cases c1 : a2 = (1 : Int32)
      · have h := h.1 c1
        refine jw_tsIn C.1 (1 : Int32) 49 dX5_ofKey_10 c1 (by decide) (by decide) (off := 39) (by decide +kernel) (by decide) ?_
        refine jw_aload_n C.1 dX5_ofKey_49 rfl 0 rfl ?_
        refine jw_getR C.1 iwX5_ofKey_X5 rfl shX_0 rfl 0 (by decide) rfl (List.mem_of_getElem? (i := 1) rfl) dX5_ofKey_50 ?_
        refine jw_iload_n C.1 dX5_ofKey_53 rfl 1 rfl ?_
        refine jw_gVI (rest := []) C.1 dX5_ofKey_54 (e1 1) em_shX_shT_e1_1 (ctX4_valueAsRead l _ _ _ h) miX4_valueAsRead shX_1 rfl gX5_ofKey_X4_valueAsRead rfl (by decide) rfl rfl rfl (Nat.le_of_ble_eq_true rfl) ⟨Nat.zero_le _, Nat.zero_le _⟩ (fun r5 μ6 h => ?_)
        have h := h _ rfl
        exact jw_iret (Q := Q) C h dX5_ofKey_57
      · have h := h.2 c1
        by_cases c2 : a2 = (2 : Int32)
        · have h := h.1 c2
          refine jw_tsIn C.1 (2 : Int32) 58 dX5_ofKey_10 c2 (by decide) (by decide) (off := 48) (by decide +kernel) (by decide) ?_
          refine jw_aload_n C.1 dX5_ofKey_58 rfl 0 rfl ?_
          refine jw_getR C.1 iwX5_ofKey_X5 rfl shX_0 rfl 0 (by decide) rfl (List.mem_of_getElem? (i := 1) rfl) dX5_ofKey_59 ?_
          refine jw_iload_n C.1 dX5_ofKey_62 rfl 1 rfl ?_
          refine jw_gVI (rest := []) C.1 dX5_ofKey_63 (e1 1) em_shX_shT_e1_1 (ctX4_stonesWith l _ _ _ h) miX4_stonesWith shX_1 rfl gX5_ofKey_X4_stonesWith rfl (by decide) rfl rfl rfl (Nat.le_of_ble_eq_true rfl) ⟨Nat.zero_le _, Nat.zero_le _⟩ (fun r8 μ9 h => ?_)
          have h := h _ rfl
          exact jw_iret (Q := Q) C h dX5_ofKey_66
        · have h := h.2 c2
          by_cases c3 : a2 = (3 : Int32)
          · have h := h.1 c3
            refine jw_tsIn C.1 (3 : Int32) 67 dX5_ofKey_10 c3 (by decide) (by decide) (off := 57) (by decide +kernel) (by decide) ?_
            refine jw_aload_n C.1 dX5_ofKey_67 rfl 0 rfl ?_
            refine jw_getR C.1 iwX5_ofKey_X5 rfl shX_0 rfl 0 (by decide) rfl (List.mem_of_getElem? (i := 1) rfl) dX5_ofKey_68 ?_
            refine jw_iload_n C.1 dX5_ofKey_71 rfl 1 rfl ?_
            refine jw_gVI (rest := []) C.1 dX5_ofKey_72 (e1 1) em_shX_shT_e1_1 (ctX4_deepestWith l _ _ _ h) miX4_deepestWith shX_1 rfl gX5_ofKey_X4_deepestWith rfl (by decide) rfl rfl rfl (Nat.le_of_ble_eq_true rfl) ⟨Nat.zero_le _, Nat.zero_le _⟩ (fun r11 μ12 h => ?_)
            have h := h _ rfl
            exact jw_iret (Q := Q) C h dX5_ofKey_75
          · have h := h.2 c3
            refine jw_tsOut C.1 76 dX5_ofKey_10 (by have e0 := lv_neT c0 (a := 0) rfl; have e1 := lv_neT c1 (a := 1) rfl; have e2 := lv_neT c2 (a := 2) rfl; have e3 := lv_neT c3 (a := 3) rfl; omega) (by decide) ?_
            refine jw_bipush C.1 dX5_ofKey_76 kb_m2 ?_
            exact jw_iret (Q := Q) C h dX5_ofKey_78
  · have h := h.2 c
    refine jw_iconst C.1 dX5_ofKey_7 ki_m1 ?_
    exact jw_iret (Q := Q) C h dX5_ofKey_8
set_option maxRecDepth 100000 in
set_option maxHeartbeats 4000000 in
theorem ctX5_ofNode (l : Launch) (a1 : Int32) (a2 : Int32) (μ : Mem) (Q : Int32 → Mem → Prop) (h : wpX5_ofNode a1 a2 μ Q) : Con l yX5_ofNode wsX5_ofNode rmX5_ofNode shX (fun ad => [.ref (ad 0), .int a1, .int a2]) μ (pI Q) := by
  refine Con.mk (cc := cX5_ofNode) (maxL := 3) (ret := (some .int)) (own := RX5) (by decide) rfl rfl (fun _ => Nat.le_of_ble_eq_true rfl) (fun K ad hN C => ?_)
  show JW K (0, 0) shX ad μ 0 [(0, .ref (ad 0)), (1, .int a1), (2, .int a2)] []
  unfold wpX5_ofNode at h
  refine jw_iload_n C.1 dX5_ofNode_0 rfl 1 rfl ?_
  refine jw_eSI (rest := []) C.1 dX5_ofNode_1 (ctX5_isNode l _ _ h _) miX5_isNode gX5_ofNode_X5_isNode (by decide) rfl rfl rfl (Nat.le_of_ble_eq_true rfl) ⟨Nat.zero_le _, Nat.zero_le _⟩ (fun r1 h => ?_)
  refine jw_if_ne C.1 9 dX5_ofNode_4 (by decide) (fun c => ?_) (fun c => ?_)
  · have h := h.1 c
    refine jw_iload_n C.1 dX5_ofNode_9 rfl 2 rfl ?_
    by_cases c0 : a2 = (0 : Int32)
    · have h := h.1 c0
      refine jw_tsIn C.1 (0 : Int32) 48 dX5_ofNode_10 c0 (by decide) (by decide) (off := 38) (by decide +kernel) (by decide) ?_
      refine jw_aload_n C.1 dX5_ofNode_48 rfl 0 rfl ?_
      refine jw_getR C.1 iwX5_ofNode_X5 rfl shX_0 rfl 0 (by decide) rfl (List.mem_of_getElem? (i := 1) rfl) dX5_ofNode_49 ?_
      refine jw_iload_n C.1 dX5_ofNode_52 rfl 1 rfl ?_
      refine jw_gVI (rest := []) C.1 dX5_ofNode_53 (e1 1) em_shX_shT_e1_1 (ctX4_stonesIn l _ _ _ h) miX4_stonesIn shX_1 rfl gX5_ofNode_X4_stonesIn rfl (by decide) rfl rfl rfl (Nat.le_of_ble_eq_true rfl) ⟨Nat.zero_le _, Nat.zero_le _⟩ (fun r2 μ3 h => ?_)
      have h := h _ rfl
      exact jw_iret (Q := Q) C h dX5_ofNode_56
    · have h := h.2 c0
      by_cases c1 : a2 = (1 : Int32)
      · have h := h.1 c1
        refine jw_tsIn C.1 (1 : Int32) 57 dX5_ofNode_10 c1 (by decide) (by decide) (off := 47) (by decide +kernel) (by decide) ?_
        refine jw_iload_n C.1 dX5_ofNode_57 rfl 1 rfl ?_
        refine jw_eSI (rest := []) C.1 dX5_ofNode_58 (ctX2_firstKey l _ _ h _) miX2_firstKey gX5_ofNode_X2_firstKey (by decide) rfl rfl rfl (Nat.le_of_ble_eq_true rfl) ⟨Nat.zero_le _, Nat.zero_le _⟩ (fun r5 h => ?_)
        exact jw_iret (Q := Q) C h dX5_ofNode_61
      · have h := h.2 c1
        by_cases c2 : a2 = (2 : Int32)
        · have h := h.1 c2
          refine jw_tsIn C.1 (2 : Int32) 62 dX5_ofNode_10 c2 (by decide) (by decide) (off := 52) (by decide +kernel) (by decide) ?_
          refine jw_iload_n C.1 dX5_ofNode_62 rfl 1 rfl ?_
          refine jw_eSI (rest := []) C.1 dX5_ofNode_63 (ctX2_lastKey l _ _ h _) miX2_lastKey gX5_ofNode_X2_lastKey (by decide) rfl rfl rfl (Nat.le_of_ble_eq_true rfl) ⟨Nat.zero_le _, Nat.zero_le _⟩ (fun r6 h => ?_)
          exact jw_iret (Q := Q) C h dX5_ofNode_66
        · have h := h.2 c2
          by_cases c3 : a2 = (3 : Int32)
          · have h := h.1 c3
            refine jw_tsIn C.1 (3 : Int32) 67 dX5_ofNode_10 c3 (by decide) (by decide) (off := 57) (by decide +kernel) (by decide) ?_
            refine jw_aload_n C.1 dX5_ofNode_67 rfl 0 rfl ?_
            refine jw_getR C.1 iwX5_ofNode_X5 rfl shX_0 rfl 0 (by decide) rfl (List.mem_of_getElem? (i := 1) rfl) dX5_ofNode_68 ?_
            refine jw_iload_n C.1 dX5_ofNode_71 rfl 1 rfl ?_
            refine jw_gVI (rest := []) C.1 dX5_ofNode_72 (e1 1) em_shX_shT_e1_1 (ctX4_timesSunk l _ _ _ h) miX4_timesSunk shX_1 rfl gX5_ofNode_X4_timesSunk rfl (by decide) rfl rfl rfl (Nat.le_of_ble_eq_true rfl) ⟨Nat.zero_le _, Nat.zero_le _⟩ (fun r7 μ8 h => ?_)
            have h := h _ rfl
            exact jw_iret (Q := Q) C h dX5_ofNode_75
          · have h := h.2 c3
            by_cases c4 : a2 = (4 : Int32)
            · have h := h.1 c4
              refine jw_tsIn C.1 (4 : Int32) 76 dX5_ofNode_10 c4 (by decide) (by decide) (off := 66) (by decide +kernel) (by decide) ?_
              refine jw_aload_n C.1 dX5_ofNode_76 rfl 0 rfl ?_
              refine jw_getR C.1 iwX5_ofNode_X5 rfl shX_0 rfl 0 (by decide) rfl (List.mem_of_getElem? (i := 1) rfl) dX5_ofNode_77 ?_
              refine jw_iload_n C.1 dX5_ofNode_80 rfl 1 rfl ?_
              refine jw_gVI (rest := []) C.1 dX5_ofNode_81 (e1 1) em_shX_shT_e1_1 (ctX4_stonesSunk l _ _ _ h) miX4_stonesSunk shX_1 rfl gX5_ofNode_X4_stonesSunk rfl (by decide) rfl rfl rfl (Nat.le_of_ble_eq_true rfl) ⟨Nat.zero_le _, Nat.zero_le _⟩ (fun r10 μ11 h => ?_)
              have h := h _ rfl
              exact jw_iret (Q := Q) C h dX5_ofNode_84
            · have h := h.2 c4
              by_cases c5 : a2 = (5 : Int32)
              · have h := h.1 c5
                refine jw_tsIn C.1 (5 : Int32) 85 dX5_ofNode_10 c5 (by decide) (by decide) (off := 75) (by decide +kernel) (by decide) ?_
                refine jw_aload_n C.1 dX5_ofNode_85 rfl 0 rfl ?_
                refine jw_getR C.1 iwX5_ofNode_X5 rfl shX_0 rfl 0 (by decide) rfl (List.mem_of_getElem? (i := 1) rfl) dX5_ofNode_86 ?_
                refine jw_iload_n C.1 dX5_ofNode_89 rfl 1 rfl ?_
                refine jw_gVI (rest := []) C.1 dX5_ofNode_90 (e1 1) em_shX_shT_e1_1 (ctX4_stonesJoined l _ _ _ h) miX4_stonesJoined shX_1 rfl gX5_ofNode_X4_stonesJoined rfl (by decide) rfl rfl rfl (Nat.le_of_ble_eq_true rfl) ⟨Nat.zero_le _, Nat.zero_le _⟩ (fun r13 μ14 h => ?_)
                have h := h _ rfl
                exact jw_iret (Q := Q) C h dX5_ofNode_93
              · have h := h.2 c5
                refine jw_tsOut C.1 94 dX5_ofNode_10 (by have e0 := lv_neT c0 (a := 0) rfl; have e1 := lv_neT c1 (a := 1) rfl; have e2 := lv_neT c2 (a := 2) rfl; have e3 := lv_neT c3 (a := 3) rfl; have e4 := lv_neT c4 (a := 4) rfl; have e5 := lv_neT c5 (a := 5) rfl; omega) (by decide) ?_
                refine jw_bipush C.1 dX5_ofNode_94 kb_m2 ?_
                exact jw_iret (Q := Q) C h dX5_ofNode_96
  · have h := h.2 c
    refine jw_iconst C.1 dX5_ofNode_7 ki_m1 ?_
    exact jw_iret (Q := Q) C h dX5_ofNode_8
set_option maxRecDepth 100000 in
set_option maxHeartbeats 4000000 in
theorem ctX5_put (l : Launch) (a1 : Int64) (μ : Mem) (Q : Int32 → Mem → Prop) (h : wpX5_put a1 μ Q) : Con l yX5_put wsX5_put rmX5_put shX (fun ad => [.ref (ad 0), .long a1]) μ (pI Q) := by
  refine Con.mk (cc := cX5_put) (maxL := 4) (ret := (some .int)) (own := RX5) (by decide) rfl rfl (fun _ => Nat.le_of_ble_eq_true rfl) (fun K ad hN C => ?_)
  show JW K (0, 0) shX ad μ 0 [(0, .ref (ad 0)), (1, .long a1)] []
  have hN_3 : 3 < kN K := by rw [hN]; decide
  unfold wpX5_put at h
  refine jw_lload_n C.1 dX5_put_0 rfl 1 rfl ?_
  refine jw_eSI (rest := []) C.1 dX5_put_1 (ctX1_charactersIn l _ _ h _) miX1_charactersIn gX5_put_X1_charactersIn (by decide) rfl rfl rfl (Nat.le_of_ble_eq_true rfl) ⟨Nat.zero_le _, Nat.zero_le _⟩ (fun r1 h => ?_)
  refine jw_istore_n (lw := [(3, .int _), (0, .ref _), (1, .long _)]) C.1 dX5_put_4 rfl hN_3 rfl ?_
  refine jw_iload_n C.1 dX5_put_5 rfl 0 rfl ?_
  refine jw_if_ne C.1 12 dX5_put_6 (by decide) (fun c => ?_) (fun c => ?_)
  · have h := h.1 c
    refine jw_aload_n C.1 dX5_put_12 rfl 1 rfl ?_
    refine jw_getR C.1 iwX5_put_X5 rfl shX_0 rfl 5 (by decide) rfl (List.mem_of_getElem? (i := 1) rfl) dX5_put_13 ?_
    refine jw_gVI (rest := []) C.1 dX5_put_16 (e1 85) em_shX_shP_e1_85 (ctX1_length l _ _ h) miX1_length shX_85 rfl gX5_put_X1_length rfl (by decide) rfl rfl rfl (Nat.le_of_ble_eq_true rfl) ⟨Nat.zero_le _, Nat.zero_le _⟩ (fun r2 μ3 h => ?_)
    have h := h _ rfl
    refine jw_iload_n C.1 dX5_put_19 rfl 0 rfl ?_
    refine jw_iadd C.1 dX5_put_20 ?_
    refine jw_bipush C.1 dX5_put_21 kb_60 ?_
    refine jw_icmp_le C.1 29 dX5_put_23 (by decide) (fun c => ?_) (fun c => ?_)
    · have h := h.1 c
      refine jw_aload_n C.1 dX5_put_29 rfl 1 rfl ?_
      refine jw_getR C.1 iwX5_put_X5 rfl shX_0 rfl 5 (by decide) rfl (List.mem_of_getElem? (i := 1) rfl) dX5_put_30 ?_
      refine jw_lload_n C.1 dX5_put_33 rfl 2 rfl ?_
      refine jw_iload_n C.1 dX5_put_34 rfl 0 rfl ?_
      refine jw_gVV (rest := []) C.1 dX5_put_35 (e1 85) em_shX_shP_e1_85 (ctX1_append l _ _ _ _ h) miX1_append shX_85 rfl gX5_put_X1_append rfl (by decide) rfl rfl rfl (Nat.le_of_ble_eq_true rfl) ⟨Nat.zero_le _, Nat.zero_le _⟩ (fun μ6 h => ?_)
      have h := h _ rfl
      refine jw_aload_n C.1 dX5_put_38 rfl 1 rfl ?_
      refine jw_getR C.1 iwX5_put_X5 rfl shX_0 rfl 5 (by decide) rfl (List.mem_of_getElem? (i := 1) rfl) dX5_put_39 ?_
      refine jw_gVI (rest := []) C.1 dX5_put_42 (e1 85) em_shX_shP_e1_85 (ctX1_length l _ _ h) miX1_length shX_85 rfl gX5_put_X1_length rfl (by decide) rfl rfl rfl (Nat.le_of_ble_eq_true rfl) ⟨Nat.zero_le _, Nat.zero_le _⟩ (fun r8 μ9 h => ?_)
      have h := h _ rfl
      exact jw_iret (Q := Q) C h dX5_put_45
    · have h := h.2 c
      refine jw_bipush C.1 dX5_put_26 kb_m4 ?_
      exact jw_iret (Q := Q) C h dX5_put_28
  · have h := h.2 c
    refine jw_bipush C.1 dX5_put_9 kb_m2 ?_
    exact jw_iret (Q := Q) C h dX5_put_11
set_option maxRecDepth 100000 in
set_option maxHeartbeats 4000000 in
theorem ctX5_read (l : Launch) (a1 : Int32) (μ : Mem) (Q : Int32 → Mem → Prop) (h : wpX5_read a1 μ Q) : Con l yX5_read wsX5_read rmX5_read shX (fun ad => [.ref (ad 0), .int a1]) μ (pI Q) := by
  refine Con.mk (cc := cX5_read) (maxL := 2) (ret := (some .int)) (own := RX5) (by decide) rfl rfl (fun _ => Nat.le_of_ble_eq_true rfl) (fun K ad hN C => ?_)
  show JW K (0, 0) shX ad μ 0 [(0, .ref (ad 0)), (1, .int a1)] []
  unfold wpX5_read at h
  refine jw_iload_n C.1 dX5_read_0 rfl 1 rfl ?_
  refine jw_eSI (rest := []) C.1 dX5_read_1 (ctX5_isKey l _ _ h _) miX5_isKey gX5_read_X5_isKey (by decide) rfl rfl rfl (Nat.le_of_ble_eq_true rfl) ⟨Nat.zero_le _, Nat.zero_le _⟩ (fun r1 h => ?_)
  refine jw_if_ne C.1 9 dX5_read_4 (by decide) (fun c => ?_) (fun c => ?_)
  · have h := h.1 c
    refine jw_aload_n C.1 dX5_read_9 rfl 0 rfl ?_
    refine jw_getR C.1 iwX5_read_X5 rfl shX_0 rfl 2 (by decide) rfl (List.mem_of_getElem? (i := 1) rfl) dX5_read_10 ?_
    refine jw_aload_n C.1 dX5_read_13 rfl 0 rfl ?_
    refine jw_getR C.1 iwX5_read_X5 rfl shX_0 rfl 0 (by decide) rfl (List.mem_of_getElem? (i := 2) rfl) dX5_read_14 ?_
    refine jw_gVV (rest := []) C.1 dX5_read_17 (e2 50 17 1) em_shX_shHT_e2_50_17_1 (ctX0_record l _ _ h) miX0_record shX_17 rfl gX5_read_X0_record rfl (by decide) rfl rfl rfl (Nat.le_of_ble_eq_true rfl) ⟨Nat.zero_le _, Nat.zero_le _⟩ (fun μ3 h => ?_)
    have h := h _ rfl
    refine jw_aload_n C.1 dX5_read_20 rfl 0 rfl ?_
    refine jw_getR C.1 iwX5_read_X5 rfl shX_0 rfl 0 (by decide) rfl (List.mem_of_getElem? (i := 2) rfl) dX5_read_21 ?_
    refine jw_gVV (rest := []) C.1 dX5_read_24 (e1 1) em_shX_shT_e1_1 (ctX4_noteRead l _ _ h) miX4_noteRead shX_1 rfl gX5_read_X4_noteRead rfl (by decide) rfl rfl rfl (Nat.le_of_ble_eq_true rfl) ⟨Nat.zero_le _, Nat.zero_le _⟩ (fun μ6 h => ?_)
    have h := h _ rfl
    refine jw_aload_n C.1 dX5_read_27 rfl 0 rfl ?_
    refine jw_getR C.1 iwX5_read_X5 rfl shX_0 rfl 0 (by decide) rfl (List.mem_of_getElem? (i := 2) rfl) dX5_read_28 ?_
    refine jw_iload_n C.1 dX5_read_31 rfl 1 rfl ?_
    refine jw_gVI (rest := []) C.1 dX5_read_32 (e1 1) em_shX_shT_e1_1 (ctX4_valueAsRead l _ _ _ h) miX4_valueAsRead shX_1 rfl gX5_read_X4_valueAsRead rfl (by decide) rfl rfl rfl (Nat.le_of_ble_eq_true rfl) ⟨Nat.zero_le _, Nat.zero_le _⟩ (fun r8 μ9 h => ?_)
    have h := h _ rfl
    exact jw_iret (Q := Q) C h dX5_read_35
  · have h := h.2 c
    refine jw_iconst C.1 dX5_read_7 ki_m1 ?_
    exact jw_iret (Q := Q) C h dX5_read_8
set_option maxRecDepth 100000 in
set_option maxHeartbeats 4000000 in
theorem ctX5_restore (l : Launch) (a1 : Int32) (μ : Mem) (Q : Int32 → Mem → Prop) (h : wpX5_restore a1 μ Q) : Con l yX5_restore wsX5_restore rmX5_restore shX (fun ad => [.ref (ad 0), .int a1]) μ (pI Q) := by
  refine Con.mk (cc := cX5_restore) (maxL := 2) (ret := (some .int)) (own := RX5) (by decide) rfl rfl (fun _ => Nat.le_of_ble_eq_true rfl) (fun K ad hN C => ?_)
  show JW K (0, 0) shX ad μ 0 [(0, .ref (ad 0)), (1, .int a1)] []
  unfold wpX5_restore at h
  refine jw_aload_n C.1 dX5_restore_0 rfl 0 rfl ?_
  refine jw_iload_n C.1 dX5_restore_1 rfl 1 rfl ?_
  refine jw_cVI (rest := []) C.1 dX5_restore_2 em_shX_id (ctX5_isSlot l _ _ _ h) miX5_isSlot shX_0 rfl gX5_restore_X5_isSlot rfl (by decide) rfl rfl rfl (Nat.le_of_ble_eq_true rfl) ⟨Nat.zero_le _, Nat.zero_le _⟩ (fun r1 μ2 h => ?_)
  refine jw_if_ne C.1 11 dX5_restore_5 (by decide) (fun c => ?_) (fun c => ?_)
  · have h := h.1 c
    refine jw_aload_n C.1 dX5_restore_11 rfl 0 rfl ?_
    refine jw_getR C.1 iwX5_restore_X5 rfl shX_0 rfl 4 (by decide) rfl (List.mem_of_getElem? (i := 1) rfl) dX5_restore_12 ?_
    refine jw_iload_n C.1 dX5_restore_15 rfl 1 rfl ?_
    obtain ⟨hi, h⟩ := h
    refine jw_zald C.1 rfl shX_84 hi dX5_restore_16 ?_
    refine jw_if_ne C.1 23 dX5_restore_17 (by decide) (fun c => ?_) (fun c => ?_)
    · have h := h.1 c
      refine jw_aload_n C.1 dX5_restore_23 rfl 0 rfl ?_
      refine jw_getR C.1 iwX5_restore_X5 rfl shX_0 rfl 2 (by decide) rfl (List.mem_of_getElem? (i := 2) rfl) dX5_restore_24 ?_
      refine jw_aload_n C.1 dX5_restore_27 rfl 0 rfl ?_
      refine jw_getR C.1 iwX5_restore_X5 rfl shX_0 rfl 0 (by decide) rfl (List.mem_of_getElem? (i := 3) rfl) dX5_restore_28 ?_
      refine jw_gVV (rest := []) C.1 dX5_restore_31 (e2 50 17 1) em_shX_shHT_e2_50_17_1 (ctX0_record l _ _ h) miX0_record shX_17 rfl gX5_restore_X0_record rfl (by decide) rfl rfl rfl (Nat.le_of_ble_eq_true rfl) ⟨Nat.zero_le _, Nat.zero_le _⟩ (fun μ4 h => ?_)
      have h := h _ rfl
      refine jw_aload_n C.1 dX5_restore_34 rfl 0 rfl ?_
      refine jw_getR C.1 iwX5_restore_X5 rfl shX_0 rfl 0 (by decide) rfl (List.mem_of_getElem? (i := 3) rfl) dX5_restore_35 ?_
      refine jw_aload_n C.1 dX5_restore_38 rfl 0 rfl ?_
      refine jw_getR C.1 iwX5_restore_X5 rfl shX_0 rfl 3 (by decide) rfl (List.mem_of_getElem? (i := 4) rfl) dX5_restore_39 ?_
      refine jw_iload_n C.1 dX5_restore_42 rfl 1 rfl ?_
      obtain ⟨hi, h⟩ := h
      refine jw_aald C.1 rfl shX_67 hi (rf_2_68 hi) dX5_restore_43 ?_
      refine jw_gVV (rest := []) C.1 dX5_restore_44 (e2 8 1 (68 + 8 * Int32.toNatClampNeg _)) (em_shX_shTT_e2_8_1_68i hi) (ctX4_copyFrom l _ _ h) miX4_copyFrom shX_1 rfl gX5_restore_X4_copyFrom rfl (by decide) rfl rfl rfl (Nat.le_of_ble_eq_true rfl) ⟨Nat.zero_le _, Nat.zero_le _⟩ (fun μ7 h => ?_)
      have h := h _ rfl
      refine jw_aload_n C.1 dX5_restore_47 rfl 0 rfl ?_
      refine jw_getR C.1 iwX5_restore_X5 rfl shX_0 rfl 0 (by decide) rfl (List.mem_of_getElem? (i := 3) rfl) dX5_restore_48 ?_
      refine jw_gVI (rest := []) C.1 dX5_restore_51 (e1 1) em_shX_shT_e1_1 (ctX4_stones l _ _ h) miX4_stones shX_1 rfl gX5_restore_X4_stones rfl (by decide) rfl rfl rfl (Nat.le_of_ble_eq_true rfl) ⟨Nat.zero_le _, Nat.zero_le _⟩ (fun r9 μ10 h => ?_)
      have h := h _ rfl
      exact jw_iret (Q := Q) C h dX5_restore_54
    · have h := h.2 c
      refine jw_bipush C.1 dX5_restore_20 kb_m5 ?_
      exact jw_iret (Q := Q) C h dX5_restore_22
  · have h := h.2 c
    refine jw_bipush C.1 dX5_restore_8 kb_m2 ?_
    exact jw_iret (Q := Q) C h dX5_restore_10
set_option maxRecDepth 100000 in
set_option maxHeartbeats 4000000 in
theorem ctX5_same (l : Launch) (a1 : Int32) (a2 : Int32) (μ : Mem) (Q : Int32 → Mem → Prop) (h : wpX5_same a1 a2 μ Q) : Con l yX5_same wsX5_same rmX5_same shX (fun ad => [.ref (ad 0), .int a1, .int a2]) μ (pI Q) := by
  refine Con.mk (cc := cX5_same) (maxL := 3) (ret := (some .int)) (own := RX5) (by decide) rfl rfl (fun _ => Nat.le_of_ble_eq_true rfl) (fun K ad hN C => ?_)
  show JW K (0, 0) shX ad μ 0 [(0, .ref (ad 0)), (1, .int a1), (2, .int a2)] []
  unfold wpX5_same at h
  refine jw_iload_n C.1 dX5_same_0 rfl 1 rfl ?_
  refine jw_eSI (rest := []) C.1 dX5_same_1 (ctX5_isKey l _ _ h _) miX5_isKey gX5_same_X5_isKey (by decide) rfl rfl rfl (Nat.le_of_ble_eq_true rfl) ⟨Nat.zero_le _, Nat.zero_le _⟩ (fun r1 h => ?_)
  refine jw_if_eq C.1 14 dX5_same_4 (by decide) (fun c => ?_) (fun c => ?_)
  · have h := h.1 c
    refine jw_iconst C.1 dX5_same_14 ki_m1 ?_
    exact jw_iret (Q := Q) C h dX5_same_15
  · have h := h.2 c
    refine jw_iload_n C.1 dX5_same_7 rfl 2 rfl ?_
    refine jw_eSI (rest := []) C.1 dX5_same_8 (ctX5_isKey l _ _ h _) miX5_isKey gX5_same_X5_isKey (by decide) rfl rfl rfl (Nat.le_of_ble_eq_true rfl) ⟨Nat.zero_le _, Nat.zero_le _⟩ (fun r2 h => ?_)
    refine jw_if_ne C.1 16 dX5_same_11 (by decide) (fun c => ?_) (fun c => ?_)
    · have h := h.1 c
      refine jw_aload_n C.1 dX5_same_16 rfl 0 rfl ?_
      refine jw_getR C.1 iwX5_same_X5 rfl shX_0 rfl 0 (by decide) rfl (List.mem_of_getElem? (i := 1) rfl) dX5_same_17 ?_
      refine jw_iload_n C.1 dX5_same_20 rfl 1 rfl ?_
      refine jw_gVI (rest := []) C.1 dX5_same_21 (e1 1) em_shX_shT_e1_1 (ctX4_valueAsRead l _ _ _ h) miX4_valueAsRead shX_1 rfl gX5_same_X4_valueAsRead rfl (by decide) rfl rfl rfl (Nat.le_of_ble_eq_true rfl) ⟨Nat.zero_le _, Nat.zero_le _⟩ (fun r3 μ4 h => ?_)
      have h := h _ rfl
      refine jw_aload_n C.1 dX5_same_24 rfl 0 rfl ?_
      refine jw_getR C.1 iwX5_same_X5 rfl shX_0 rfl 0 (by decide) rfl (List.mem_of_getElem? (i := 1) rfl) dX5_same_25 ?_
      refine jw_iload_n C.1 dX5_same_28 rfl 2 rfl ?_
      refine jw_gVI (rest := [.int _]) C.1 dX5_same_29 (e1 1) em_shX_shT_e1_1 (ctX4_valueAsRead l _ _ _ h) miX4_valueAsRead shX_1 rfl gX5_same_X4_valueAsRead rfl (by decide) rfl rfl rfl (Nat.le_of_ble_eq_true rfl) ⟨Nat.zero_le _, Nat.zero_le _⟩ (fun r6 μ7 h => ?_)
      have h := h _ rfl
      refine jw_icmp_ne C.1 39 dX5_same_32 (by decide) (fun c => ?_) (fun c => ?_)
      · have h := h.1 c
        refine jw_iconst C.1 dX5_same_39 ki_0 ?_
        exact jw_iret (Q := Q) C h dX5_same_40
      · have h := h.2 c
        refine jw_iconst C.1 dX5_same_35 ki_1 ?_
        refine jw_goto (tgt := 40) C.1 dX5_same_36 (by decide) ?_
        exact jw_iret (Q := Q) C h dX5_same_40
    · have h := h.2 c
      refine jw_iconst C.1 dX5_same_14 ki_m1 ?_
      exact jw_iret (Q := Q) C h dX5_same_15
set_option maxRecDepth 100000 in
set_option maxHeartbeats 4000000 in
theorem ctX5_save (l : Launch) (a1 : Int32) (μ : Mem) (Q : Int32 → Mem → Prop) (h : wpX5_save a1 μ Q) : Con l yX5_save wsX5_save rmX5_save shX (fun ad => [.ref (ad 0), .int a1]) μ (pI Q) := by
  refine Con.mk (cc := cX5_save) (maxL := 2) (ret := (some .int)) (own := RX5) (by decide) rfl rfl (fun _ => Nat.le_of_ble_eq_true rfl) (fun K ad hN C => ?_)
  show JW K (0, 0) shX ad μ 0 [(0, .ref (ad 0)), (1, .int a1)] []
  unfold wpX5_save at h
  refine jw_aload_n C.1 dX5_save_0 rfl 0 rfl ?_
  refine jw_iload_n C.1 dX5_save_1 rfl 1 rfl ?_
  refine jw_cVI (rest := []) C.1 dX5_save_2 em_shX_id (ctX5_isSlot l _ _ _ h) miX5_isSlot shX_0 rfl gX5_save_X5_isSlot rfl (by decide) rfl rfl rfl (Nat.le_of_ble_eq_true rfl) ⟨Nat.zero_le _, Nat.zero_le _⟩ (fun r1 μ2 h => ?_)
  refine jw_if_ne C.1 11 dX5_save_5 (by decide) (fun c => ?_) (fun c => ?_)
  · have h := h.1 c
    refine jw_aload_n C.1 dX5_save_11 rfl 0 rfl ?_
    refine jw_getR C.1 iwX5_save_X5 rfl shX_0 rfl 3 (by decide) rfl (List.mem_of_getElem? (i := 1) rfl) dX5_save_12 ?_
    refine jw_iload_n C.1 dX5_save_15 rfl 1 rfl ?_
    obtain ⟨hi, h⟩ := h
    refine jw_aald C.1 rfl shX_67 hi (rf_2_68 hi) dX5_save_16 ?_
    refine jw_aload_n C.1 dX5_save_17 rfl 0 rfl ?_
    refine jw_getR C.1 iwX5_save_X5 rfl shX_0 rfl 0 (by decide) rfl (List.mem_of_getElem? (i := 2) rfl) dX5_save_18 ?_
    refine jw_gVV (rest := []) C.1 dX5_save_21 (e2 8 (68 + 8 * Int32.toNatClampNeg _) 1) (em_shX_shTT_e2_8_68i_1 hi) (ctX4_copyFrom l _ _ h) miX4_copyFrom (sa_shX_68 hi) rfl gX5_save_X4_copyFrom rfl (by decide) rfl rfl rfl (Nat.le_of_ble_eq_true rfl) ⟨Nat.zero_le _, Nat.zero_le _⟩ (fun μ4 h => ?_)
    have h := h _ rfl
    refine jw_aload_n C.1 dX5_save_24 rfl 0 rfl ?_
    refine jw_getR C.1 iwX5_save_X5 rfl shX_0 rfl 4 (by decide) rfl (List.mem_of_getElem? (i := 3) rfl) dX5_save_25 ?_
    refine jw_iload_n C.1 dX5_save_28 rfl 1 rfl ?_
    refine jw_iconst C.1 dX5_save_29 ki_1 ?_
    obtain ⟨hi, h⟩ := h
    refine jw_zast C.1 rfl shX_84 hi dX5_save_30 ?_
    have h := h _ rfl
    refine jw_aload_n C.1 dX5_save_31 rfl 0 rfl ?_
    refine jw_getR C.1 iwX5_save_X5 rfl shX_0 rfl 0 (by decide) rfl (List.mem_of_getElem? (i := 2) rfl) dX5_save_32 ?_
    refine jw_gVI (rest := []) C.1 dX5_save_35 (e1 1) em_shX_shT_e1_1 (ctX4_stones l _ _ h) miX4_stones shX_1 rfl gX5_save_X4_stones rfl (by decide) rfl rfl rfl (Nat.le_of_ble_eq_true rfl) ⟨Nat.zero_le _, Nat.zero_le _⟩ (fun r7 μ8 h => ?_)
    have h := h _ rfl
    exact jw_iret (Q := Q) C h dX5_save_38
  · have h := h.2 c
    refine jw_bipush C.1 dX5_save_8 kb_m2 ?_
    exact jw_iret (Q := Q) C h dX5_save_10
set_option maxRecDepth 100000 in
set_option maxHeartbeats 4000000 in
theorem jbX5_send_41 {K : KT} {l : Launch} {ad : Nat → Nat} {Q : Int32 → Mem → Prop} (hN : kN K = 5) (C : CtxM K l cX5_send RX5 wsX5_send rmX5_send shX ad (some .int) (pI Q)) (x1 : Int32) (x2 : Int32) (x3 : Int32) (x4 : Int32) (μ : Mem) (h : bkX5_send_41 Q x1 x2 x3 x4 μ) : JW K (0, 0) shX ad μ 41 [(0, .ref (ad 0)), (1, .int x1), (2, .int x2), (3, .int x3), (4, .int x4)] [] := by
  unfold bkX5_send_41 at h
  refine jw_aload_n C.1 dX5_send_41 rfl 0 rfl ?_
  refine jw_getR C.1 iwX5_send_X5 rfl shX_0 rfl 2 (by decide) rfl (List.mem_of_getElem? (i := 1) rfl) dX5_send_42 ?_
  refine jw_aload_n C.1 dX5_send_45 rfl 0 rfl ?_
  refine jw_getR C.1 iwX5_send_X5 rfl shX_0 rfl 0 (by decide) rfl (List.mem_of_getElem? (i := 2) rfl) dX5_send_46 ?_
  refine jw_gVV (rest := []) C.1 dX5_send_49 (e2 50 17 1) em_shX_shHT_e2_50_17_1 (ctX0_record l _ _ h) miX0_record shX_17 rfl gX5_send_X0_record rfl (by decide) rfl rfl rfl (Nat.le_of_ble_eq_true rfl) ⟨Nat.zero_le _, Nat.zero_le _⟩ (fun μ4 h => ?_)
  have h := h _ rfl
  refine jw_aload_n C.1 dX5_send_52 rfl 0 rfl ?_
  refine jw_getR C.1 iwX5_send_X5 rfl shX_0 rfl 0 (by decide) rfl (List.mem_of_getElem? (i := 2) rfl) dX5_send_53 ?_
  refine jw_iload_n C.1 dX5_send_56 rfl 1 rfl ?_
  refine jw_iload_n C.1 dX5_send_57 rfl 2 rfl ?_
  refine jw_iload_n C.1 dX5_send_58 rfl 3 rfl ?_
  refine jw_iload C.1 dX5_send_59 4 rfl ?_
  refine jw_eSI (rest := [.ref _]) C.1 dX5_send_61 (ctX3_of l _ _ _ _ _ h _) miX3_of gX5_send_X3_of (by decide) rfl rfl rfl (Nat.le_of_ble_eq_true rfl) ⟨Nat.zero_le _, Nat.zero_le _⟩ (fun r6 h => ?_)
  refine jw_gVV (rest := []) C.1 dX5_send_64 (e1 1) em_shX_shT_e1_1 (ctX4_drop l _ _ _ h) miX4_drop shX_1 rfl gX5_send_X4_drop rfl (by decide) rfl rfl rfl (Nat.le_of_ble_eq_true rfl) ⟨Nat.zero_le _, Nat.zero_le _⟩ (fun μ8 h => ?_)
  have h := h _ rfl
  refine jw_aload_n C.1 dX5_send_67 rfl 0 rfl ?_
  refine jw_getR C.1 iwX5_send_X5 rfl shX_0 rfl 0 (by decide) rfl (List.mem_of_getElem? (i := 2) rfl) dX5_send_68 ?_
  refine jw_gVI (rest := []) C.1 dX5_send_71 (e1 1) em_shX_shT_e1_1 (ctX4_stones l _ _ h) miX4_stones shX_1 rfl gX5_send_X4_stones rfl (by decide) rfl rfl rfl (Nat.le_of_ble_eq_true rfl) ⟨Nat.zero_le _, Nat.zero_le _⟩ (fun r10 μ11 h => ?_)
  have h := h _ rfl
  exact jw_iret (Q := Q) C h dX5_send_74
set_option maxRecDepth 100000 in
set_option maxHeartbeats 4000000 in
theorem ctX5_send (l : Launch) (a1 : Int32) (a2 : Int32) (a3 : Int32) (a4 : Int32) (μ : Mem) (Q : Int32 → Mem → Prop) (h : wpX5_send a1 a2 a3 a4 μ Q) : Con l yX5_send wsX5_send rmX5_send shX (fun ad => [.ref (ad 0), .int a1, .int a2, .int a3, .int a4]) μ (pI Q) := by
  refine Con.mk (cc := cX5_send) (maxL := 5) (ret := (some .int)) (own := RX5) (by decide) rfl rfl (fun _ => Nat.le_of_ble_eq_true rfl) (fun K ad hN C => ?_)
  show JW K (0, 0) shX ad μ 0 [(0, .ref (ad 0)), (1, .int a1), (2, .int a2), (3, .int a3), (4, .int a4)] []
  unfold wpX5_send at h
  refine jw_iload_n C.1 dX5_send_0 rfl 1 rfl ?_
  refine jw_if_lt C.1 18 dX5_send_1 (by decide) (fun c => ?_) (fun c => ?_)
  · have h := h.1 c
    refine jw_bipush C.1 dX5_send_18 kb_m2 ?_
    exact jw_iret (Q := Q) C h dX5_send_20
  · have h := h.2 c
    refine jw_iload_n C.1 dX5_send_4 rfl 1 rfl ?_
    refine jw_iconst C.1 dX5_send_5 ki_2 ?_
    refine jw_icmp_gt C.1 18 dX5_send_6 (by decide) (fun c => ?_) (fun c => ?_)
    · have h := h.1 c
      refine jw_bipush C.1 dX5_send_18 kb_m2 ?_
      exact jw_iret (Q := Q) C h dX5_send_20
    · have h := h.2 c
      refine jw_iload_n C.1 dX5_send_9 rfl 1 rfl ?_
      refine jw_iload C.1 dX5_send_10 4 rfl ?_
      refine jw_eSI (rest := []) C.1 dX5_send_12 (ctX5_isNumberFor l _ _ _ h _) miX5_isNumberFor gX5_send_X5_isNumberFor (by decide) rfl rfl rfl (Nat.le_of_ble_eq_true rfl) ⟨Nat.zero_le _, Nat.zero_le _⟩ (fun r1 h => ?_)
      refine jw_if_ne C.1 21 dX5_send_15 (by decide) (fun c => ?_) (fun c => ?_)
      · have h := h.1 c
        refine jw_iload_n C.1 dX5_send_21 rfl 2 rfl ?_
        refine jw_iload_n C.1 dX5_send_22 rfl 3 rfl ?_
        refine jw_eSI (rest := []) C.1 dX5_send_23 (ctX5_isPiece l _ _ _ h _) miX5_isPiece gX5_send_X5_isPiece (by decide) rfl rfl rfl (Nat.le_of_ble_eq_true rfl) ⟨Nat.zero_le _, Nat.zero_le _⟩ (fun r2 h => ?_)
        refine jw_if_eq C.1 39 dX5_send_26 (by decide) (fun c => ?_) (fun c => ?_)
        · have h := h.1 c
          refine jw_iconst C.1 dX5_send_39 ki_m1 ?_
          exact jw_iret (Q := Q) C h dX5_send_40
        · have h := h.2 c
          refine jw_iload_n C.1 dX5_send_29 rfl 1 rfl ?_
          refine jw_iconst C.1 dX5_send_30 ki_1 ?_
          refine jw_icmp_eq C.1 41 dX5_send_31 (by decide) (fun c => ?_) (fun c => ?_)
          · have h := h.1 c
            exact jbX5_send_41 hN C _ _ _ _ _ h
          · have h := h.2 c
            refine jw_iload_n C.1 dX5_send_34 rfl 3 rfl ?_
            refine jw_iload_n C.1 dX5_send_35 rfl 2 rfl ?_
            refine jw_icmp_eq C.1 41 dX5_send_36 (by decide) (fun c => ?_) (fun c => ?_)
            · have h := h.1 c
              exact jbX5_send_41 hN C _ _ _ _ _ h
            · have h := h.2 c
              refine jw_iconst C.1 dX5_send_39 ki_m1 ?_
              exact jw_iret (Q := Q) C h dX5_send_40
      · have h := h.2 c
        refine jw_bipush C.1 dX5_send_18 kb_m2 ?_
        exact jw_iret (Q := Q) C h dX5_send_20
set_option maxRecDepth 100000 in
set_option maxHeartbeats 4000000 in
theorem ctX5_set (l : Launch) (a1 : Int32) (a2 : Int32) (μ : Mem) (Q : Int32 → Mem → Prop) (h : wpX5_set a1 a2 μ Q) : Con l yX5_set wsX5_set rmX5_set shX (fun ad => [.ref (ad 0), .int a1, .int a2]) μ (pI Q) := by
  refine Con.mk (cc := cX5_set) (maxL := 3) (ret := (some .int)) (own := RX5) (by decide) rfl rfl (fun _ => Nat.le_of_ble_eq_true rfl) (fun K ad hN C => ?_)
  show JW K (0, 0) shX ad μ 0 [(0, .ref (ad 0)), (1, .int a1), (2, .int a2)] []
  unfold wpX5_set at h
  refine jw_iload_n C.1 dX5_set_0 rfl 1 rfl ?_
  refine jw_iload_n C.1 dX5_set_1 rfl 2 rfl ?_
  refine jw_eSI (rest := []) C.1 dX5_set_2 (ctX5_isSettingValue l _ _ _ h _) miX5_isSettingValue gX5_set_X5_isSettingValue (by decide) rfl rfl rfl (Nat.le_of_ble_eq_true rfl) ⟨Nat.zero_le _, Nat.zero_le _⟩ (fun r1 h => ?_)
  refine jw_if_ne C.1 11 dX5_set_5 (by decide) (fun c => ?_) (fun c => ?_)
  · have h := h.1 c
    refine jw_aload_n C.1 dX5_set_11 rfl 0 rfl ?_
    refine jw_getR C.1 iwX5_set_X5 rfl shX_0 rfl 2 (by decide) rfl (List.mem_of_getElem? (i := 1) rfl) dX5_set_12 ?_
    refine jw_aload_n C.1 dX5_set_15 rfl 0 rfl ?_
    refine jw_getR C.1 iwX5_set_X5 rfl shX_0 rfl 0 (by decide) rfl (List.mem_of_getElem? (i := 2) rfl) dX5_set_16 ?_
    refine jw_gVV (rest := []) C.1 dX5_set_19 (e2 50 17 1) em_shX_shHT_e2_50_17_1 (ctX0_record l _ _ h) miX0_record shX_17 rfl gX5_set_X0_record rfl (by decide) rfl rfl rfl (Nat.le_of_ble_eq_true rfl) ⟨Nat.zero_le _, Nat.zero_le _⟩ (fun μ3 h => ?_)
    have h := h _ rfl
    refine jw_aload_n C.1 dX5_set_22 rfl 0 rfl ?_
    refine jw_getR C.1 iwX5_set_X5 rfl shX_0 rfl 0 (by decide) rfl (List.mem_of_getElem? (i := 2) rfl) dX5_set_23 ?_
    refine jw_iload_n C.1 dX5_set_26 rfl 1 rfl ?_
    refine jw_iload_n C.1 dX5_set_27 rfl 2 rfl ?_
    refine jw_gVI (rest := []) C.1 dX5_set_28 (e1 1) em_shX_shT_e1_1 (ctX4_changeSetting l _ _ _ _ h) miX4_changeSetting shX_1 rfl gX5_set_X4_changeSetting rfl (by decide) rfl rfl rfl (Nat.le_of_ble_eq_true rfl) ⟨Nat.zero_le _, Nat.zero_le _⟩ (fun r5 μ6 h => ?_)
    have h := h _ rfl
    exact jw_iret (Q := Q) C h dX5_set_31
  · have h := h.2 c
    refine jw_bipush C.1 dX5_set_8 kb_m2 ?_
    exact jw_iret (Q := Q) C h dX5_set_10
set_option maxRecDepth 100000 in
set_option maxHeartbeats 4000000 in
theorem ctX5_stone (l : Launch) (a1 : Int32) (a2 : Int32) (a3 : Int32) (μ : Mem) (Q : Int32 → Mem → Prop) (h : wpX5_stone a1 a2 a3 μ Q) : Con l yX5_stone wsX5_stone rmX5_stone shX (fun ad => [.ref (ad 0), .int a1, .int a2, .int a3]) μ (pI Q) := by
  refine Con.mk (cc := cX5_stone) (maxL := 5) (ret := (some .int)) (own := RX5) (by decide) rfl rfl (fun _ => Nat.le_of_ble_eq_true rfl) (fun K ad hN C => ?_)
  show JW K (0, 0) shX ad μ 0 [(0, .ref (ad 0)), (1, .int a1), (2, .int a2), (3, .int a3)] []
  have hN_4 : 4 < kN K := by rw [hN]; decide
  unfold wpX5_stone at h
  refine jw_iload_n C.1 dX5_stone_0 rfl 1 rfl ?_
  refine jw_eSI (rest := []) C.1 dX5_stone_1 (ctX5_isNode l _ _ h _) miX5_isNode gX5_stone_X5_isNode (by decide) rfl rfl rfl (Nat.le_of_ble_eq_true rfl) ⟨Nat.zero_le _, Nat.zero_le _⟩ (fun r1 h => ?_)
  refine jw_if_eq C.1 23 dX5_stone_4 (by decide) (fun c => ?_) (fun c => ?_)
  · have h := h.1 c
    refine jw_iconst C.1 dX5_stone_23 ki_m1 ?_
    exact jw_iret (Q := Q) C h dX5_stone_24
  · have h := h.2 c
    refine jw_iload_n C.1 dX5_stone_7 rfl 2 rfl ?_
    refine jw_if_lt C.1 23 dX5_stone_8 (by decide) (fun c => ?_) (fun c => ?_)
    · have h := h.1 c
      refine jw_iconst C.1 dX5_stone_23 ki_m1 ?_
      exact jw_iret (Q := Q) C h dX5_stone_24
    · have h := h.2 c
      refine jw_iload_n C.1 dX5_stone_11 rfl 2 rfl ?_
      refine jw_aload_n C.1 dX5_stone_12 rfl 0 rfl ?_
      refine jw_getR C.1 iwX5_stone_X5 rfl shX_0 rfl 0 (by decide) rfl (List.mem_of_getElem? (i := 1) rfl) dX5_stone_13 ?_
      refine jw_iload_n C.1 dX5_stone_16 rfl 1 rfl ?_
      refine jw_gVI (rest := [.int _]) C.1 dX5_stone_17 (e1 1) em_shX_shT_e1_1 (ctX4_stonesIn l _ _ _ h) miX4_stonesIn shX_1 rfl gX5_stone_X4_stonesIn rfl (by decide) rfl rfl rfl (Nat.le_of_ble_eq_true rfl) ⟨Nat.zero_le _, Nat.zero_le _⟩ (fun r2 μ3 h => ?_)
      have h := h _ rfl
      refine jw_icmp_lt C.1 25 dX5_stone_20 (by decide) (fun c => ?_) (fun c => ?_)
      · have h := h.1 c
        refine jw_aload_n C.1 dX5_stone_25 rfl 0 rfl ?_
        refine jw_getR C.1 iwX5_stone_X5 rfl shX_0 rfl 0 (by decide) rfl (List.mem_of_getElem? (i := 1) rfl) dX5_stone_26 ?_
        refine jw_iload_n C.1 dX5_stone_29 rfl 1 rfl ?_
        refine jw_iload_n C.1 dX5_stone_30 rfl 2 rfl ?_
        refine jw_gVI (rest := []) C.1 dX5_stone_31 (e1 1) em_shX_shT_e1_1 (ctX4_stoneAt l _ _ _ _ h) miX4_stoneAt shX_1 rfl gX5_stone_X4_stoneAt rfl (by decide) rfl rfl rfl (Nat.le_of_ble_eq_true rfl) ⟨Nat.zero_le _, Nat.zero_le _⟩ (fun r5 μ6 h => ?_)
        have h := h _ rfl
        refine jw_istore (lw := [(4, .int _), (0, .ref _), (1, .int _), (2, .int _), (3, .int _)]) C.1 dX5_stone_34 hN_4 rfl ?_
        refine jw_iload_n C.1 dX5_stone_36 rfl 4 rfl ?_
        by_cases c0 : a3 = (0 : Int32)
        · have h := h.1 c0
          refine jw_tsIn C.1 (0 : Int32) 68 dX5_stone_37 c0 (by decide) (by decide) (off := 31) (by decide +kernel) (by decide) ?_
          refine jw_iload C.1 dX5_stone_68 0 rfl ?_
          refine jw_eSI (rest := []) C.1 dX5_stone_70 (ctX3_kind l _ _ h _) miX3_kind gX5_stone_X3_kind (by decide) rfl rfl rfl (Nat.le_of_ble_eq_true rfl) ⟨Nat.zero_le _, Nat.zero_le _⟩ (fun r8 h => ?_)
          exact jw_iret (Q := Q) C h dX5_stone_73
        · have h := h.2 c0
          by_cases c1 : a3 = (1 : Int32)
          · have h := h.1 c1
            refine jw_tsIn C.1 (1 : Int32) 74 dX5_stone_37 c1 (by decide) (by decide) (off := 37) (by decide +kernel) (by decide) ?_
            refine jw_iload C.1 dX5_stone_74 0 rfl ?_
            refine jw_eSI (rest := []) C.1 dX5_stone_76 (ctX3_first l _ _ h _) miX3_first gX5_stone_X3_first (by decide) rfl rfl rfl (Nat.le_of_ble_eq_true rfl) ⟨Nat.zero_le _, Nat.zero_le _⟩ (fun r9 h => ?_)
            exact jw_iret (Q := Q) C h dX5_stone_79
          · have h := h.2 c1
            by_cases c2 : a3 = (2 : Int32)
            · have h := h.1 c2
              refine jw_tsIn C.1 (2 : Int32) 80 dX5_stone_37 c2 (by decide) (by decide) (off := 43) (by decide +kernel) (by decide) ?_
              refine jw_iload C.1 dX5_stone_80 0 rfl ?_
              refine jw_eSI (rest := []) C.1 dX5_stone_82 (ctX3_last l _ _ h _) miX3_last gX5_stone_X3_last (by decide) rfl rfl rfl (Nat.le_of_ble_eq_true rfl) ⟨Nat.zero_le _, Nat.zero_le _⟩ (fun r10 h => ?_)
              exact jw_iret (Q := Q) C h dX5_stone_85
            · have h := h.2 c2
              by_cases c3 : a3 = (3 : Int32)
              · have h := h.1 c3
                refine jw_tsIn C.1 (3 : Int32) 86 dX5_stone_37 c3 (by decide) (by decide) (off := 49) (by decide +kernel) (by decide) ?_
                refine jw_iload C.1 dX5_stone_86 0 rfl ?_
                refine jw_eSI (rest := []) C.1 dX5_stone_88 (ctX3_number l _ _ h _) miX3_number gX5_stone_X3_number (by decide) rfl rfl rfl (Nat.le_of_ble_eq_true rfl) ⟨Nat.zero_le _, Nat.zero_le _⟩ (fun r11 h => ?_)
                exact jw_iret (Q := Q) C h dX5_stone_91
              · have h := h.2 c3
                refine jw_tsOut C.1 92 dX5_stone_37 (by have e0 := lv_neT c0 (a := 0) rfl; have e1 := lv_neT c1 (a := 1) rfl; have e2 := lv_neT c2 (a := 2) rfl; have e3 := lv_neT c3 (a := 3) rfl; omega) (by decide) ?_
                refine jw_bipush C.1 dX5_stone_92 kb_m2 ?_
                exact jw_iret (Q := Q) C h dX5_stone_94
      · have h := h.2 c
        refine jw_iconst C.1 dX5_stone_23 ki_m1 ?_
        exact jw_iret (Q := Q) C h dX5_stone_24
set_option maxRecDepth 100000 in
set_option maxHeartbeats 4000000 in
theorem ctX5_sum (l : Launch) (a1 : Int32) (a2 : Int32) (μ : Mem) (Q : Int32 → Mem → Prop) (h : wpX5_sum a1 a2 μ Q) : Con l yX5_sum wsX5_sum rmX5_sum shX (fun ad => [.ref (ad 0), .int a1, .int a2]) μ (pI Q) := by
  refine Con.mk (cc := cX5_sum) (maxL := 3) (ret := (some .int)) (own := RX5) (by decide) rfl rfl (fun _ => Nat.le_of_ble_eq_true rfl) (fun K ad hN C => ?_)
  show JW K (0, 0) shX ad μ 0 [(0, .ref (ad 0)), (1, .int a1), (2, .int a2)] []
  unfold wpX5_sum at h
  refine jw_iload_n C.1 dX5_sum_0 rfl 1 rfl ?_
  refine jw_iload_n C.1 dX5_sum_1 rfl 2 rfl ?_
  refine jw_eSI (rest := []) C.1 dX5_sum_2 (ctX5_isPiece l _ _ _ h _) miX5_isPiece gX5_sum_X5_isPiece (by decide) rfl rfl rfl (Nat.le_of_ble_eq_true rfl) ⟨Nat.zero_le _, Nat.zero_le _⟩ (fun r1 h => ?_)
  refine jw_if_ne C.1 10 dX5_sum_5 (by decide) (fun c => ?_) (fun c => ?_)
  · have h := h.1 c
    refine jw_aload_n C.1 dX5_sum_10 rfl 0 rfl ?_
    refine jw_getR C.1 iwX5_sum_X5 rfl shX_0 rfl 0 (by decide) rfl (List.mem_of_getElem? (i := 1) rfl) dX5_sum_11 ?_
    refine jw_iload_n C.1 dX5_sum_14 rfl 1 rfl ?_
    refine jw_iload_n C.1 dX5_sum_15 rfl 2 rfl ?_
    refine jw_gVI (rest := []) C.1 dX5_sum_16 (e1 1) em_shX_shT_e1_1 (ctX4_sumAsRead l _ _ _ _ h) miX4_sumAsRead shX_1 rfl gX5_sum_X4_sumAsRead rfl (by decide) rfl rfl rfl (Nat.le_of_ble_eq_true rfl) ⟨Nat.zero_le _, Nat.zero_le _⟩ (fun r2 μ3 h => ?_)
    have h := h _ rfl
    exact jw_iret (Q := Q) C h dX5_sum_19
  · have h := h.2 c
    refine jw_iconst C.1 dX5_sum_8 ki_m1 ?_
    exact jw_iret (Q := Q) C h dX5_sum_9
set_option maxRecDepth 100000 in
set_option maxHeartbeats 4000000 in
theorem ctX5_sunkBySetting (l : Launch) (a1 : Int32) (μ : Mem) (Q : Int32 → Mem → Prop) (h : wpX5_sunkBySetting a1 μ Q) : Con l yX5_sunkBySetting wsX5_sunkBySetting rmX5_sunkBySetting shX (fun ad => [.ref (ad 0), .int a1]) μ (pI Q) := by
  refine Con.mk (cc := cX5_sunkBySetting) (maxL := 2) (ret := (some .int)) (own := RX5) (by decide) rfl rfl (fun _ => Nat.le_of_ble_eq_true rfl) (fun K ad hN C => ?_)
  show JW K (0, 0) shX ad μ 0 [(0, .ref (ad 0)), (1, .int a1)] []
  unfold wpX5_sunkBySetting at h
  refine jw_aload_n C.1 dX5_sunkBySetting_0 rfl 0 rfl ?_
  refine jw_getR C.1 iwX5_sunkBySetting_X5 rfl shX_0 rfl 1 (by decide) rfl (List.mem_of_getElem? (i := 1) rfl) dX5_sunkBySetting_1 ?_
  refine jw_aload_n C.1 dX5_sunkBySetting_4 rfl 0 rfl ?_
  refine jw_getR C.1 iwX5_sunkBySetting_X5 rfl shX_0 rfl 0 (by decide) rfl (List.mem_of_getElem? (i := 2) rfl) dX5_sunkBySetting_5 ?_
  refine jw_gVV (rest := []) C.1 dX5_sunkBySetting_8 (e2 8 9 1) em_shX_shTT_e2_8_9_1 (ctX4_copyFrom l _ _ h) miX4_copyFrom shX_9 rfl gX5_sunkBySetting_X4_copyFrom rfl (by decide) rfl rfl rfl (Nat.le_of_ble_eq_true rfl) ⟨Nat.zero_le _, Nat.zero_le _⟩ (fun μ2 h => ?_)
  have h := h _ rfl
  refine jw_aload_n C.1 dX5_sunkBySetting_11 rfl 0 rfl ?_
  refine jw_getR C.1 iwX5_sunkBySetting_X5 rfl shX_0 rfl 1 (by decide) rfl (List.mem_of_getElem? (i := 1) rfl) dX5_sunkBySetting_12 ?_
  refine jw_iconst C.1 dX5_sunkBySetting_15 ki_0 ?_
  refine jw_iload_n C.1 dX5_sunkBySetting_16 rfl 1 rfl ?_
  refine jw_iload_n C.1 dX5_sunkBySetting_17 rfl 1 rfl ?_
  refine jw_iconst C.1 dX5_sunkBySetting_18 ki_0 ?_
  refine jw_eSI (rest := [.ref _]) C.1 dX5_sunkBySetting_19 (ctX3_of l _ _ _ _ _ h _) miX3_of gX5_sunkBySetting_X3_of (by decide) rfl rfl rfl (Nat.le_of_ble_eq_true rfl) ⟨Nat.zero_le _, Nat.zero_le _⟩ (fun r4 h => ?_)
  refine jw_gVV (rest := []) C.1 dX5_sunkBySetting_22 (e1 9) em_shX_shT_e1_9 (ctX4_drop l _ _ _ h) miX4_drop shX_9 rfl gX5_sunkBySetting_X4_drop rfl (by decide) rfl rfl rfl (Nat.le_of_ble_eq_true rfl) ⟨Nat.zero_le _, Nat.zero_le _⟩ (fun μ6 h => ?_)
  have h := h _ rfl
  refine jw_aload_n C.1 dX5_sunkBySetting_25 rfl 0 rfl ?_
  refine jw_getR C.1 iwX5_sunkBySetting_X5 rfl shX_0 rfl 1 (by decide) rfl (List.mem_of_getElem? (i := 1) rfl) dX5_sunkBySetting_26 ?_
  refine jw_gVI (rest := []) C.1 dX5_sunkBySetting_29 (e1 9) em_shX_shT_e1_9 (ctX4_allStonesSunk l _ _ h) miX4_allStonesSunk shX_9 rfl gX5_sunkBySetting_X4_allStonesSunk rfl (by decide) rfl rfl rfl (Nat.le_of_ble_eq_true rfl) ⟨Nat.zero_le _, Nat.zero_le _⟩ (fun r8 μ9 h => ?_)
  have h := h _ rfl
  refine jw_aload_n C.1 dX5_sunkBySetting_32 rfl 0 rfl ?_
  refine jw_getR C.1 iwX5_sunkBySetting_X5 rfl shX_0 rfl 0 (by decide) rfl (List.mem_of_getElem? (i := 2) rfl) dX5_sunkBySetting_33 ?_
  refine jw_gVI (rest := [.int _]) C.1 dX5_sunkBySetting_36 (e1 1) em_shX_shT_e1_1 (ctX4_allStonesSunk l _ _ h) miX4_allStonesSunk shX_1 rfl gX5_sunkBySetting_X4_allStonesSunk rfl (by decide) rfl rfl rfl (Nat.le_of_ble_eq_true rfl) ⟨Nat.zero_le _, Nat.zero_le _⟩ (fun r11 μ12 h => ?_)
  have h := h _ rfl
  refine jw_isub C.1 dX5_sunkBySetting_39 ?_
  exact jw_iret (Q := Q) C h dX5_sunkBySetting_40
set_option maxRecDepth 100000 in
set_option maxHeartbeats 4000000 in
theorem jbX5_toEmptyAll_13 {K : KT} {l : Launch} {ad : Nat → Nat} {Q : Int32 → Mem → Prop} (hN : kN K = 2) (C : CtxM K l cX5_toEmptyAll RX5 wsX5_toEmptyAll rmX5_toEmptyAll shX ad (some .int) (pI Q)) : ∀ (n : Nat) (x1 : Int32) (μ : Mem), bkX5_toEmptyAll_13 Q n x1 μ → JW K (0, 0) shX ad μ 13 [(0, .ref (ad 0)), (1, .int x1)] [] := by
  have hN_1 : 1 < kN K := by rw [hN]; decide
  intro n
  induction n with
  | zero =>
    intro x1 μ h
    exact h.elim
  | succ n ih =>
    intro x1 μ h
    unfold bkX5_toEmptyAll_13 at h
    refine jw_iload_n C.1 dX5_toEmptyAll_13 rfl 1 rfl ?_
    refine jw_bipush C.1 dX5_toEmptyAll_14 kb_13 ?_
    refine jw_icmp_ge C.1 33 dX5_toEmptyAll_16 (by decide) (fun c => ?_) (fun c => ?_)
    · have h := h.1 c
      refine jw_aload_n C.1 dX5_toEmptyAll_33 rfl 0 rfl ?_
      refine jw_getR C.1 iwX5_toEmptyAll_X5 rfl shX_0 rfl 1 (by decide) rfl (List.mem_of_getElem? (i := 1) rfl) dX5_toEmptyAll_34 ?_
      refine jw_gVI (rest := []) C.1 dX5_toEmptyAll_37 (e1 9) em_shX_shT_e1_9 (ctX4_allStonesSunk l _ _ h) miX4_allStonesSunk shX_9 rfl gX5_toEmptyAll_X4_allStonesSunk rfl (by decide) rfl rfl rfl (Nat.le_of_ble_eq_true rfl) ⟨Nat.zero_le _, Nat.zero_le _⟩ (fun r4 μ5 h => ?_)
      have h := h _ rfl
      refine jw_aload_n C.1 dX5_toEmptyAll_40 rfl 0 rfl ?_
      refine jw_getR C.1 iwX5_toEmptyAll_X5 rfl shX_0 rfl 0 (by decide) rfl (List.mem_of_getElem? (i := 2) rfl) dX5_toEmptyAll_41 ?_
      refine jw_gVI (rest := [.int _]) C.1 dX5_toEmptyAll_44 (e1 1) em_shX_shT_e1_1 (ctX4_allStonesSunk l _ _ h) miX4_allStonesSunk shX_1 rfl gX5_toEmptyAll_X4_allStonesSunk rfl (by decide) rfl rfl rfl (Nat.le_of_ble_eq_true rfl) ⟨Nat.zero_le _, Nat.zero_le _⟩ (fun r7 μ8 h => ?_)
      have h := h _ rfl
      refine jw_isub C.1 dX5_toEmptyAll_47 ?_
      exact jw_iret (Q := Q) C h dX5_toEmptyAll_48
    · have h := h.2 c
      refine jw_aload_n C.1 dX5_toEmptyAll_19 rfl 0 rfl ?_
      refine jw_getR C.1 iwX5_toEmptyAll_X5 rfl shX_0 rfl 1 (by decide) rfl (List.mem_of_getElem? (i := 1) rfl) dX5_toEmptyAll_20 ?_
      refine jw_iload_n C.1 dX5_toEmptyAll_23 rfl 1 rfl ?_
      refine jw_gVV (rest := []) C.1 dX5_toEmptyAll_24 (e1 9) em_shX_shT_e1_9 (ctX4_emptyBuffer l _ _ _ h) miX4_emptyBuffer shX_9 rfl gX5_toEmptyAll_X4_emptyBuffer rfl (by decide) rfl rfl rfl (Nat.le_of_ble_eq_true rfl) ⟨Nat.zero_le _, Nat.zero_le _⟩ (fun μ11 h => ?_)
      have h := h _ rfl
      refine jw_iinc (lw := [(1, .int _), (0, .ref _)]) (q := 1) C.1 dX5_toEmptyAll_27 rfl (ai_1 _) hN_1 rfl ?_
      have h := h _ rfl
      refine jw_goto (tgt := 13) C.1 dX5_toEmptyAll_30 (by decide) ?_
      refine jw_sub [1, 0] rfl ?_
      exact ih _ _ h
set_option maxRecDepth 100000 in
set_option maxHeartbeats 4000000 in
theorem ctX5_toEmptyAll (l : Launch) (μ : Mem) (Q : Int32 → Mem → Prop) (h : wpX5_toEmptyAll μ Q) : Con l yX5_toEmptyAll wsX5_toEmptyAll rmX5_toEmptyAll shX (fun ad => [.ref (ad 0)]) μ (pI Q) := by
  refine Con.mk (cc := cX5_toEmptyAll) (maxL := 2) (ret := (some .int)) (own := RX5) (by decide) rfl rfl (fun _ => Nat.le_of_ble_eq_true rfl) (fun K ad hN C => ?_)
  show JW K (0, 0) shX ad μ 0 [(0, .ref (ad 0))] []
  have hN_1 : 1 < kN K := by rw [hN]; decide
  unfold wpX5_toEmptyAll at h
  refine jw_aload_n C.1 dX5_toEmptyAll_0 rfl 0 rfl ?_
  refine jw_getR C.1 iwX5_toEmptyAll_X5 rfl shX_0 rfl 1 (by decide) rfl (List.mem_of_getElem? (i := 1) rfl) dX5_toEmptyAll_1 ?_
  refine jw_aload_n C.1 dX5_toEmptyAll_4 rfl 0 rfl ?_
  refine jw_getR C.1 iwX5_toEmptyAll_X5 rfl shX_0 rfl 0 (by decide) rfl (List.mem_of_getElem? (i := 2) rfl) dX5_toEmptyAll_5 ?_
  refine jw_gVV (rest := []) C.1 dX5_toEmptyAll_8 (e2 8 9 1) em_shX_shTT_e2_8_9_1 (ctX4_copyFrom l _ _ h) miX4_copyFrom shX_9 rfl gX5_toEmptyAll_X4_copyFrom rfl (by decide) rfl rfl rfl (Nat.le_of_ble_eq_true rfl) ⟨Nat.zero_le _, Nat.zero_le _⟩ (fun μ2 h => ?_)
  have h := h _ rfl
  refine jw_iconst C.1 dX5_toEmptyAll_11 ki_0 ?_
  refine jw_istore_n (lw := [(1, .int _), (0, .ref _)]) C.1 dX5_toEmptyAll_12 rfl hN_1 rfl ?_
  obtain ⟨n, h⟩ := h
  refine jw_sub [1, 0] rfl ?_
  exact jbX5_toEmptyAll_13 hN C n _ _ h
set_option maxRecDepth 100000 in
set_option maxHeartbeats 4000000 in
theorem ctX5_undo (l : Launch) (μ : Mem) (Q : Int32 → Mem → Prop) (h : wpX5_undo μ Q) : Con l yX5_undo wsX5_undo rmX5_undo shX (fun ad => [.ref (ad 0)]) μ (pI Q) := by
  refine Con.mk (cc := cX5_undo) (maxL := 1) (ret := (some .int)) (own := RX5) (by decide) rfl rfl (fun _ => Nat.le_of_ble_eq_true rfl) (fun K ad hN C => ?_)
  show JW K (0, 0) shX ad μ 0 [(0, .ref (ad 0))] []
  unfold wpX5_undo at h
  refine jw_aload_n C.1 dX5_undo_0 rfl 0 rfl ?_
  refine jw_getR C.1 iwX5_undo_X5 rfl shX_0 rfl 2 (by decide) rfl (List.mem_of_getElem? (i := 1) rfl) dX5_undo_1 ?_
  refine jw_gVI (rest := []) C.1 dX5_undo_4 (e1 17) em_shX_shH_e1_17 (ctX0_states l _ _ h) miX0_states shX_17 rfl gX5_undo_X0_states rfl (by decide) rfl rfl rfl (Nat.le_of_ble_eq_true rfl) ⟨Nat.zero_le _, Nat.zero_le _⟩ (fun r1 μ2 h => ?_)
  have h := h _ rfl
  refine jw_if_ne C.1 13 dX5_undo_7 (by decide) (fun c => ?_) (fun c => ?_)
  · have h := h.1 c
    refine jw_aload_n C.1 dX5_undo_13 rfl 0 rfl ?_
    refine jw_getR C.1 iwX5_undo_X5 rfl shX_0 rfl 2 (by decide) rfl (List.mem_of_getElem? (i := 1) rfl) dX5_undo_14 ?_
    refine jw_aload_n C.1 dX5_undo_17 rfl 0 rfl ?_
    refine jw_getR C.1 iwX5_undo_X5 rfl shX_0 rfl 0 (by decide) rfl (List.mem_of_getElem? (i := 2) rfl) dX5_undo_18 ?_
    refine jw_gVV (rest := []) C.1 dX5_undo_21 (e2 50 17 1) em_shX_shHT_e2_50_17_1 (ctX0_takeBack l _ _ h) miX0_takeBack shX_17 rfl gX5_undo_X0_takeBack rfl (by decide) rfl rfl rfl (Nat.le_of_ble_eq_true rfl) ⟨Nat.zero_le _, Nat.zero_le _⟩ (fun μ5 h => ?_)
    have h := h _ rfl
    refine jw_aload_n C.1 dX5_undo_24 rfl 0 rfl ?_
    refine jw_getR C.1 iwX5_undo_X5 rfl shX_0 rfl 2 (by decide) rfl (List.mem_of_getElem? (i := 1) rfl) dX5_undo_25 ?_
    refine jw_gVI (rest := []) C.1 dX5_undo_28 (e1 17) em_shX_shH_e1_17 (ctX0_states l _ _ h) miX0_states shX_17 rfl gX5_undo_X0_states rfl (by decide) rfl rfl rfl (Nat.le_of_ble_eq_true rfl) ⟨Nat.zero_le _, Nat.zero_le _⟩ (fun r7 μ8 h => ?_)
    have h := h _ rfl
    exact jw_iret (Q := Q) C h dX5_undo_31
  · have h := h.2 c
    refine jw_bipush C.1 dX5_undo_10 kb_m5 ?_
    exact jw_iret (Q := Q) C h dX5_undo_12
set_option maxRecDepth 100000 in
set_option maxHeartbeats 4000000 in
theorem ctX5_wipe (l : Launch) (μ : Mem) (Q : Int32 → Mem → Prop) (h : wpX5_wipe μ Q) : Con l yX5_wipe wsX5_wipe rmX5_wipe shX (fun ad => [.ref (ad 0)]) μ (pI Q) := by
  refine Con.mk (cc := cX5_wipe) (maxL := 2) (ret := (some .int)) (own := RX5) (by decide) rfl rfl (fun _ => Nat.le_of_ble_eq_true rfl) (fun K ad hN C => ?_)
  show JW K (0, 0) shX ad μ 0 [(0, .ref (ad 0))] []
  have hN_1 : 1 < kN K := by rw [hN]; decide
  unfold wpX5_wipe at h
  refine jw_aload_n C.1 dX5_wipe_0 rfl 0 rfl ?_
  refine jw_getR C.1 iwX5_wipe_X5 rfl shX_0 rfl 5 (by decide) rfl (List.mem_of_getElem? (i := 1) rfl) dX5_wipe_1 ?_
  refine jw_gVI (rest := []) C.1 dX5_wipe_4 (e1 85) em_shX_shP_e1_85 (ctX1_length l _ _ h) miX1_length shX_85 rfl gX5_wipe_X1_length rfl (by decide) rfl rfl rfl (Nat.le_of_ble_eq_true rfl) ⟨Nat.zero_le _, Nat.zero_le _⟩ (fun r1 μ2 h => ?_)
  have h := h _ rfl
  refine jw_istore_n (lw := [(1, .int _), (0, .ref _)]) C.1 dX5_wipe_7 rfl hN_1 rfl ?_
  refine jw_aload_n C.1 dX5_wipe_8 rfl 1 rfl ?_
  refine jw_getR C.1 iwX5_wipe_X5 rfl shX_0 rfl 5 (by decide) rfl (List.mem_of_getElem? (i := 1) rfl) dX5_wipe_9 ?_
  refine jw_gVV (rest := []) C.1 dX5_wipe_12 (e1 85) em_shX_shP_e1_85 (ctX1_clear l _ _ h) miX1_clear shX_85 rfl gX5_wipe_X1_clear rfl (by decide) rfl rfl rfl (Nat.le_of_ble_eq_true rfl) ⟨Nat.zero_le _, Nat.zero_le _⟩ (fun μ5 h => ?_)
  have h := h _ rfl
  refine jw_iload_n C.1 dX5_wipe_15 rfl 0 rfl ?_
  exact jw_iret (Q := Q) C h dX5_wipe_16
set_option maxRecDepth 100000 in
set_option maxHeartbeats 4000000 in
theorem jbX5_worstKey_23 {K : KT} {l : Launch} {ad : Nat → Nat} {Q : Int32 → Mem → Prop} (hN : kN K = 6) (C : CtxM K l cX5_worstKey RX5 wsX5_worstKey rmX5_worstKey shX ad (some .int) (pI Q)) : ∀ (n : Nat) (x1 : Int32) (x2 : Int32) (x3 : Int32) (x4 : Int32) (μ : Mem), bkX5_worstKey_23 Q n x1 x2 x3 x4 μ → JW K (0, 0) shX ad μ 23 [(0, .ref (ad 0)), (1, .int x1), (2, .int x2), (3, .int x3), (4, .int x4)] [] := by
  have hN_2 : 2 < kN K := by rw [hN]; decide
  have hN_3 : 3 < kN K := by rw [hN]; decide
  have hN_4 : 4 < kN K := by rw [hN]; decide
  have hN_5 : 5 < kN K := by rw [hN]; decide
  intro n
  induction n with
  | zero =>
    intro x1 x2 x3 x4 μ h
    exact h.elim
  | succ n ih =>
    intro x1 x2 x3 x4 μ h
    unfold bkX5_worstKey_23 at h
    refine jw_iload C.1 dX5_worstKey_23 4 rfl ?_
    refine jw_bipush C.1 dX5_worstKey_25 kb_27 ?_
    refine jw_icmp_ge C.1 56 dX5_worstKey_27 (by decide) (fun c => ?_) (fun c => ?_)
    · have h := h.1 c
      refine jw_iload_n C.1 dX5_worstKey_56 rfl 1 rfl ?_
      refine jw_if_ne C.1 64 dX5_worstKey_57 (by decide) (fun c => ?_) (fun c => ?_)
      · have h := h.1 c
        refine jw_iload_n C.1 dX5_worstKey_64 rfl 3 rfl ?_
        exact jw_iret (Q := Q) C h dX5_worstKey_65
      · have h := h.2 c
        refine jw_iload_n C.1 dX5_worstKey_60 rfl 2 rfl ?_
        refine jw_goto (tgt := 65) C.1 dX5_worstKey_61 (by decide) ?_
        exact jw_iret (Q := Q) C h dX5_worstKey_65
    · have h := h.2 c
      refine jw_aload_n C.1 dX5_worstKey_30 rfl 0 rfl ?_
      refine jw_iload C.1 dX5_worstKey_31 4 rfl ?_
      refine jw_cVI (rest := []) C.1 dX5_worstKey_33 em_shX_id (ctX5_sunkBySetting l _ _ _ h) miX5_sunkBySetting shX_0 rfl gX5_worstKey_X5_sunkBySetting rfl (by decide) rfl rfl rfl (Nat.le_of_ble_eq_true rfl) ⟨Nat.zero_le _, Nat.zero_le _⟩ (fun r3 μ4 h => ?_)
      refine jw_istore (lw := [(5, .int _), (0, .ref _), (1, .int _), (2, .int _), (3, .int _), (4, .int _)]) C.1 dX5_worstKey_36 hN_5 rfl ?_
      refine jw_iload C.1 dX5_worstKey_38 0 rfl ?_
      refine jw_iload_n C.1 dX5_worstKey_40 rfl 4 rfl ?_
      refine jw_icmp_le C.1 50 dX5_worstKey_41 (by decide) (fun c => ?_) (fun c => ?_)
      · have h := h.1 c
        refine jw_iinc (lw := [(4, .int _), (5, .int _), (0, .ref _), (1, .int _), (2, .int _), (3, .int _)]) (q := 5) C.1 dX5_worstKey_50 rfl (ai_1 _) hN_4 rfl ?_
        have h := h _ rfl
        refine jw_goto (tgt := 23) C.1 dX5_worstKey_53 (by decide) ?_
        refine jw_sub [2, 3, 4, 5, 0] rfl ?_
        exact ih _ _ _ _ _ h
      · have h := h.2 c
        refine jw_iload C.1 dX5_worstKey_44 5 rfl ?_
        refine jw_istore_n (lw := [(2, .int _), (5, .int _), (0, .ref _), (1, .int _), (3, .int _), (4, .int _)]) C.1 dX5_worstKey_46 rfl hN_2 rfl ?_
        refine jw_iload C.1 dX5_worstKey_47 1 rfl ?_
        refine jw_istore_n (lw := [(3, .int _), (2, .int _), (5, .int _), (0, .ref _), (1, .int _), (4, .int _)]) C.1 dX5_worstKey_49 rfl hN_3 rfl ?_
        refine jw_iinc (lw := [(4, .int _), (3, .int _), (2, .int _), (5, .int _), (0, .ref _), (1, .int _)]) (q := 5) C.1 dX5_worstKey_50 rfl (ai_1 _) hN_4 rfl ?_
        have h := h _ rfl
        refine jw_goto (tgt := 23) C.1 dX5_worstKey_53 (by decide) ?_
        refine jw_sub [4, 5, 2, 1, 0] rfl ?_
        exact ih _ _ _ _ _ h
set_option maxRecDepth 100000 in
set_option maxHeartbeats 4000000 in
theorem jbX5_worstKey_12 {K : KT} {l : Launch} {ad : Nat → Nat} {Q : Int32 → Mem → Prop} (hN : kN K = 6) (C : CtxM K l cX5_worstKey RX5 wsX5_worstKey rmX5_worstKey shX ad (some .int) (pI Q)) (x1 : Int32) (μ : Mem) (h : bkX5_worstKey_12 Q x1 μ) : JW K (0, 0) shX ad μ 12 [(0, .ref (ad 0)), (1, .int x1)] [] := by
  have hN_2 : 2 < kN K := by rw [hN]; decide
  have hN_3 : 3 < kN K := by rw [hN]; decide
  have hN_4 : 4 < kN K := by rw [hN]; decide
  have hN_5 : 5 < kN K := by rw [hN]; decide
  unfold bkX5_worstKey_12 at h
  refine jw_iconst C.1 dX5_worstKey_12 ki_0 ?_
  refine jw_istore_n (lw := [(2, .int _), (0, .ref _), (1, .int _)]) C.1 dX5_worstKey_13 rfl hN_2 rfl ?_
  refine jw_aload_n C.1 dX5_worstKey_14 rfl 1 rfl ?_
  refine jw_iconst C.1 dX5_worstKey_15 ki_0 ?_
  refine jw_cVI (rest := []) C.1 dX5_worstKey_16 em_shX_id (ctX5_sunkBySetting l _ _ _ h) miX5_sunkBySetting shX_0 rfl gX5_worstKey_X5_sunkBySetting rfl (by decide) rfl rfl rfl (Nat.le_of_ble_eq_true rfl) ⟨Nat.zero_le _, Nat.zero_le _⟩ (fun r1 μ2 h => ?_)
  refine jw_istore_n (lw := [(3, .int _), (2, .int _), (0, .ref _), (1, .int _)]) C.1 dX5_worstKey_19 rfl hN_3 rfl ?_
  refine jw_iconst C.1 dX5_worstKey_20 ki_1 ?_
  refine jw_istore (lw := [(4, .int _), (3, .int _), (2, .int _), (0, .ref _), (1, .int _)]) C.1 dX5_worstKey_21 hN_4 rfl ?_
  obtain ⟨n, h⟩ := h
  refine jw_sub [3, 4, 2, 1, 0] rfl ?_
  exact jbX5_worstKey_23 hN C n _ _ _ _ _ h
set_option maxRecDepth 100000 in
set_option maxHeartbeats 4000000 in
theorem ctX5_worstKey (l : Launch) (a1 : Int32) (μ : Mem) (Q : Int32 → Mem → Prop) (h : wpX5_worstKey a1 μ Q) : Con l yX5_worstKey wsX5_worstKey rmX5_worstKey shX (fun ad => [.ref (ad 0), .int a1]) μ (pI Q) := by
  refine Con.mk (cc := cX5_worstKey) (maxL := 6) (ret := (some .int)) (own := RX5) (by decide) rfl rfl (fun _ => Nat.le_of_ble_eq_true rfl) (fun K ad hN C => ?_)
  show JW K (0, 0) shX ad μ 0 [(0, .ref (ad 0)), (1, .int a1)] []
  have hN_2 : 2 < kN K := by rw [hN]; decide
  have hN_3 : 3 < kN K := by rw [hN]; decide
  have hN_4 : 4 < kN K := by rw [hN]; decide
  have hN_5 : 5 < kN K := by rw [hN]; decide
  unfold wpX5_worstKey at h
  refine jw_iload_n C.1 dX5_worstKey_0 rfl 1 rfl ?_
  refine jw_if_eq C.1 12 dX5_worstKey_1 (by decide) (fun c => ?_) (fun c => ?_)
  · have h := h.1 c
    exact jbX5_worstKey_12 hN C _ _ h
  · have h := h.2 c
    refine jw_iload_n C.1 dX5_worstKey_4 rfl 1 rfl ?_
    refine jw_iconst C.1 dX5_worstKey_5 ki_1 ?_
    refine jw_icmp_eq C.1 12 dX5_worstKey_6 (by decide) (fun c => ?_) (fun c => ?_)
    · have h := h.1 c
      exact jbX5_worstKey_12 hN C _ _ h
    · have h := h.2 c
      refine jw_bipush C.1 dX5_worstKey_9 kb_m2 ?_
      exact jw_iret (Q := Q) C h dX5_worstKey_11
set_option maxRecDepth 100000 in
set_option maxHeartbeats 4000000 in
theorem ctX5_wouldSink (l : Launch) (a1 : Int32) (μ : Mem) (Q : Int32 → Mem → Prop) (h : wpX5_wouldSink a1 μ Q) : Con l yX5_wouldSink wsX5_wouldSink rmX5_wouldSink shX (fun ad => [.ref (ad 0), .int a1]) μ (pI Q) := by
  refine Con.mk (cc := cX5_wouldSink) (maxL := 2) (ret := (some .int)) (own := RX5) (by decide) rfl rfl (fun _ => Nat.le_of_ble_eq_true rfl) (fun K ad hN C => ?_)
  show JW K (0, 0) shX ad μ 0 [(0, .ref (ad 0)), (1, .int a1)] []
  unfold wpX5_wouldSink at h
  refine jw_iload_n C.1 dX5_wouldSink_0 rfl 1 rfl ?_
  refine jw_eSI (rest := []) C.1 dX5_wouldSink_1 (ctX5_isKey l _ _ h _) miX5_isKey gX5_wouldSink_X5_isKey (by decide) rfl rfl rfl (Nat.le_of_ble_eq_true rfl) ⟨Nat.zero_le _, Nat.zero_le _⟩ (fun r1 h => ?_)
  refine jw_if_ne C.1 9 dX5_wouldSink_4 (by decide) (fun c => ?_) (fun c => ?_)
  · have h := h.1 c
    refine jw_aload_n C.1 dX5_wouldSink_9 rfl 0 rfl ?_
    refine jw_iload_n C.1 dX5_wouldSink_10 rfl 1 rfl ?_
    refine jw_cVI (rest := []) C.1 dX5_wouldSink_11 em_shX_id (ctX5_sunkBySetting l _ _ _ h) miX5_sunkBySetting shX_0 rfl gX5_wouldSink_X5_sunkBySetting rfl (by decide) rfl rfl rfl (Nat.le_of_ble_eq_true rfl) ⟨Nat.zero_le _, Nat.zero_le _⟩ (fun r2 μ3 h => ?_)
    exact jw_iret (Q := Q) C h dX5_wouldSink_14
  · have h := h.2 c
    refine jw_iconst C.1 dX5_wouldSink_7 ki_m1 ?_
    exact jw_iret (Q := Q) C h dX5_wouldSink_8
