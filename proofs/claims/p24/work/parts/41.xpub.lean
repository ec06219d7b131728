/-! the class's methods, over its whole state -/
theorem r_isKey {k : Nat} (hk : k < 27) {Q : Int32 → Prop} (hQ : Q 1) : wpX5_isKey (nI k) Q := by
  unfold wpX5_isKey
  exact ⟨fun q => absurd q (nI_pos (by omega)), fun _ => ⟨fun q => absurd q (nI_ge hk (by decide)), fun _ => hQ⟩⟩
theorem r_isKeyN {a : Int32} (h : idx 27 a = none) {Q : Int32 → Prop} (hQ : Q 0) : wpX5_isKey a Q := by
  unfold wpX5_isKey
  refine ⟨fun _ => hQ, fun q => ⟨fun _ => hQ, fun q2 => ?_⟩⟩
  rcases idx_none (by decide) h with h1 | ⟨-, j, hj, hm, rfl⟩
  · exact absurd h1 q
  · exact absurd (nI_le hm hj) q2
theorem r_isNode {k : Nat} (hk : k < 13) {Q : Int32 → Prop} (hQ : Q 1) : wpX5_isNode (nI k) Q := by
  unfold wpX5_isNode
  exact ⟨fun q => absurd q (nI_pos (by omega)), fun _ => ⟨fun q => absurd q (nI_ge hk (by decide)), fun _ => hQ⟩⟩
theorem r_isNodeN {a : Int32} (h : idx 13 a = none) {Q : Int32 → Prop} (hQ : Q 0) : wpX5_isNode a Q := by
  unfold wpX5_isNode
  refine ⟨fun _ => hQ, fun q => ⟨fun _ => hQ, fun q2 => ?_⟩⟩
  rcases idx_none (by decide) h with h1 | ⟨-, j, hj, hm, rfl⟩
  · exact absurd h1 q
  · exact absurd (nI_le hm hj) q2
theorem r_isSlot {k : Nat} (hk : k < 2) {μ : Mem} {Q : Int32 → Mem → Prop} (hQ : Q 1 μ) : wpX5_isSlot (nI k) μ Q := by
  unfold wpX5_isSlot
  exact ⟨fun q => absurd q (nI_pos (by omega)), fun _ => ⟨fun q => absurd q (nI_ge hk (by decide)), fun _ => ⟨vinI hk (by decide), hQ⟩⟩⟩
theorem r_isSlotN {a : Int32} (h : idx 2 a = none) {μ : Mem} {Q : Int32 → Mem → Prop} (hQ : Q 0 μ) : wpX5_isSlot a μ Q := by
  unfold wpX5_isSlot
  refine ⟨fun _ => hQ, fun q => ⟨fun _ => hQ, fun q2 => ?_⟩⟩
  rcases idx_none (by decide) h with h1 | ⟨-, j, hj, hm, rfl⟩
  · exact absurd h1 q
  · exact absurd (nI_le hm hj) q2
/-- a query of the tree -/
theorem gl_same {μ : Mem} {Q : Int32 → Mem → Prop} {r : Int32} (hQ : Q r μ) : ∀ μ3 : Mem, μ3 = glue (e1 1) 8 μ (fun k => μ (e1 1 k)) → Q r μ3 := by
  rintro _ rfl
  rw [gl_id]
  exact hQ
theorem lad4 {w : Int32} {X0 X1 X2 X3 XN : Prop} (h0 : idx 4 w = some 0 → X0) (h1 : idx 4 w = some 1 → X1) (h2 : idx 4 w = some 2 → X2) (h3 : idx 4 w = some 3 → X3) (hN : idx 4 w = none → XN) : ((w = (0 : Int32)) → X0) ∧ ((¬ w = (0 : Int32)) → (((w = (1 : Int32)) → X1) ∧ ((¬ w = (1 : Int32)) → (((w = (2 : Int32)) → X2) ∧ ((¬ w = (2 : Int32)) → (((w = (3 : Int32)) → X3) ∧ ((¬ w = (3 : Int32)) → (XN)))))))) := by
  refine ⟨fun e => h0 (by rw [e]; exact idx_nI (k := 0) (by decide) (by decide)), fun c0 => ⟨fun e => h1 (by rw [e]; exact idx_nI (k := 1) (by decide) (by decide)), fun c1 => ⟨fun e => h2 (by rw [e]; exact idx_nI (k := 2) (by decide) (by decide)), fun c2 => ⟨fun e => h3 (by rw [e]; exact idx_nI (k := 3) (by decide) (by decide)), fun c3 => ?_⟩⟩⟩⟩
  cases h : idx 4 w with
  | none => exact hN h
  | some j =>
    obtain ⟨e, hj⟩ := idx_some (by decide) h
    rcases (show j = 0 ∨ j = 1 ∨ j = 2 ∨ j = 3 by omega) with rfl | rfl | rfl | rfl
    · exact absurd e c0
    · exact absurd e c1
    · exact absurd e c2
    · exact absurd e c3
theorem lad6 {w : Int32} {X0 X1 X2 X3 X4 X5 XN : Prop} (h0 : idx 6 w = some 0 → X0) (h1 : idx 6 w = some 1 → X1) (h2 : idx 6 w = some 2 → X2) (h3 : idx 6 w = some 3 → X3) (h4 : idx 6 w = some 4 → X4) (h5 : idx 6 w = some 5 → X5) (hN : idx 6 w = none → XN) : ((w = (0 : Int32)) → X0) ∧ ((¬ w = (0 : Int32)) → (((w = (1 : Int32)) → X1) ∧ ((¬ w = (1 : Int32)) → (((w = (2 : Int32)) → X2) ∧ ((¬ w = (2 : Int32)) → (((w = (3 : Int32)) → X3) ∧ ((¬ w = (3 : Int32)) → (((w = (4 : Int32)) → X4) ∧ ((¬ w = (4 : Int32)) → (((w = (5 : Int32)) → X5) ∧ ((¬ w = (5 : Int32)) → (XN)))))))))))) := by
  refine ⟨fun e => h0 (by rw [e]; exact idx_nI (k := 0) (by decide) (by decide)), fun c0 => ⟨fun e => h1 (by rw [e]; exact idx_nI (k := 1) (by decide) (by decide)), fun c1 => ⟨fun e => h2 (by rw [e]; exact idx_nI (k := 2) (by decide) (by decide)), fun c2 => ⟨fun e => h3 (by rw [e]; exact idx_nI (k := 3) (by decide) (by decide)), fun c3 => ⟨fun e => h4 (by rw [e]; exact idx_nI (k := 4) (by decide) (by decide)), fun c4 => ⟨fun e => h5 (by rw [e]; exact idx_nI (k := 5) (by decide) (by decide)), fun c5 => ?_⟩⟩⟩⟩⟩⟩
  cases h : idx 6 w with
  | none => exact hN h
  | some j =>
    obtain ⟨e, hj⟩ := idx_some (by decide) h
    rcases (show j = 0 ∨ j = 1 ∨ j = 2 ∨ j = 3 ∨ j = 4 ∨ j = 5 by omega) with rfl | rfl | rfl | rfl | rfl | rfl
    · exact absurd e c0
    · exact absurd e c1
    · exact absurd e c2
    · exact absurd e c3
    · exact absurd e c4
    · exact absurd e c5
theorem lad10 {w : Int32} {X0 X1 X2 X3 X4 X5 X6 X7 X8 X9 XN : Prop} (h0 : idx 10 w = some 0 → X0) (h1 : idx 10 w = some 1 → X1) (h2 : idx 10 w = some 2 → X2) (h3 : idx 10 w = some 3 → X3) (h4 : idx 10 w = some 4 → X4) (h5 : idx 10 w = some 5 → X5) (h6 : idx 10 w = some 6 → X6) (h7 : idx 10 w = some 7 → X7) (h8 : idx 10 w = some 8 → X8) (h9 : idx 10 w = some 9 → X9) (hN : idx 10 w = none → XN) : ((w = (0 : Int32)) → X0) ∧ ((¬ w = (0 : Int32)) → (((w = (1 : Int32)) → X1) ∧ ((¬ w = (1 : Int32)) → (((w = (2 : Int32)) → X2) ∧ ((¬ w = (2 : Int32)) → (((w = (3 : Int32)) → X3) ∧ ((¬ w = (3 : Int32)) → (((w = (4 : Int32)) → X4) ∧ ((¬ w = (4 : Int32)) → (((w = (5 : Int32)) → X5) ∧ ((¬ w = (5 : Int32)) → (((w = (6 : Int32)) → X6) ∧ ((¬ w = (6 : Int32)) → (((w = (7 : Int32)) → X7) ∧ ((¬ w = (7 : Int32)) → (((w = (8 : Int32)) → X8) ∧ ((¬ w = (8 : Int32)) → (((w = (9 : Int32)) → X9) ∧ ((¬ w = (9 : Int32)) → (XN)))))))))))))))))))) := by
  refine ⟨fun e => h0 (by rw [e]; exact idx_nI (k := 0) (by decide) (by decide)), fun c0 => ⟨fun e => h1 (by rw [e]; exact idx_nI (k := 1) (by decide) (by decide)), fun c1 => ⟨fun e => h2 (by rw [e]; exact idx_nI (k := 2) (by decide) (by decide)), fun c2 => ⟨fun e => h3 (by rw [e]; exact idx_nI (k := 3) (by decide) (by decide)), fun c3 => ⟨fun e => h4 (by rw [e]; exact idx_nI (k := 4) (by decide) (by decide)), fun c4 => ⟨fun e => h5 (by rw [e]; exact idx_nI (k := 5) (by decide) (by decide)), fun c5 => ⟨fun e => h6 (by rw [e]; exact idx_nI (k := 6) (by decide) (by decide)), fun c6 => ⟨fun e => h7 (by rw [e]; exact idx_nI (k := 7) (by decide) (by decide)), fun c7 => ⟨fun e => h8 (by rw [e]; exact idx_nI (k := 8) (by decide) (by decide)), fun c8 => ⟨fun e => h9 (by rw [e]; exact idx_nI (k := 9) (by decide) (by decide)), fun c9 => ?_⟩⟩⟩⟩⟩⟩⟩⟩⟩⟩
  cases h : idx 10 w with
  | none => exact hN h
  | some j =>
    obtain ⟨e, hj⟩ := idx_some (by decide) h
    rcases (show j = 0 ∨ j = 1 ∨ j = 2 ∨ j = 3 ∨ j = 4 ∨ j = 5 ∨ j = 6 ∨ j = 7 ∨ j = 8 ∨ j = 9 by omega) with rfl | rfl | rfl | rfl | rfl | rfl | rfl | rfl | rfl | rfl
    · exact absurd e c0
    · exact absurd e c1
    · exact absurd e c2
    · exact absurd e c3
    · exact absurd e c4
    · exact absurd e c5
    · exact absurd e c6
    · exact absurd e c7
    · exact absurd e c8
    · exact absurd e c9
theorem i1_toInt : (1 : Int32).toInt = 1 := by decide
theorem lt0_lt1 {b : Int32} (h : b < 0) : b < 1 := by
  rw [Int32.lt_iff_toInt_lt] at h ⊢
  rw [i1_toInt]
  have : (0 : Int32).toInt = 0 := by decide
  omega
theorem fSet_bad {a b : Int32} {F : FS} (h0 : ∀ v, a = 0 → b = nI v → 1 ≤ v → v < 11 → False) (h1 : ∀ v, a = 1 → b = nI v → v < 2 → False) : fSet a b F = (-2, F) := by
  unfold fSet
  cases ha : idx 2 a with
  | none => rfl
  | some s =>
    obtain ⟨e, hs⟩ := idx_some (by decide) ha
    simp only
    by_cases h : s = 0
    · rw [if_pos h]
      subst h
      cases hb : idx 11 b with
      | none => rfl
      | some v =>
        obtain ⟨eb, hv⟩ := idx_some (by decide) hb
        simp only
        by_cases hv0 : v = 0
        · rw [if_pos hv0]
        · exact (h0 v e eb (by omega) hv).elim
    · rw [if_neg h]
      have : s = 1 := by omega
      subst this
      cases hb : idx 2 b with
      | none => rfl
      | some v =>
        obtain ⟨eb, hv⟩ := idx_some (by decide) hb
        exact (h1 v e eb hv).elim
theorem fSet_0 {v : Nat} {F : FS} (h1 : 1 ≤ v) (h2 : v < 11) : fSet (nI 0) (nI v) F = (nI F.1.1, fGo F (v, F.1.2)) := by
  unfold fSet
  rw [idx_nI (by decide) (by decide), idx_nI (by decide) h2]
  show (if v = 0 then _ else _) = _
  rw [if_neg (by omega)]
theorem fSet_1 {v : Nat} {F : FS} (h2 : v < 2) : fSet (nI 1) (nI v) F = (nI F.1.2.1, fGo F (F.1.1, v, F.1.2.2)) := by
  unfold fSet
  rw [idx_nI (by decide) (by decide)]
  simp only
  rw [if_neg (by decide), idx_nI (by decide) h2]
theorem x_set {a b : Int32} {μ : Mem} {F : FS} (hF : RepF μ F) (hok : FOk F) {Q : Int32 → Mem → Prop} (hQ : ∀ μ', RepF μ' (fSet a b F).2 → Q (fSet a b F).1 μ') : wpX5_set a b μ Q := by
  unfold wpX5_set wpX5_isSettingValue
  have bad : (fSet a b F) = (-2, F) → ((¬ (0 : Int32) = 0) → wpX0_record (fun k => μ (e2 50 17 1 k)) (fun μ3 => ∀ μ4 : Mem, μ4 = glue (e2 50 17 1) 58 μ μ3 → (wpX4_changeSetting a b (fun k => μ4 (e1 1 k)) (fun r5 μ6 => ∀ μ7 : Mem, μ7 = glue (e1 1) 8 μ4 μ6 → (Q r5 μ7))))) ∧ (((0 : Int32) = 0) → (Q ((-2 : Int32)) μ)) := fun e => by
    refine ⟨fun q => absurd rfl q, fun _ => ?_⟩
    have h := hQ μ
    rw [e] at h
    exact h hF
  have good : ∀ (s : Nat) (v : Nat) (t : TS), s < 2 → a = nI s → b = nI v → (fSet a b F) = ((if s = 0 then nI F.1.1 else nI F.1.2.1), fGo F t) → (t = if s = 0 then (v, F.1.2) else (F.1.1, v, F.1.2.2)) → ((¬ (1 : Int32) = 0) → wpX0_record (fun k => μ (e2 50 17 1 k)) (fun μ3 => ∀ μ4 : Mem, μ4 = glue (e2 50 17 1) 58 μ μ3 → (wpX4_changeSetting a b (fun k => μ4 (e1 1 k)) (fun r5 μ6 => ∀ μ7 : Mem, μ7 = glue (e1 1) 8 μ4 μ6 → (Q r5 μ7))))) ∧ (((1 : Int32) = 0) → (Q ((-2 : Int32)) μ)) := fun s v t hs ea eb e et => by
    refine ⟨fun _ => x_record hF hok (fun μ4 h4 => ?_), fun q => absurd q (by decide)⟩
    have ht := x_tree h4
    rw [ea]
    refine r_changeSetting hs ?_
    rintro _ rfl
    have h := hQ (glue (e1 1) 8 μ4 (mset (fun k => μ4 (e1 1 k)) 1 s b))
    rw [e] at h
    have h7 : RepF (glue (e1 1) 8 μ4 (mset (fun k => μ4 (e1 1 k)) 1 s b)) (fGo F t) := by
      refine RepF_glue (t := t) h4 ?_
      obtain ⟨r0, r1, r2, r3, rw'⟩ := ht
      have hW : RepW (mset (fun k => μ4 (e1 1 k)) 1 s b) F.1.2.2.2.2 := by
        refine ⟨fun n hn => ?_, fun k hk => ?_, ?_⟩
        · obtain ⟨⟨g1, g2⟩, g3, g4, g5⟩ := rw'.1 n hn
          refine ⟨⟨?_, fun i z hi => ?_⟩, ?_, ?_, ?_⟩
          · rw [ms_cell _ _ _ (by decide)]; exact g1
          · rw [ms_cell _ _ _ (by decide)]; exact g2 i z hi
          · rw [ms_cell _ _ _ (by decide)]; exact g3
          · rw [ms_cell _ _ _ (by decide)]; exact g4
          · rw [ms_cell _ _ _ (by decide)]; exact g5
        · rw [ms_cell _ _ _ (by decide)]; exact rw'.2.1 k hk
        · rw [ms_cell _ _ _ (by decide)]; exact rw'.2.2
      rcases (show s = 0 ∨ s = 1 by omega) with e0 | e0
      · subst e0
        rw [if_pos rfl] at et
        subst et
        exact ⟨(ms_same _ _ _ _).trans eb, (ms_place _ _ _ (by decide)).trans r1, (congrFun (ms_cell _ _ _ (by decide)) _).trans r2, (congrFun (ms_cell _ _ _ (by decide)) _).trans r3, hW⟩
      · subst e0
        rw [if_neg (by decide)] at et
        subst et
        exact ⟨(ms_place _ _ _ (by decide)).trans r0, (ms_same _ _ _ _).trans eb, (congrFun (ms_cell _ _ _ (by decide)) _).trans r2, (congrFun (ms_cell _ _ _ (by decide)) _).trans r3, hW⟩
    have h8 := h h7
    rcases (show s = 0 ∨ s = 1 by omega) with e0 | e0
    · subst e0
      have e9 : μ4 (e1 1 1) 0 = nI F.1.1 := ht.1
      rw [e9]
      exact h8
    · subst e0
      have e9 : μ4 (e1 1 1) 1 = nI F.1.2.1 := ht.2.1
      rw [e9]
      exact h8
  refine ⟨fun c => ⟨fun c1 => ?_, fun c1 => ⟨fun c2 => ?_, fun c2 => ⟨fun c3 => ?_, fun c3 => ?_⟩⟩⟩, fun c => ⟨fun c1 => ?_, fun c1 => ⟨fun c2 => ?_, fun c2 => ?_⟩⟩⟩
  · exact bad (fSet_bad (fun v e _ _ _ => c e) (fun v e _ _ => c1 e))
  · refine good 1 0 _ (by decide) c1 c2 ?_ rfl
    rw [c1, c2]
    exact fSet_1 (v := 0) (by decide)
  · refine bad (fSet_bad (fun v e _ _ _ => c e) (fun v e eb hv => ?_))
    rcases (show v = 0 ∨ v = 1 by omega) with rfl | rfl
    · exact c2 eb
    · exact c3 eb
  · refine good 1 1 _ (by decide) c1 c3 ?_ rfl
    rw [c1, c3]
    exact fSet_1 (v := 1) (by decide)
  · refine bad (fSet_bad (fun v e eb h1 _ => ?_) (fun v e _ _ => absurd (c.symm.trans e) (by decide)))
    rw [eb] at c1
    exact absurd c1 (nI_nlt h1 (by omega))
  · refine bad (fSet_bad (fun v e eb h1 h2 => ?_) (fun v e _ _ => absurd (c.symm.trans e) (by decide)))
    rw [eb] at c2
    exact absurd c2 (nI_nlt (show v ≤ 10 by omega) (by decide))
  · cases hb : idx 11 b with
    | none =>
      rcases idx_none (by decide) hb with h1 | ⟨-, j, hj, hm, rfl⟩
      · exact absurd (lt0_lt1 h1) c1
      · exact absurd (nI_lt (show 10 < j by omega) hj) c2
    | some v =>
      obtain ⟨eb, hv⟩ := idx_some (by decide) hb
      have hv1 : 1 ≤ v := Nat.not_lt.mp (fun q => c1 (by rw [eb]; exact nI_lt q (by decide)))
      refine good 0 v _ (by decide) c eb ?_ rfl
      rw [c, eb]
      exact fSet_0 hv1 hv
theorem x_empty {n : Int32} {μ : Mem} {F : FS} (hF : RepF μ F) (hok : FOk F) {Q : Int32 → Mem → Prop} (hQ : ∀ μ', RepF μ' (fEmpty n F).2 → Q (fEmpty n F).1 μ') : wpX5_empty n μ Q := by
  unfold fEmpty at hQ
  unfold wpX5_empty
  cases h : idx 13 n with
  | none =>
    rw [h] at hQ
    exact r_isNodeN h ⟨fun q => absurd rfl q, fun _ => hQ μ hF⟩
  | some m =>
    rw [h] at hQ
    obtain ⟨rfl, hm⟩ := idx_some (by decide) h
    refine r_isNode hm ⟨fun _ => x_record hF hok (fun μ4 h4 => ?_), fun q => absurd q (by decide)⟩
    have ht := x_tree h4
    refine r_emptyBuffer hm hok.1.2.1 hok.1.2.2.1 hok.1.2.2.2 ⟨ht.1, ht.2.1⟩ ht.2.2.2.2 (fun μ6 hW hk => ?_)
    rintro _ rfl
    have h7 : RepF (glue (e1 1) 8 μ4 μ6) (fGo F (setW F.1 (empN F.1.1 F.1.2.1 m (sWT F)))) := RepF_glue (t := setW F.1 (empN F.1.1 F.1.2.1 m (sWT F))) h4 ⟨(hk.1 0).trans ht.1, (hk.1 1).trans ht.2.1, hk.2.1.trans ht.2.2.1, hk.2.2.trans ht.2.2.2.1, hW⟩
    exact r_stones (x_tree h7).2.2.2.2 (gl_same (hQ _ h7))
theorem x_read {k : Int32} {μ : Mem} {F : FS} (hF : RepF μ F) (hok : FOk F) {Q : Int32 → Mem → Prop} (hQ : ∀ μ', RepF μ' (fRead k F).2 → Q (fRead k F).1 μ') : wpX5_read k μ Q := by
  unfold fRead at hQ
  unfold wpX5_read
  cases h : idx 27 k with
  | none =>
    rw [h] at hQ
    exact r_isKeyN h ⟨fun q => absurd rfl q, fun _ => hQ μ hF⟩
  | some m =>
    rw [h] at hQ
    obtain ⟨rfl, hm⟩ := idx_some (by decide) h
    refine r_isKey hm ⟨fun _ => x_record hF hok (fun μ4 h4 => ?_), fun q => absurd q (by decide)⟩
    have ht := x_tree h4
    refine r_noteRead ht (fun μ6 h6 => ?_)
    rintro _ rfl
    have h7 := RepF_glue h4 h6
    exact r_asRead hm hok.1.2.2.2 (x_tree h7).2.2.2.2 (gl_same (hQ _ h7))
theorem x_sendGo {K f l N : Nat} (hs : sOk (K, f, l, N)) {μ : Mem} {F : FS} (hF : RepF μ F) (hok : FOk F) {Q : Int32 → Mem → Prop} (hQ : ∀ μ', RepF μ' (fGo F (dropT (K, f, l, N) F.1)) → Q (allSt (comeR F.1.1 F.1.2.1 (K, f, l, N) (sWT F))) μ') : bkX5_send_41 Q (nI K) (nI f) (nI l) (nI N) μ := by
  have hL : l < 27 := hs.2.2.1
  have hfl : f ≤ l := hs.2.1
  have hN : N < 1000 := hs.2.2.2
  unfold bkX5_send_41
  refine x_record hF hok (fun μ4 h4 => r_of (by omega) (by omega) (by omega) ?_)
  refine r_drop hs hok.1 h4.1 (fun μ8 h8 => ?_)
  rintro _ rfl
  have h9 := RepF_glue h4 h8
  exact r_stones (x_tree h9).2.2.2.2 (gl_same (hQ _ h9))
theorem x_send {k a b n : Int32} {μ : Mem} {F : FS} (hF : RepF μ F) (hok : FOk F) {Q : Int32 → Mem → Prop} (hQ : ∀ μ', RepF μ' (fSend k a b n F).2 → Q (fSend k a b n F).1 μ') : wpX5_send k a b n μ Q := by
  unfold fSend at hQ
  unfold wpX5_send
  cases hk : idx 3 k with
  | none =>
    rw [hk] at hQ
    refine ⟨fun _ => hQ μ hF, fun q => ⟨fun _ => hQ μ hF, fun q2 => ?_⟩⟩
    rcases idx_none (by decide) hk with h1 | ⟨-, j, hj, hm, rfl⟩
    · exact absurd h1 q
    · exact absurd (nI_lt (show 2 < j by omega) hj) q2
  | some K =>
    rw [hk] at hQ
    simp only at hQ
    obtain ⟨rfl, hK⟩ := idx_some (by decide) hk
    refine ⟨fun q => absurd q (nI_pos (by omega)), fun _ => ⟨fun q => absurd q (nI_nlt (show K ≤ 2 by omega) (by decide)), fun _ => ?_⟩⟩
    have hB : (if K = 2 then 1 else 1000) < 2 ^ 31 := by split <;> decide
    -- is it a number for it?
    have isN : ∀ {P : Int32 → Prop}, (idx (if K = 2 then 1 else 1000) n = none → P 0) → (∀ N, n = nI N → N < (if K = 2 then 1 else 1000) → P 1) → wpX5_isNumberFor (nI K) n P := fun {P} h0 h1 => by
      have b17 : ∀ m, m = (if K = 2 then 1 else 1000) → ¬ n < 0 → bkX5_isNumberFor_17 P (nI m) n := fun m hm h => by
        subst hm
        unfold bkX5_isNumberFor_17
        obtain ⟨j, hj, rfl⟩ := nI_of h
        refine ⟨fun q => h0 ?_, fun q => h1 j rfl (Nat.not_le.mp (fun z => q (nI_le z hj)))⟩
        cases e : idx (if K = 2 then 1 else 1000) (nI j) with
        | none => rfl
        | some i =>
          obtain ⟨e1, e2⟩ := idx_some hB e
          rw [e1] at q
          exact absurd q (nI_ge e2 hB)
      unfold wpX5_isNumberFor
      refine ⟨fun q => h0 ?_, fun q => ⟨fun c => ?_, fun c => ?_⟩⟩
      · unfold idx
        rw [if_pos q]
      · exact b17 1000 (by rw [if_neg (fun e => c (by rw [e]; rfl))]) q
      · exact b17 1 (by rw [if_pos (nI_inj (by omega) (by decide) c)]) q
    refine isN (fun hn => ⟨fun q => absurd rfl q, fun _ => ?_⟩) (fun N eN hN => ⟨fun _ => ?_, fun q => absurd q (by decide)⟩)
    · rw [hn] at hQ
      exact hQ μ hF
    subst eN
    rw [idx_nI hB hN] at hQ
    simp only at hQ
    have hN1 : N < 1000 := by split at hN <;> omega
    unfold wpX5_isPiece
    cases ha : idx 27 a with
    | none =>
      rw [ha] at hQ
      exact r_isKeyN ha ⟨fun _ => ⟨fun _ => hQ μ hF, fun q => absurd rfl q⟩, fun q => absurd rfl q⟩
    | some f =>
      rw [ha] at hQ
      simp only at hQ
      obtain ⟨rfl, hf⟩ := idx_some (by decide) ha
      refine r_isKey hf ⟨fun q => absurd q (by decide), fun _ => ?_⟩
      cases hb : idx 27 b with
      | none =>
        rw [hb] at hQ
        exact r_isKeyN hb ⟨fun _ => ⟨fun _ => hQ μ hF, fun q => absurd rfl q⟩, fun q => absurd rfl q⟩
      | some l =>
        rw [hb] at hQ
        simp only at hQ
        obtain ⟨rfl, hl⟩ := idx_some (by decide) hb
        refine r_isKey hl ⟨fun q => absurd q (by decide), fun _ => ?_⟩
        rw [nI_ltI (by omega) (by omega)]
        by_cases hlf : l < f
        · rw [if_pos hlf] at hQ
          exact ⟨fun _ => ⟨fun _ => hQ μ hF, fun q => absurd rfl q⟩, fun q => absurd hlf q⟩
        · rw [if_neg hlf] at hQ
          refine ⟨fun q => absurd q hlf, fun _ => ⟨fun q => absurd q (by decide), fun _ => ?_⟩⟩
          have hs := sOk_mk hK (Nat.not_lt.mp hlf) hl hN1
          refine ⟨fun c => ?_, fun c => ⟨fun c2 => ?_, fun c2 => ?_⟩⟩
          · have : K = 1 := nI_inj (by omega) (by decide) c
            rw [if_neg (fun z => z.1 this)] at hQ
            exact x_sendGo hs hF hok hQ
          · have : l = f := nI_inj (by omega) (by omega) c2
            rw [if_neg (fun z => z.2 this)] at hQ
            exact x_sendGo hs hF hok hQ
          · rw [if_pos ⟨fun e => c (by rw [e]; rfl), fun e => c2 (by rw [e])⟩] at hQ
            exact hQ μ hF
