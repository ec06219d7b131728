/-! the class's other methods -/
theorem gl_sameB {b n : Nat} {μ : Mem} {Q : Int32 → Mem → Prop} {r : Int32} (hQ : Q r μ) : ∀ μ3 : Mem, μ3 = glue (e1 b) n μ (fun k => μ (e1 b k)) → Q r μ3 := by
  rintro _ rfl
  rw [gl_id]
  exact hQ
theorem x_copy {a b : Nat} (hab : a + 8 ≤ b ∨ b + 8 ≤ a) {t : TS} (hl : lenW t.2.2.2.2) {μ : Mem} (hR : RepT (fun k => μ (b + k)) t) {Q : Mem → Prop} (hQ : ∀ μ', RepT (fun k => μ' (a + k)) t → (∀ k, ¬ (a ≤ k ∧ k < a + 8) → μ' k = μ k) → Q μ') : wpX4_copyFrom (fun k => μ (e2 8 a b k)) (fun μ2 => ∀ μ3 : Mem, μ3 = glue (e2 8 a b) 16 μ μ2 → Q μ3) := by
  refine r_copyFrom hl (RepT_congr (fun k hk => ?_) hR) (fun τ hτ hk8 => ?_)
  · show μ (e2 8 a b (8 + k)) = μ (b + k)
    unfold e2
    rw [if_neg (by omega), Nat.add_sub_cancel_left]
  · rintro _ rfl
    have G : ∀ k, glue (e2 8 a b) 16 μ τ k = if a ≤ k ∧ k < a + 8 then τ (k - a) else μ k := fun k => by
      rw [show (16 : Nat) = 8 + 8 from rfl, glue_e2 hab]
      by_cases h1 : a ≤ k ∧ k < a + 8
      · rw [if_pos h1, if_pos h1]
      · rw [if_neg h1, if_neg h1]
        by_cases h2 : b ≤ k ∧ k < b + 8
        · rw [if_pos h2, hk8 _ (by omega)]
          show μ (e2 8 a b (k - b + 8)) = μ k
          unfold e2
          rw [if_neg (by omega)]
          congr 1
          omega
        · rw [if_neg h2]
    refine hQ _ (RepT_congr (fun k hk => ?_) hτ) (fun k hk => ?_)
    · show glue (e2 8 a b) 16 μ τ (a + k) = τ k
      rw [G, if_pos (by omega), Nat.add_sub_cancel_left]
    · rw [G, if_neg hk]
theorem r_takeBack {hs : List TS} {t : TS} (hl : lenW t.2.2.2.2) {μ : Mem} (hH : RepH μ (t :: hs)) {Q : Mem → Prop} (hQ : ∀ μ', RepH μ' hs → RepT (fun k => μ' (50 + k)) t → Q μ') : wpX0_takeBack μ Q := by
  obtain ⟨h6, nx, hnx, g1, g2, g3⟩ := hH
  rw [List.length_cons] at h6 g2
  unfold wpX0_takeBack
  rw [g1, g2, li 6, li 1, nI_add, nI_sub (by omega), nI_rem (by omega) (by decide)]
  rintro _ rfl
  refine ⟨fun q => absurd (nI_inj (b := 0) (by omega) (by decide) q) (by omega), fun _ => ⟨fun _ => ?_, fun q => absurd (nI_pos' (by omega)) q⟩⟩
  rw [nI_clamp (by omega)]
  refine ⟨vinI (by omega) (by decide), ?_⟩
  have ev : (nx + 6 - 1) % 6 = (nx + 5 - 0) % 6 := rfl
  refine x_copy (a := 50) (b := 2 + 8 * ((nx + 6 - 1) % 6)) (by omega) hl (g3 0 t rfl) (fun μ3 h3 ho => ?_)
  have f01 : μ3 0 1 = nI (hs.length + 1) := by rw [ho 0 (by omega)]; exact g2
  rintro _ rfl
  rw [ms_place _ _ _ (by decide), f01, nI_sub (by omega), Nat.add_sub_cancel]
  rintro _ rfl
  have hc : ∀ k, k ≠ 0 → mset (mset μ3 0 0 (nI ((nx + 6 - 1) % 6))) 0 1 (nI hs.length) k = μ3 k := fun k hk => by rw [ms_cell _ _ _ hk, ms_cell _ _ _ hk]
  refine hQ _ ⟨by omega, (nx + 6 - 1) % 6, by omega, ?_, ms_same _ _ _ _, fun j u hj => ?_⟩ (RepT_congr (fun k hk => hc _ (by omega)) h3)
  · rw [ms_place _ _ _ (by decide), ms_same]
  · have hlt := getE_lt hj
    refine RepT_congr (fun k hk => ?_) (g3 (j + 1) u (by rw [List.getElem?_cons_succ]; exact hj))
    show mset _ _ _ _ (2 + 8 * (((nx + 6 - 1) % 6 + 5 - j) % 6) + k) = μ (2 + 8 * ((nx + 5 - (j + 1)) % 6) + k)
    have e : ((nx + 6 - 1) % 6 + 5 - j) % 6 = (nx + 5 - (j + 1)) % 6 := by omega
    rw [e, hc _ (by omega), ho _ (by omega)]
/-- all but the trial tree stay -/
theorem RepF_trial {μ μ' : Mem} {F : FS} (h : RepF μ F) (e : ∀ k, ¬ (9 ≤ k ∧ k < 17) → μ' k = μ k) : RepF μ' F :=
  RepF_tree (t := F.1) h (fun k hk => e k (by omega)) (RepT_congr (fun k hk => e _ (by omega)) h.1)
/-- the pad changed -/
theorem RepF_pad {μ μ' : Mem} {F : FS} {cs : List Nat} (h : RepF μ F) (e : ∀ k, k < 85 → μ' k = μ k) (hP : PadX (μ' 85 0) (μ' 86) cs) : RepF μ' (F.1, F.2.1, F.2.2.1, cs) :=
  ⟨RepT_congr (fun k hk => e _ (by omega)) h.1, RepH_congr (fun k hk => e _ (by omega)) h.2.1, fun i hi => SlotX_congr hi (fun k _ h2 => e k h2) (h.2.2.1 i hi), hP⟩
theorem x_stone {n p w : Int32} {μ : Mem} {F : FS} (hF : RepF μ F) (hok : FOk F) {Q : Int32 → Mem → Prop} (hQ : Q (fStone n p w F) μ) : wpX5_stone n p w μ Q := by
  unfold fStone at hQ
  unfold wpX5_stone
  cases h : idx 13 n with
  | none =>
    rw [h] at hQ
    exact r_isNodeN h ⟨fun _ => hQ, fun q => absurd rfl q⟩
  | some m =>
    rw [h] at hQ
    simp only at hQ
    obtain ⟨rfl, hm⟩ := idx_some (by decide) h
    have hN := hF.1.2.2.2.2.1 m hm
    have hlen := WOk_len hok.1.2.2.2 m hm
    have hbok := bIn_ok (hok.1.2.2.2.2 m hm).2
    have e3 : μ (e1 1 3) m = nI ((sWT F).1 m).1.length := hN.1.1
    refine r_isNode hm ⟨fun q => absurd q (by decide), fun _ => ?_⟩
    cases hp : idx ((sWT F).1 m).1.length p with
    | none =>
      rw [hp] at hQ
      refine ⟨fun _ => hQ, fun q => r_stonesIn hm ?_⟩
      rintro _ rfl
      rw [gl_id]
      rcases idx_none (Nat.lt_of_le_of_lt hlen (by decide)) hp with h1 | ⟨-, j, hj, hmj, rfl⟩
      · exact absurd h1 q
      · show ((nI j < μ (e1 1 3) m) → _) ∧ _
        rw [e3]
        exact ⟨fun q2 => absurd q2 (nI_nlt hmj hj), fun _ => hQ⟩
    | some i =>
      rw [hp] at hQ
      simp only at hQ
      obtain ⟨rfl, hi⟩ := idx_some (Nat.lt_of_le_of_lt hlen (by decide)) hp
      have hi' : i < (F.1.2.2.2.2.1 m).1.length := hi
      have hlen' : (F.1.2.2.2.2.1 m).1.length ≤ 22 := hlen
      refine ⟨fun q => absurd q (nI_pos (by omega)), fun q => r_stonesIn hm ?_⟩
      rintro _ rfl
      rw [gl_id]
      show ((nI i < μ (e1 1 3) m) → _) ∧ _
      rw [e3]
      refine ⟨fun _ => ?_, fun q2 => absurd (nI_lt hi (by omega)) q2⟩
      have hg := getD_of hi
      have hs := bOk_at hbok hg
      refine r_stoneAtL hm hN.1 hg hlen ?_
      rintro _ rfl
      rw [gl_id]
      refine lad4 (fun hw => ?_) (fun hw => ?_) (fun hw => ?_) (fun hw => ?_) (fun hw => ?_)
      · rw [hw] at hQ; exact r_kind hs hQ
      · rw [hw] at hQ; exact r_first hs hQ
      · rw [hw] at hQ; exact r_last hs hQ
      · rw [hw] at hQ; exact r_num hs hQ
      · rw [hw] at hQ; exact hQ
theorem x_node {n w : Int32} {μ : Mem} {F : FS} (hF : RepF μ F) (hok : FOk F) {Q : Int32 → Mem → Prop} (hQ : Q (fNode n w F) μ) : wpX5_ofNode n w μ Q := by
  unfold fNode at hQ
  unfold wpX5_ofNode
  cases h : idx 13 n with
  | none =>
    rw [h] at hQ
    exact r_isNodeN h ⟨fun q => absurd rfl q, fun _ => hQ⟩
  | some m =>
    rw [h] at hQ
    simp only at hQ
    obtain ⟨rfl, hm⟩ := idx_some (by decide) h
    obtain ⟨⟨g1, g2⟩, g3, g4, g5⟩ := hF.1.2.2.2.2.1 m hm
    refine r_isNode hm ⟨fun _ => ?_, fun q => absurd q (by decide)⟩
    refine lad6 (fun hw => ?_) (fun hw => ?_) (fun hw => ?_) (fun hw => ?_) (fun hw => ?_) (fun hw => ?_) (fun hw => ?_)
    · rw [hw] at hQ
      refine r_stonesIn hm (gl_same ?_)
      rw [show μ (e1 1 3) m = _ from g1]; exact hQ
    · rw [hw] at hQ; exact r_firstKey hm hQ
    · rw [hw] at hQ; exact r_lastKey hm hQ
    · rw [hw] at hQ
      unfold wpX4_timesSunk
      refine r_numberOf (b := 5) (m := 13) (μ := fun k => μ (e1 1 k)) hm (by decide) (gl_same ?_)
      rw [show μ (e1 1 5) m = _ from g3]; exact hQ
    · rw [hw] at hQ
      unfold wpX4_stonesSunk
      refine r_numberOf (b := 6) (m := 13) (μ := fun k => μ (e1 1 k)) hm (by decide) (gl_same ?_)
      rw [show μ (e1 1 6) m = _ from g4]; exact hQ
    · rw [hw] at hQ
      unfold wpX4_stonesJoined
      refine r_numberOf (b := 7) (m := 13) (μ := fun k => μ (e1 1 k)) hm (by decide) (gl_same ?_)
      rw [show μ (e1 1 7) m = _ from g5]; exact hQ
    · rw [hw] at hQ; exact hQ
theorem x_key {k w : Int32} {μ : Mem} {F : FS} (hF : RepF μ F) (hok : FOk F) {Q : Int32 → Mem → Prop} (hQ : Q (fKey k w F) μ) : wpX5_ofKey k w μ Q := by
  unfold fKey at hQ
  unfold wpX5_ofKey
  cases h : idx 27 k with
  | none =>
    rw [h] at hQ
    exact r_isKeyN h ⟨fun q => absurd rfl q, fun _ => hQ⟩
  | some m =>
    rw [h] at hQ
    simp only at hQ
    obtain ⟨rfl, hm⟩ := idx_some (by decide) h
    have hW := (x_tree hF).2.2.2.2
    have ho := hok.1.2.2.2
    refine r_isKey hm ⟨fun _ => ?_, fun q => absurd q (by decide)⟩
    refine lad4 (fun hw => ?_) (fun hw => ?_) (fun hw => ?_) (fun hw => ?_) (fun hw => ?_)
    · rw [hw] at hQ; exact r_inLeaf hm hW (gl_same hQ)
    · rw [hw] at hQ; exact r_asRead hm ho hW (gl_same hQ)
    · rw [hw] at hQ; exact r_stonesWith hm ho hW (gl_same hQ)
    · rw [hw] at hQ; exact r_deepest hm ho hW (gl_same hQ)
    · rw [hw] at hQ; exact hQ
theorem x_count {w : Int32} {μ : Mem} {F : FS} (hF : RepF μ F) (hok : FOk F) {Q : Int32 → Mem → Prop} (hQ : Q (fCount w F) μ) : wpX5_count w μ Q := by
  unfold fCount at hQ
  unfold wpX5_count
  obtain ⟨t0, t1, t2, t3, hW⟩ := x_tree hF
  have ho := hok.1.2.2.2
  refine lad10 (fun hw => ?_) (fun hw => ?_) (fun hw => ?_) (fun hw => ?_) (fun hw => ?_) (fun hw => ?_) (fun hw => ?_) (fun hw => ?_) (fun hw => ?_) (fun hw => ?_) (fun hw => ?_)
  · rw [hw] at hQ; exact r_stones hW (gl_same hQ)
  · rw [hw] at hQ
    unfold wpX4_stonesSent
    refine gl_same ?_
    show Q (μ (e1 1 0) 0) μ
    rw [show μ (e1 1 0) 0 = _ from t2]; exact hQ
  · rw [hw] at hQ; exact r_allSunk hW (gl_same hQ)
  · rw [hw] at hQ
    unfold wpX4_stonesApplied
    refine gl_same ?_
    show Q (μ (e1 1 0) 1) μ
    rw [show μ (e1 1 0) 1 = _ from hW.2.2]; exact hQ
  · rw [hw] at hQ
    unfold wpX4_buffersLookedAt
    refine gl_same ?_
    show Q (μ (e1 1 0) 2) μ
    rw [show μ (e1 1 0) 2 = _ from t3]; exact hQ
  · rw [hw] at hQ; exact r_keysPresent ho hW (gl_same hQ)
  · rw [hw] at hQ
    unfold wpX1_length
    refine gl_sameB ?_
    have e : μ (e1 85 0) 0 = nI F.2.2.2.length := hF.2.2.2.1
    show Q (μ (e1 85 0) 0) μ
    rw [e]; exact hQ
  · rw [hw] at hQ
    unfold wpX0_states
    refine gl_sameB ?_
    obtain ⟨-, nx, -, -, g2, -⟩ := hF.2.1
    have e : μ (e1 17 0) 1 = nI F.2.1.length := g2
    show Q (μ (e1 17 0) 1) μ
    rw [e]; exact hQ
  · rw [hw] at hQ
    refine r_setting (i := 0) (by decide) (gl_same ?_)
    show Q (μ (e1 1 1) 0) μ
    rw [show μ (e1 1 1) 0 = _ from t0]; exact hQ
  · rw [hw] at hQ
    refine r_setting (i := 1) (by decide) (gl_same ?_)
    show Q (μ (e1 1 1) 1) μ
    rw [show μ (e1 1 1) 1 = _ from t1]; exact hQ
  · rw [hw] at hQ; exact hQ
theorem x_piece {a b : Int32} {P : Int32 → Prop} (h0 : idx 27 a = none → P 0) (h1 : ∀ f, a = nI f → f < 27 → idx 27 b = none → P 0) (h2 : ∀ f l, a = nI f → b = nI l → f < 27 → l < 27 → P (if l < f then 0 else 1)) : wpX5_isPiece a b P := by
  unfold wpX5_isPiece
  cases ha : idx 27 a with
  | none => exact r_isKeyN ha ⟨fun _ => h0 ha, fun q => absurd rfl q⟩
  | some f =>
    obtain ⟨rfl, hf⟩ := idx_some (by decide) ha
    refine r_isKey hf ⟨fun q => absurd q (by decide), fun _ => ?_⟩
    cases hb : idx 27 b with
    | none => exact r_isKeyN hb ⟨fun _ => h1 f rfl hf hb, fun q => absurd rfl q⟩
    | some l =>
      obtain ⟨rfl, hl⟩ := idx_some (by decide) hb
      have h := h2 f l rfl rfl hf hl
      refine r_isKey hl ⟨fun q => absurd q (by decide), fun _ => ?_⟩
      rw [nI_ltI (by omega) (by omega)]
      by_cases hlf : l < f
      · rw [if_pos hlf] at h
        exact ⟨fun _ => h, fun q => absurd hlf q⟩
      · rw [if_neg hlf] at h
        exact ⟨fun q => absurd q hlf, fun _ => h⟩
theorem x_sum {a b : Int32} {μ : Mem} {F : FS} (hF : RepF μ F) (hok : FOk F) {Q : Int32 → Mem → Prop} (hQ : Q (fSum a b F) μ) : wpX5_sum a b μ Q := by
  unfold fSum at hQ
  unfold wpX5_sum
  refine x_piece (fun h => ?_) (fun f e hf h => ?_) (fun f l e1 e2 hf hl => ?_)
  · rw [h] at hQ
    exact ⟨fun q => absurd rfl q, fun _ => hQ⟩
  · rw [e, idx_nI (by decide) hf, h] at hQ
    exact ⟨fun q => absurd rfl q, fun _ => hQ⟩
  · rw [e1, e2, idx_nI (by decide) hf, idx_nI (by decide) hl] at hQ
    simp only at hQ
    by_cases hlf : l < f
    · rw [if_pos hlf] at hQ ⊢
      exact ⟨fun q => absurd rfl q, fun _ => hQ⟩
    · rw [if_neg hlf] at hQ ⊢
      refine ⟨fun _ => ?_, fun q => absurd q (by decide)⟩
      rw [e1, e2]
      exact r_sumAsRead (Nat.not_lt.mp hlf) hl hok.1.2.2.2 (x_tree hF).2.2.2.2 (gl_same hQ)
theorem x_heavy {n : Int32} {μ : Mem} {F : FS} (hF : RepF μ F) (hok : FOk F) {Q : Int32 → Mem → Prop} (hQ : Q (fHeavy n F) μ) : wpX5_heaviest n μ Q := by
  unfold fHeavy at hQ
  unfold wpX5_heaviest
  cases h : idx 13 n with
  | none =>
    rw [h] at hQ
    exact r_isNodeN h ⟨fun q => absurd rfl q, fun _ => hQ⟩
  | some m =>
    rw [h] at hQ
    simp only at hQ
    obtain ⟨rfl, hm⟩ := idx_some (by decide) h
    have hN := (x_tree hF).2.2.2.2.1 m hm
    have hno := hok.1.2.2.2.2 m hm
    have hlen := WOk_len hok.1.2.2.2 m hm
    refine r_isNode hm ⟨fun _ => ?_, fun q => absurd q (by decide)⟩
    refine r_heaviest hm (bIn_ok hno.2) hlen hN.1 (fun hs => ?_) (fun h0 => ?_)
    · have hne : ¬ ((sWT F).1 m).1 = [] := fun e => by
        obtain ⟨c, _, hc⟩ := hs
        have hc' : 0 < wg m c ((sWT F).1 m).1 := hc
        rw [e] at hc'
        exact absurd hc' (Nat.lt_irrefl 0)
      rw [if_neg hne] at hQ
      have hc := heav_lt m ((sWT F).1 m).1
      rintro _ rfl
      rw [gl_id]
      refine ⟨fun _ => r_isLow hm ?_, fun q => absurd (nI_pos' (Nat.lt_trans hc (by decide))) q⟩
      by_cases h4 : m < 4
      · rw [if_pos h4]
        refine ⟨fun _ => r_childNode ?_, fun q => absurd rfl q⟩
        unfold chK at hQ
        rw [if_pos h4] at hQ
        exact hQ
      · rw [if_neg h4]
        refine ⟨fun q => absurd q (by decide), fun _ => r_firstKeyOfChild hm ?_⟩
        unfold chK at hQ
        rw [if_neg h4] at hQ
        exact hQ
    · have he : ((sWT F).1 m).1 = [] := by
        apply Decidable.byContradiction
        intro hne
        obtain ⟨c, hc, hp⟩ := wg_some hno.2 hne
        have := h0 c hc
        omega
      rw [if_pos he] at hQ
      rintro _ rfl
      rw [gl_id]
      exact ⟨fun q => absurd q (by decide), fun _ => hQ⟩
theorem x_same {a b : Int32} {μ : Mem} {F : FS} (hF : RepF μ F) (hok : FOk F) {Q : Int32 → Mem → Prop} (hQ : Q (fSame a b F) μ) : wpX5_same a b μ Q := by
  unfold fSame at hQ
  unfold wpX5_same
  have hW := (x_tree hF).2.2.2.2
  have ho := hok.1.2.2.2
  cases ha : idx 27 a with
  | none =>
    rw [ha] at hQ
    exact r_isKeyN ha ⟨fun _ => hQ, fun q => absurd rfl q⟩
  | some f =>
    rw [ha] at hQ
    simp only at hQ
    obtain ⟨rfl, hf⟩ := idx_some (by decide) ha
    refine r_isKey hf ⟨fun q => absurd q (by decide), fun _ => ?_⟩
    cases hb : idx 27 b with
    | none =>
      rw [hb] at hQ
      exact r_isKeyN hb ⟨fun q => absurd rfl q, fun _ => hQ⟩
    | some l =>
      rw [hb] at hQ
      simp only at hQ
      obtain ⟨rfl, hl⟩ := idx_some (by decide) hb
      refine r_isKey hl ⟨fun _ => ?_, fun q => absurd q (by decide)⟩
      refine r_asRead hf ho hW ?_
      rintro _ rfl
      rw [gl_id]
      refine r_asRead hl ho hW ?_
      rintro _ rfl
      rw [gl_id]
      by_cases e : rdK (sWT F) f = rdK (sWT F) l
      · rw [if_pos e] at hQ
        exact ⟨fun q => absurd (congrArg encV e) q, fun _ => hQ⟩
      · rw [if_neg e] at hQ
        exact ⟨fun _ => hQ, fun q => absurd (encV_inj (rdK_ok ho hf) (rdK_ok ho hl) q) e⟩
theorem gl_ne {b n : Nat} {μ τ : Mem} {k : Nat} (h : ¬ (b ≤ k ∧ k < b + n)) : glue (e1 b) n μ τ k = μ k := by rw [glue_e1, if_neg h]
theorem gl_in {b n : Nat} {μ τ : Mem} {k : Nat} (h : k < n) : glue (e1 b) n μ τ (b + k) = τ k := by rw [glue_e1, if_pos (by omega), Nat.add_sub_cancel_left]
theorem sOk_set {k : Nat} (hk : k < 27) : sOk (0, k, k, 0) := ⟨show 0 < 3 by decide, Nat.le_refl k, hk, show 0 < 1000 by decide⟩
theorem x_sunk {k : Nat} (hk : k < 27) {μ : Mem} {F : FS} (hF : RepF μ F) (hok : FOk F) {Q : Int32 → Mem → Prop} (hQ : ∀ μ', RepF μ' F → Q (sunk F.1 k) μ') : wpX5_sunkBySetting (nI k) μ Q := by
  have hl := WOk_len hok.1.2.2.2
  unfold wpX5_sunkBySetting
  refine x_copy (a := 9) (b := 1) (by decide) hl hF.1 (fun μ3 h3 ho3 => r_of (k := 0) (n := 0) (by omega) (by omega) (by decide) ?_)
  have hF3 := RepF_trial hF (fun k hk => ho3 k (by omega))
  refine r_drop (sOk_set hk) hok.1 (μ := fun k => μ3 (e1 9 k)) h3 (fun μ6 h6 => ?_)
  rintro μ7 e7
  have hF7 : RepF μ7 F := RepF_trial hF3 (fun k hk => by rw [e7]; exact gl_ne (by omega))
  have h7 : RepT (fun k => μ7 (e1 9 k)) (dropT (0, k, k, 0) F.1) := RepT_congr (fun k hk => by
    show μ7 (9 + k) = μ6 k
    rw [e7]
    exact gl_in hk) h6
  refine r_allSunk h7.2.2.2.2 ?_
  rintro _ rfl
  rw [gl_id]
  exact r_allSunk (x_tree hF7).2.2.2.2 (gl_same (hQ μ7 hF7))
theorem x_would {k : Int32} {μ : Mem} {F : FS} (hF : RepF μ F) (hok : FOk F) {Q : Int32 → Mem → Prop} (hQ : ∀ μ', RepF μ' F → Q (fWould k F) μ') : wpX5_wouldSink k μ Q := by
  unfold fWould at hQ
  unfold wpX5_wouldSink
  cases h : idx 27 k with
  | none =>
    rw [h] at hQ
    exact r_isKeyN h ⟨fun q => absurd rfl q, fun _ => hQ μ hF⟩
  | some m =>
    rw [h] at hQ
    obtain ⟨rfl, hm⟩ := idx_some (by decide) h
    exact r_isKey hm ⟨fun _ => x_sunk hm hF hok hQ, fun q => absurd q (by decide)⟩
theorem lx_worst {w : Int32} {F : FS} (hok : FOk F) {Q : Int32 → Mem → Prop} (h0 : ∀ μ', RepF μ' F → w = 0 → Q (nI (worst F.1 27).1) μ') (h1 : ∀ μ', RepF μ' F → ¬ w = 0 → Q (worst F.1 27).2 μ') : ∀ (m i f : Nat) (μ : Mem), i + m = 27 → m < f → RepF μ F → bkX5_worstKey_23 Q f w (nI (worst F.1 i).1) (worst F.1 i).2 (nI i) μ
  | _, _, 0, _, _, hf, _ => absurd hf (Nat.not_lt_zero _)
  | 0, i, f + 1, μ, hi, _, hF => by
    have e : i = 27 := by omega
    subst e
    unfold bkX5_worstKey_23
    exact ⟨fun _ => ⟨fun c => h1 μ hF c, fun c => h0 μ hF c⟩, fun q => absurd (nI_le (Nat.le_refl 27) (by decide)) q⟩
  | m + 1, i, f + 1, μ, hi, hf, hF => by
    have hi27 : i < 27 := by omega
    unfold bkX5_worstKey_23
    refine ⟨fun q => absurd q (nI_ge hi27 (by decide)), fun _ => x_sunk hi27 hF hok (fun μ4 hF4 => ⟨fun c => ?_, fun c => ?_⟩)⟩
    · rintro _ rfl
      have e : worst F.1 (i + 1) = worst F.1 i := by conv => lhs; unfold worst; rw [if_pos c]
      have h := lx_worst hok h0 h1 m (i + 1) f μ4 (by omega) (by omega) hF4
      rw [e] at h
      rw [nI_1]
      exact h
    · rintro _ rfl
      have e : worst F.1 (i + 1) = (i, sunk F.1 i) := by conv => lhs; unfold worst; rw [if_neg c]
      have h := lx_worst hok h0 h1 m (i + 1) f μ4 (by omega) (by omega) hF4
      rw [e] at h
      rw [nI_1]
      exact h
theorem worst_1 (t : TS) : worst t 1 = (0, sunk t 0) := by
  have h : sunk t 0 ≤ (worst t 0).2 := Int32.le_refl _
  unfold worst
  rw [if_pos h]
  rfl
theorem x_worst {w : Int32} {μ : Mem} {F : FS} (hF : RepF μ F) (hok : FOk F) {Q : Int32 → Mem → Prop} (hQ : ∀ μ', RepF μ' F → Q (fWorst w F) μ') : wpX5_worstKey w μ Q := by
  unfold fWorst at hQ
  have go : ∀ j, idx 2 w = some j → bkX5_worstKey_12 Q w μ := fun j hj => by
    obtain ⟨ew, hj2⟩ := idx_some (by decide) hj
    unfold bkX5_worstKey_12
    refine x_sunk (k := 0) (by decide) hF hok (fun μ2 hF2 => ⟨27, ?_⟩)
    rw [hj] at hQ
    simp only at hQ
    have h := lx_worst (w := w) hok (Q := Q) (fun μ' h' c => ?_) (fun μ' h' c => ?_) 26 1 27 μ2 (by decide) (by decide) hF2
    · rw [worst_1] at h
      exact h
    · have e : j = 0 := nI_inj (by omega) (by decide) (ew.symm.trans c)
      rw [if_pos e] at hQ
      exact hQ μ' h'
    · have e : ¬ j = 0 := fun e => c (by rw [ew, e]; rfl)
      rw [if_neg e] at hQ
      exact hQ μ' h'
  unfold wpX5_worstKey
  refine ⟨fun c => go 0 (by rw [c]; exact idx_nI (k := 0) (by decide) (by decide)), fun c0 => ⟨fun c => go 1 (by rw [c]; exact idx_nI (k := 1) (by decide) (by decide)), fun c1 => ?_⟩⟩
  cases h : idx 2 w with
  | none =>
    rw [h] at hQ
    exact hQ μ hF
  | some j =>
    obtain ⟨ew, hj2⟩ := idx_some (by decide) h
    rcases (show j = 0 ∨ j = 1 by omega) with rfl | rfl
    · exact absurd ew c0
    · exact absurd ew c1
theorem lx_toE {F : FS} (hok : FOk F) {Q : Int32 → Mem → Prop} (hQ : ∀ μ', RepF μ' F → Q (fToE F) μ') : ∀ (m i f : Nat) (μ : Mem), i + m = 13 → m < f → RepF μ F → RepT (fun k => μ (9 + k)) (setW F.1 (empA F.1.1 F.1.2.1 (sWT F) i)) → bkX5_toEmptyAll_13 Q f (nI i) μ
  | _, _, 0, _, _, hf, _, _ => absurd hf (Nat.not_lt_zero _)
  | 0, i, f + 1, μ, hi, _, hF, hT => by
    have e : i = 13 := by omega
    subst e
    unfold bkX5_toEmptyAll_13
    have h := hQ μ hF
    unfold fToE at h
    generalize empA F.1.1 F.1.2.1 (sWT F) 13 = we at h hT
    have hW : RepW (fun k => μ (e1 9 k)) we := hT.2.2.2.2
    refine ⟨fun _ => r_allSunk (μ := fun k => μ (e1 9 k)) hW ?_, fun q => absurd (nI_le (Nat.le_refl 13) (by decide)) q⟩
    rintro _ rfl
    rw [gl_id]
    exact r_allSunk (x_tree hF).2.2.2.2 (gl_same h)
  | m + 1, i, f + 1, μ, hi, hf, hF, hT => by
    have hi13 : i < 13 := by omega
    unfold bkX5_toEmptyAll_13
    refine ⟨fun q => absurd q (nI_ge hi13 (by decide)), fun _ => ?_⟩
    refine r_emptyBuffer (μ := fun k => μ (e1 9 k)) hi13 hok.1.2.1 hok.1.2.2.1 (empA_ok hok.1.2.1 hok.1.2.2.2 i (by omega)) ⟨hT.1, hT.2.1⟩ hT.2.2.2.2 (fun μ11 hW hk => ?_)
    rintro μ12 e12
    rintro _ rfl
    rw [nI_1]
    refine lx_toE hok hQ m (i + 1) f μ12 (by omega) (by omega) (RepF_trial hF (fun k hk => by rw [e12]; exact gl_ne (by omega))) (RepT_congr (fun k hk => ?_) (τ := μ11) ⟨(hk.1 0).trans hT.1, (hk.1 1).trans hT.2.1, hk.2.1.trans hT.2.2.1, hk.2.2.trans hT.2.2.2.1, hW⟩)
    show μ12 (9 + k) = μ11 k
    rw [e12]
    exact gl_in hk
theorem x_toE {μ : Mem} {F : FS} (hF : RepF μ F) (hok : FOk F) {Q : Int32 → Mem → Prop} (hQ : ∀ μ', RepF μ' F → Q (fToE F) μ') : wpX5_toEmptyAll μ Q := by
  have hl := WOk_len hok.1.2.2.2
  unfold wpX5_toEmptyAll
  refine x_copy (a := 9) (b := 1) (by decide) hl hF.1 (fun μ3 h3 ho3 => ⟨14, ?_⟩)
  exact lx_toE hok hQ 13 0 14 μ3 (by decide) (by decide) (RepF_trial hF (fun k hk => ho3 k (by omega))) h3
theorem x_wipe {μ : Mem} {F : FS} (hF : RepF μ F) {Q : Int32 → Mem → Prop} (hQ : ∀ μ', RepF μ' (fWipe F).2 → Q (fWipe F).1 μ') : wpX5_wipe μ Q := by
  unfold wpX5_wipe wpX1_length wpX1_clear
  rintro _ rfl
  rw [gl_id]
  rintro _ rfl _ rfl
  have e : μ (e1 85 0) 0 = nI F.2.2.2.length := hF.2.2.2.1
  show Q (μ (e1 85 0) 0) _
  rw [e]
  refine hQ _ (RepF_pad hF (fun k hk => gl_ne (by omega)) ⟨?_, fun i c hi => by cases hi⟩)
  show glue (e1 85) 3 μ _ (85 + 0) 0 = 0
  rw [gl_in (by decide), ms_same]
theorem x_undo {μ : Mem} {F : FS} (hF : RepF μ F) (hok : FOk F) {Q : Int32 → Mem → Prop} (hQ : ∀ μ', RepF μ' (fUndo F).2 → Q (fUndo F).1 μ') : wpX5_undo μ Q := by
  unfold fUndo at hQ
  unfold wpX5_undo wpX0_states
  rintro _ rfl
  rw [gl_id]
  obtain ⟨hT, hH, hS, hP⟩ := hF
  have e : μ (e1 17 0) 1 = nI F.2.1.length := by
    obtain ⟨-, nx, -, -, g2, -⟩ := hH
    exact g2
  show ((¬ μ (e1 17 0) 1 = 0) → _) ∧ ((μ (e1 17 0) 1 = 0) → _)
  rw [e]
  cases hh : F.2.1 with
  | nil =>
    rw [hh] at hQ
    exact ⟨fun q => absurd rfl q, fun _ => hQ μ ⟨hT, hH, hS, hP⟩⟩
  | cons t hs =>
    rw [hh] at hQ hH
    have h6 : hs.length + 1 ≤ 6 := by
      have := hok.2.2.2.1
      rw [hh, List.length_cons] at this
      exact this
    have htok := hok.2.1 t (by rw [hh]; exact List.mem_cons_self ..)
    refine ⟨fun _ => ?_, fun q => absurd (nI_inj (b := 0) (by rw [List.length_cons]; omega) (by decide) q) (by rw [List.length_cons]; omega)⟩
    refine r_takeBack (hs := hs) (WOk_len htok.2.2.2) (RepH_congr (fun k hk => ?_) hH) (fun μ5 hH5 hT5 => ?_)
    · show μ (e2 50 17 1 k) = μ (17 + k)
      unfold e2
      rw [if_pos hk]
    · rintro μ6 e6
      have G : ∀ k, μ6 k = if 17 ≤ k ∧ k < 17 + 50 then μ5 (k - 17) else if 1 ≤ k ∧ k < 1 + 8 then μ5 (k - 1 + 50) else μ k := fun k => by rw [e6]; exact glue_e2 (n2 := 8) (Or.inr (by decide)) μ μ5 k
      have hF6 : RepF μ6 (t, hs, F.2.2) := by
        refine ⟨RepT_congr (fun k hk => ?_) hT5, RepH_congr (fun k hk => ?_) hH5, fun i hi => SlotX_congr hi (fun k h1 h2 => ?_) (hS i hi), ?_⟩
        · show μ6 (1 + k) = μ5 (50 + k)
          rw [G, if_neg (show ¬ (17 ≤ 1 + k ∧ 1 + k < 17 + 50) by omega), if_pos (by omega)]
          congr 1
          omega
        · show μ6 (17 + k) = μ5 k
          rw [G, if_pos (by omega), Nat.add_sub_cancel_left]
        · rw [G, if_neg (show ¬ (17 ≤ k ∧ k < 17 + 50) by omega), if_neg (by omega)]
        · rw [G, G, if_neg (by decide), if_neg (by decide), if_neg (by decide), if_neg (by decide)]
          exact hP
      have h := hQ μ6 hF6
      rintro _ rfl
      rw [gl_id]
      obtain ⟨-, nx, -, -, g2, -⟩ := hF6.2.1
      have e : μ6 (e1 17 0) 1 = nI hs.length := g2
      show Q (μ6 (e1 17 0) 1) μ6
      rw [e]
      exact h
theorem x_save {s : Int32} {μ : Mem} {F : FS} (hF : RepF μ F) (hok : FOk F) {Q : Int32 → Mem → Prop} (hQ : ∀ μ', RepF μ' (fSave s F).2 → Q (fSave s F).1 μ') : wpX5_save s μ Q := by
  unfold fSave at hQ
  unfold wpX5_save
  cases h : idx 2 s with
  | none =>
    rw [h] at hQ
    exact r_isSlotN h ⟨fun q => absurd rfl q, fun _ => hQ μ hF⟩
  | some m =>
    rw [h] at hQ
    obtain ⟨rfl, hm⟩ := idx_some (by decide) h
    refine r_isSlot hm ⟨fun _ => ?_, fun q => absurd q (by decide)⟩
    rw [nI_clamp (show m < 2 ^ 31 by omega)]
    refine ⟨vinI hm (by decide), x_copy (a := 68 + 8 * m) (b := 1) (by omega) (WOk_len hok.1.2.2.2) hF.1 (fun μ5 h5 ho5 => ⟨vinI hm (by decide), ?_⟩)⟩
    rintro μ6 e6
    have e1 : vp_nar .boolean (1 : Int32) = 1 := by decide
    rw [e1] at e6
    have hc : ∀ k, k ≠ 84 → μ6 k = μ5 k := fun k hk => by rw [e6, ms_cell _ _ _ hk]
    have hF6 : RepF μ6 (F.1, F.2.1, up F.2.2.1 m (some F.1), F.2.2.2) := by
      refine ⟨RepT_congr (fun k hk => ?_) hF.1, RepH_congr (fun k hk => ?_) hF.2.1, fun i hi => ?_, ?_⟩
      · show μ6 (1 + k) = μ (1 + k)
        rw [hc _ (by omega), ho5 _ (by omega)]
      · show μ6 (17 + k) = μ (17 + k)
        rw [hc _ (by omega), ho5 _ (by omega)]
      · show SlotX μ6 i (up F.2.2.1 m (some F.1) i)
        by_cases e : i = m
        · rw [e, up_same]
          refine ⟨by rw [e6, ms_same], RepT_congr (fun k hk => ?_) h5⟩
          exact hc _ (by omega)
        · rw [up_ne _ _ e]
          have hs := hF.2.2.1 i hi
          have e84 : μ6 84 i = μ 84 i := by rw [e6, ms_place _ _ _ e, ho5 84 (by omega)]
          cases ho : F.2.2.1 i with
          | none =>
            rw [ho] at hs
            show μ6 84 i = 0
            rw [e84]
            exact hs
          | some t =>
            rw [ho] at hs
            refine ⟨by rw [e84]; exact hs.1, RepT_congr (fun k hk => ?_) hs.2⟩
            show μ6 (68 + 8 * i + k) = μ (68 + 8 * i + k)
            rw [hc _ (by omega), ho5 _ (by omega)]
      · rw [hc 85 (by decide), hc 86 (by decide), ho5 85 (by omega), ho5 86 (by omega)]
        exact hF.2.2.2
    exact r_stones (x_tree hF6).2.2.2.2 (gl_same (hQ _ hF6))
theorem x_restore {s : Int32} {μ : Mem} {F : FS} (hF : RepF μ F) (hok : FOk F) {Q : Int32 → Mem → Prop} (hQ : ∀ μ', RepF μ' (fRest s F).2 → Q (fRest s F).1 μ') : wpX5_restore s μ Q := by
  unfold fRest at hQ
  unfold wpX5_restore
  cases h : idx 2 s with
  | none =>
    rw [h] at hQ
    exact r_isSlotN h ⟨fun q => absurd rfl q, fun _ => hQ μ hF⟩
  | some m =>
    rw [h] at hQ
    simp only at hQ
    obtain ⟨rfl, hm⟩ := idx_some (by decide) h
    refine r_isSlot hm ⟨fun _ => ?_, fun q => absurd q (by decide)⟩
    rw [nI_clamp (show m < 2 ^ 31 by omega)]
    have hs := hF.2.2.1 m hm
    refine ⟨vinI hm (by decide), fun c => ?_, fun c => ?_⟩
    · cases ho : F.2.2.1 m with
      | none =>
        rw [ho] at hs
        exact absurd hs c
      | some t =>
        rw [ho] at hQ
        have htok := hok.2.2.1 m t ho
        refine x_record hF hok (fun μ5 h5 => ⟨vinI hm (by decide), ?_⟩)
        have hs5 := h5.2.2.1 m hm
        have ho5 : (fGo F F.1).2.2.1 m = some t := ho
        rw [ho5] at hs5
        refine x_copy (a := 1) (b := 68 + 8 * m) (by omega) (WOk_len htok.2.2.2) hs5.2 (fun μ8 h8 ho8 => ?_)
        have hF8 : RepF μ8 (fGo F t) := RepF_tree (t := t) h5 (fun k hk => ho8 k (by omega)) h8
        exact r_stones (x_tree hF8).2.2.2.2 (gl_same (hQ _ hF8))
    · cases ho : F.2.2.1 m with
      | none =>
        rw [ho] at hQ
        exact hQ μ hF
      | some t =>
        rw [ho] at hs
        exact absurd (hs.1.symm.trans c) (by decide)
