/-! the reference: what a child gets is taken out -/
def RawL (f : Nat → Int32) (p : Nat) (b : List Stn) : Prop := ∀ i s, b[i]? = some s → StM f (p + 4 * i) s
theorem RawL_nil (f : Nat → Int32) (p : Nat) : RawL f p [] := fun i s h => by cases h
theorem RawL_congr {f g : Nat → Int32} {p : Nat} {b : List Stn} (h : ∀ j, p ≤ j → j < p + 4 * b.length → g j = f j) (hr : RawL f p b) : RawL g p b := fun i s hi => by
  have := getE_lt hi
  exact StM_congr (fun j h1 h2 => h j (by omega) (by omega)) (hr i s hi)
theorem RawL_snoc {f : Nat → Int32} {p : Nat} {b : List Stn} {s : Stn} (hr : RawL f p b) (hs : StM f (p + 4 * b.length) s) : RawL f p (b ++ [s]) := fun i t hi => by
  rcases Nat.lt_or_ge i b.length with g | g
  · rw [ap_l g] at hi
    exact hr i t hi
  · have hlt := getE_lt hi
    rw [List.length_append, List.length_singleton] at hlt
    have e : i = b.length := by omega
    subst e
    rw [ap_r (Nat.le_refl _), Nat.sub_self] at hi
    cases hi
    exact hs
theorem q_leaves {p z : Nat} {s t : Stn} {μ : Mem} (hp : p + 3 < 1333) (hz : z < 24) (h0 : μ 0 2 = nI z) (hs : StM (μ 1) p s) (hk : sK t = sK s) (hn : sN t = sN s) {Q : Mem → Prop} (hQ : ∀ μ', StM (μ' 7) (4 * z) t → μ' 0 2 = nI (z + 1) → (∀ j, j < 4 * z → μ' 7 j = μ 7 j) → (∀ k j, k ≠ 7 → (k = 0 → j ≠ 2) → μ' k j = μ k j) → Q μ') : wpX6_leaves (nI p) (nI (sF t)) (nI (sL t)) μ Q := by
  unfold wpX6_leaves
  rw [h0, li 4, nI_mul, nI_clamp (show 4 * z < 2 ^ 31 by omega), nI_clamp (show p < 2 ^ 31 by omega), hs.1]
  refine ⟨vinI (by omega) (by decide), vinI (by omega) (by decide), ?_⟩
  rintro μ1 e1
  have f1 : μ1 0 2 = nI z := by rw [e1, ms_cell _ _ _ (by decide)]; exact h0
  rw [f1, li 1, nI_mul, nI_add, nI_clamp (show 4 * z + 1 < 2 ^ 31 by omega)]
  refine ⟨vinI (by omega) (by decide), ?_⟩
  rintro μ2 e2
  have f2 : μ2 0 2 = nI z := by rw [e2, ms_cell _ _ _ (by decide)]; exact f1
  rw [f2, li 2, nI_mul, nI_add, nI_clamp (show 4 * z + 2 < 2 ^ 31 by omega)]
  refine ⟨vinI (by omega) (by decide), ?_⟩
  rintro μ3 e3
  have f3 : μ3 0 2 = nI z := by rw [e3, ms_cell _ _ _ (by decide)]; exact f2
  have f4 : μ3 1 (p + 3) = nI (sN s) := by rw [e3, e2, e1, ms_cell _ _ _ (by decide), ms_cell _ _ _ (by decide), ms_cell _ _ _ (by decide)]; exact hs.2.2.2
  rw [f3, li 3, nI_mul, nI_add, nI_add, nI_clamp (show 4 * z + 3 < 2 ^ 31 by omega), nI_clamp (show p + 3 < 2 ^ 31 by omega), f4]
  refine ⟨vinI (by omega) (by decide), vinI (by omega) (by decide), ?_⟩
  rintro μ4 e4
  have f5 : μ4 0 2 = nI z := by rw [e4, ms_cell _ _ _ (by decide)]; exact f3
  rw [f5, nI_add]
  rintro _ rfl
  refine hQ _ ⟨?_, ?_, ?_, ?_⟩ (ms_same _ _ _ _) (fun j hj => ?_) (fun k j hk7 hk0 => ?_)
  · rw [ms_cell _ _ _ (by decide), e4, e3, e2, e1, ms_place _ _ _ (by omega), ms_place _ _ _ (by omega), ms_place _ _ _ (by omega), ms_same, hk]
  · rw [ms_cell _ _ _ (by decide), e4, e3, e2, ms_place _ _ _ (by omega), ms_place _ _ _ (by omega), ms_same]
  · rw [ms_cell _ _ _ (by decide), e4, e3, ms_place _ _ _ (by omega), ms_same]
  · rw [ms_cell _ _ _ (by decide), e4, ms_same, hn]
  · rw [ms_cell _ _ _ (by decide), e4, e3, e2, e1, ms_place _ _ _ (by omega), ms_place _ _ _ (by omega), ms_place _ _ _ (by omega), ms_place _ _ _ (by omega)]
  · rw [ms_at, if_neg (by intro q; exact hk0 q.1 q.2), e4, e3, e2, e1, ms_cell _ _ _ hk7, ms_cell _ _ _ hk7, ms_cell _ _ _ hk7, ms_cell _ _ _ hk7]
theorem q_goes {p z : Nat} {s t : Stn} {μ : Mem} (hp : p + 3 < 1333) (hz : z + 3 < 292) (hs : StM (μ 1) p s) (hk : sK t = sK s) (hn : sN t = sN s) {Q : Mem → Prop} (hQ : ∀ μ', StM (μ' 6) z t → (∀ k j, (k = 6 → j < z ∨ z + 4 ≤ j) → μ' k j = μ k j) → Q μ') : wpX6_goes (nI p) (nI (sF t)) (nI (sL t)) (nI z) μ Q := by
  unfold wpX6_goes
  rw [nI_clamp (show p < 2 ^ 31 by omega), nI_clamp (show z < 2 ^ 31 by omega), hs.1]
  refine ⟨vinI (by omega) (by decide), vinI (by omega) (by decide), ?_⟩
  rintro μ1 e1
  rw [li 1, nI_add, nI_clamp (show z + 1 < 2 ^ 31 by omega)]
  refine ⟨vinI (by omega) (by decide), ?_⟩
  rintro μ2 e2
  rw [li 2, nI_add, nI_clamp (show z + 2 < 2 ^ 31 by omega)]
  refine ⟨vinI (by omega) (by decide), ?_⟩
  rintro μ3 e3
  have f4 : μ3 1 (p + 3) = nI (sN s) := by rw [e3, e2, e1, ms_cell _ _ _ (by decide), ms_cell _ _ _ (by decide), ms_cell _ _ _ (by decide)]; exact hs.2.2.2
  rw [li 3, nI_add, nI_add, nI_clamp (show z + 3 < 2 ^ 31 by omega), nI_clamp (show p + 3 < 2 ^ 31 by omega), f4]
  refine ⟨vinI (by omega) (by decide), vinI (by omega) (by decide), ?_⟩
  rintro _ rfl
  refine hQ _ ⟨?_, ?_, ?_, ?_⟩ (fun k j hkj => ?_)
  · rw [e3, e2, e1, ms_place _ _ _ (by omega), ms_place _ _ _ (by omega), ms_place _ _ _ (by omega), ms_same, hk]
  · rw [e3, e2, ms_place _ _ _ (by omega), ms_place _ _ _ (by omega), ms_same]
  · rw [e3, ms_place _ _ _ (by omega), ms_same]
  · rw [ms_same, hn]
  · rw [e3, e2, e1, ms_at, ms_at, ms_at, ms_at]
    by_cases h6 : k = 6
    · have := hkj h6
      rw [if_neg (by omega), if_neg (by omega), if_neg (by omega), if_neg (by omega)]
    · rw [if_neg (by omega), if_neg (by omega), if_neg (by omega), if_neg (by omega)]
/-- what a sinking leaves as it was, of a node n: lo is where its level begins -/
def frT (n : Nat) (μ μ' : Mem) : Prop := (∀ k j, k ≠ 1 → k ≠ 6 → k ≠ 7 → (k = 0 → j ≠ 2) → μ' k j = μ k j) ∧ (∀ j, (j < lvl n ∨ lvl n + 96 ≤ j) → μ' 6 j = μ 6 j) ∧ (∀ j, j ≠ 3 → ¬ inM n j → μ' 1 j = μ 1 j)
/-- while the buffer is gone through -/
def TkX (n lo hi : Nat) (L1 : List Stn) (μ0 μ : Mem) : Prop := μ 1 = μ0 1 ∧ μ 0 2 = nI (rst lo hi L1).length ∧ RawL (μ 7) 0 (rst lo hi L1) ∧ RawL (μ 6) (lvl n) (gon lo hi L1) ∧ (∀ k j, k ≠ 6 → k ≠ 7 → (k = 0 → j ≠ 2) → μ k j = μ0 k j) ∧ (∀ j, (j < lvl n ∨ lvl n + 96 ≤ j) → μ 6 j = μ0 6 j)
theorem lvl_le {n : Nat} : lvl n ≤ 192 := by unfold lvl; split; · omega
                                             · split <;> omega
/-- the row gets what was left -/
def cpB (μ : Mem) (p x y : Nat) : Mem := mput μ 1 (fun q => if p + x ≤ q ∧ q < p + y then μ 7 (q - p) else μ 1 q)
theorem cpB_1 (μ : Mem) (p x y j : Nat) : cpB μ p x y 1 j = if p + x ≤ j ∧ j < p + y then μ 7 (j - p) else μ 1 j := by
  unfold cpB
  rw [mp_same]
theorem cpB_ne (μ : Mem) (p x y : Nat) {k : Nat} (h : k ≠ 1) : cpB μ p x y k = μ k := by
  unfold cpB
  rw [mp_cell _ _ h]
theorem cpB_0 (μ : Mem) (p x : Nat) : cpB μ p x x = μ := by
  funext k q
  by_cases hk : k = 1
  · subst hk
    rw [cpB_1, if_neg (by omega)]
  · rw [cpB_ne _ _ _ _ hk]
theorem cpB_s (μ : Mem) {p x y : Nat} (h : x < y) : cpB (mset μ 1 (p + x) (μ 7 x)) p (x + 1) y = cpB μ p x y := by
  funext k q
  by_cases hk : k = 1
  · subst hk
    rw [cpB_1, cpB_1]
    by_cases h1 : p + (x + 1) ≤ q ∧ q < p + y
    · rw [if_pos h1, if_pos (by omega), ms_cell _ _ _ (by decide)]
    · rw [if_neg h1]
      by_cases h2 : q = p + x
      · subst h2
        rw [if_pos (by omega), ms_same, Nat.add_sub_cancel_left]
      · rw [if_neg (by omega), ms_place _ _ _ h2]
  · rw [cpB_ne _ _ _ _ hk, cpB_ne _ _ _ _ hk, ms_cell _ _ _ hk]
theorem lq_back {n z g : Nat} (hn : n < 13) (hz : z ≤ 22) (hg : g ≤ 22) {a5 a6 a3 : Int32} {Q : Int32 → Mem → Prop} : ∀ (m f x : Nat) (μ : Mem), x + m = 4 * z → m < f → μ 0 2 = nI z → μ 1 (33 + n) = a5 → μ 1 (46 + n) = a6 → μ 1 3 = a3 →
    Q (nI g) (mset (mset (mset (mset (cpB μ (pl n 0) x (4 * z)) 1 (72 + n) (nI z)) 1 (33 + n) (a5 + if g = 0 then 0 else 1)) 1 (46 + n) (a6 + nI g)) 1 3 (a3 + nI g)) → bkX6_takes_191 Q f (nI n) (nI g) (nI x) μ
  | _, 0, _, _, _, hf, _, _, _, _, _ => absurd hf (Nat.not_lt_zero _)
  | 0, f + 1, x, μ, hx, _, h0, h5, h6, h3, hQ => by
    have e : x = 4 * z := by omega
    subst e
    rw [cpB_0] at hQ
    unfold bkX6_takes_191
    rw [h0, li 4, nI_mul, li 72, li 33, nI_add, nI_add, nI_clamp (show 72 + n < 2 ^ 31 by omega)]
    refine ⟨fun _ => ⟨vinI (by omega) (by decide), ?_⟩, fun q => absurd (nI_le (Nat.le_refl _) (by omega)) q⟩
    rintro μ1 e1
    have f5 : μ1 1 (33 + n) = a5 := by rw [e1, ms_place _ _ _ (by omega)]; exact h5
    rw [nI_clamp (show 33 + n < 2 ^ 31 by omega), f5]
    have fin : ∀ v : Int32, v = (if g = 0 then (0 : Int32) else 1) → bkX6_takes_261 Q (nI n) (nI g) v a5 (nI (33 + n)) μ1 := fun v hv => by
      unfold bkX6_takes_261
      rw [nI_clamp (show 33 + n < 2 ^ 31 by omega)]
      refine ⟨vinI (by omega) (by decide), ?_⟩
      rintro μ2 e2
      have f6 : μ2 1 (46 + n) = a6 := by rw [e2, e1, ms_place _ _ _ (by omega), ms_place _ _ _ (by omega)]; exact h6
      rw [li 46, nI_add, nI_clamp (show 46 + n < 2 ^ 31 by omega), f6]
      refine ⟨vinI (by omega) (by decide), vinI (by omega) (by decide), ?_⟩
      rintro μ3 e3
      have f7 : μ3 1 3 = a3 := by rw [e3, e2, e1, ms_place _ _ _ (by omega), ms_place _ _ _ (by omega), ms_place _ _ _ (by omega)]; exact h3
      refine ⟨vinI (n := 1333) (a := 3) (by decide) (by decide), vinI (n := 1333) (a := 3) (by decide) (by decide), ?_⟩
      show ∀ μ4 : Mem, μ4 = mset μ3 1 3 (μ3 1 3 + nI g) → Q (nI g) μ4
      rw [f7, e3, e2, e1, hv]
      rintro _ rfl
      exact hQ
    refine ⟨vinI (by omega) (by decide), fun c => fin 0 ?_, fun c => fin 1 ?_⟩
    · have : g ≤ 0 := (nI_leI (a := g) (b := 0) (by omega) (by decide)).mp c
      rw [if_pos (by omega)]
    · have : ¬ g = 0 := fun e => c (by rw [e]; exact nI_le (Nat.le_refl 0) (by decide))
      rw [if_neg this]
  | m + 1, f + 1, x, μ, hx, hf, h0, h5, h6, h3, hQ => by
    have hp : pl n 0 = 85 + 96 * n + 4 * 0 := rfl
    unfold bkX6_takes_191
    rw [h0, li 4, nI_mul]
    refine ⟨fun q => absurd q (nI_ge (by omega) (by omega)), fun _ => q_place (k := 0) ?_⟩
    rw [nI_add, nI_clamp (show x < 2 ^ 31 by omega), nI_clamp (show pl n 0 + x < 2 ^ 31 by omega)]
    refine ⟨vinI (by omega) (by decide), vinI (by omega) (by decide), ?_⟩
    rintro _ rfl _ rfl
    rw [nI_1]
    refine lq_back (a5 := a5) (a6 := a6) (a3 := a3) hn hz hg m f (x + 1) _ (by omega) (by omega) ?_ ?_ ?_ ?_ ?_
    · rw [ms_cell _ _ _ (by decide)]; exact h0
    · rw [ms_place _ _ _ (by omega)]; exact h5
    · rw [ms_place _ _ _ (by omega)]; exact h6
    · rw [ms_place _ _ _ (by omega)]; exact h3
    · rw [cpB_s _ (by omega)]
      exact hQ
/-- the buffer behind it -/
theorem q_takesEnd {n c : Nat} (hn : n < 13) {μ0 μ : Mem} {w : WT} (hl : lenW w) (hw : RowW (μ0 1) w) (hT : TkX n (clo n c) (chi n c) (w.1 n).1 μ0 μ) (hr : (rst (clo n c) (chi n c) (w.1 n).1).length ≤ 22) {Q : Int32 → Mem → Prop}
    (hQ : ∀ μ', RowW (μ' 1) (setN n (takeN n c (w.1 n)) w) → RawL (μ' 6) (lvl n) (gon (clo n c) (chi n c) (w.1 n).1) → frT n μ0 μ' → Q (nI (gon (clo n c) (chi n c) (w.1 n).1).length) μ') : ∃ f, bkX6_takes_191 Q f (nI n) (nI (gon (clo n c) (chi n c) (w.1 n).1).length) (nI 0) μ := by
  obtain ⟨t1, t2, t3, t4, t5, t6⟩ := hT
  have hg : (gon (clo n c) (chi n c) (w.1 n).1).length ≤ 22 := by
    rw [gon_len]
    exact Nat.le_trans (wgt_le _ _ _) (hl n hn)
  obtain ⟨⟨g1, g2⟩, g3, g4, g5⟩ := hw.1 n hn
  have hp : pl n 0 = 85 + 96 * n + 4 * 0 := rfl
  refine ⟨_, lq_back (a5 := (w.1 n).2.1) (a6 := (w.1 n).2.2.1) (a3 := allSk w) hn hr hg (4 * (rst (clo n c) (chi n c) (w.1 n).1).length) _ 0 μ (by omega) (Nat.lt_succ_self _) t2 ?_ ?_ ?_ (hQ _ ?_ ?_ ⟨fun k j q1 q2 q3 q4 => ?_, fun j hj => ?_, fun j q1 q2 => ?_⟩)⟩
  · rw [t1]; exact g3
  · rw [t1]; exact g4
  · rw [t1]; exact hw.2.2.2
  · refine RowW_set (v := nI (gon (clo n c) (chi n c) (w.1 n).1).length) hn hl hw (fun j hj => ?_) ⟨⟨?_, fun i s hi => ?_⟩, ?_, ?_, ?_⟩ rfl ?_
    · by_cases h : inM n j
      · exact Or.inl h
      · refine Or.inr ?_
        unfold inM at h
        rw [ms_place _ _ _ (by omega), ms_place _ _ _ (by omega), ms_place _ _ _ (by omega), ms_place _ _ _ (by omega), cpB_1, if_neg (by omega), t1]
    · rw [ms_place _ _ _ (by omega), ms_place _ _ _ (by omega), ms_place _ _ _ (by omega), ms_same]
      rfl
    · have hi' : (rst (clo n c) (chi n c) (w.1 n).1)[i]? = some s := hi
      have hlt := getE_lt hi'
      refine StM_move (fun j hj => ?_) (t3 i s hi')
      have hpi : pl n i = 85 + 96 * n + 4 * i := rfl
      rw [ms_place _ _ _ (by omega), ms_place _ _ _ (by omega), ms_place _ _ _ (by omega), ms_place _ _ _ (by omega), cpB_1, if_pos (by omega)]
      congr 1
      omega
    · rw [ms_place _ _ _ (by omega), ms_place _ _ _ (by omega), ms_same]
      show _ = (w.1 n).2.1 + if gon (clo n c) (chi n c) (w.1 n).1 = [] then 0 else 1
      congr 1
      by_cases h : gon (clo n c) (chi n c) (w.1 n).1 = []
      · rw [if_pos h, if_pos (by rw [h]; rfl)]
      · rw [if_neg h, if_neg (fun q => h (List.length_eq_zero_iff.mp q))]
    · rw [ms_place _ _ _ (by omega), ms_same]
      rfl
    · rw [ms_place _ _ _ (by omega), ms_place _ _ _ (by omega), ms_place _ _ _ (by omega), ms_place _ _ _ (by omega), cpB_1, if_neg (by omega), t1]
      exact g5
    · rw [ms_same, hw.2.2.2]
  · rw [ms_cell _ _ _ (by decide), ms_cell _ _ _ (by decide), ms_cell _ _ _ (by decide), ms_cell _ _ _ (by decide), cpB_ne _ _ _ _ (by decide)]
    exact t4
  · rw [ms_cell _ _ _ q1, ms_cell _ _ _ q1, ms_cell _ _ _ q1, ms_cell _ _ _ q1, cpB_ne _ _ _ _ q1]
    exact t5 k j q2 q3 q4
  · rw [ms_cell _ _ _ (by decide), ms_cell _ _ _ (by decide), ms_cell _ _ _ (by decide), ms_cell _ _ _ (by decide), cpB_ne _ _ _ _ (by decide)]
    exact t6 j hj
  · unfold inM at q2
    rw [ms_place _ _ _ (by omega), ms_place _ _ _ (by omega), ms_place _ _ _ (by omega), ms_place _ _ _ (by omega), cpB_1, if_neg (by omega), t1]
theorem TkX_stay {n lo hi : Nat} {L1 : List Stn} {s : Stn} {μ0 μ μ' : Mem} (hlen : (rst lo hi L1).length < 24) (ht : ¬ tou lo hi s = true) (hT : TkX n lo hi L1 μ0 μ) (h7 : StM (μ' 7) (4 * (rst lo hi L1).length) s) (h0 : μ' 0 2 = nI ((rst lo hi L1).length + 1)) (hlow : ∀ j, j < 4 * (rst lo hi L1).length → μ' 7 j = μ 7 j) (hoth : ∀ k j, k ≠ 7 → (k = 0 → j ≠ 2) → μ' k j = μ k j) : TkX n lo hi (L1 ++ [s]) μ0 μ' := by
  obtain ⟨t1, t2, t3, t4, t5, t6⟩ := hT
  have e1 := rst_snoc lo hi L1 s
  have e2 := gon_snoc lo hi L1 s
  rw [if_neg ht] at e1 e2
  rw [List.append_nil] at e2
  have h1 : μ' 1 = μ 1 := by funext j; exact hoth 1 j (by decide) (fun q => absurd q (by decide))
  have h6 : μ' 6 = μ 6 := by funext j; exact hoth 6 j (by decide) (fun q => absurd q (by decide))
  refine ⟨h1.trans t1, ?_, ?_, ?_, fun k j q1 q2 q3 => (hoth k j q2 q3).trans (t5 k j q1 q2 q3), fun j hj => ?_⟩
  · rw [h0, e1, List.length_append]; rfl
  · rw [e1]
    refine RawL_snoc (RawL_congr (fun j _ hj => hlow j (by omega)) t3) ?_
    rw [Nat.zero_add]
    exact h7
  · rw [e2, h6]; exact t4
  · rw [h6]; exact t6 j hj
theorem lq_takes {n c : Nat} (hn : n < 13) (hc : c < 3) {μ0 : Mem} {w : WT} (hl : lenW w) (hw : RowW (μ0 1) w) (hok : bOk (w.1 n).1) (hcap : ∀ L1 L2, (w.1 n).1 = L1 ++ L2 → (rst (clo n c) (chi n c) L1).length + L2.length ≤ 22) {Q : Int32 → Mem → Prop}
    (hQ : ∀ μ', RowW (μ' 1) (setN n (takeN n c (w.1 n)) w) → RawL (μ' 6) (lvl n) (gon (clo n c) (chi n c) (w.1 n).1) → frT n μ0 μ' → Q (nI (gon (clo n c) (chi n c) (w.1 n).1).length) μ') :
    ∀ (L2 L1 : List Stn) (f : Nat) (μ : Mem), (w.1 n).1 = L1 ++ L2 → L2.length < f → TkX n (clo n c) (chi n c) L1 μ0 μ → bkX6_takes_33 Q f (nI n) (nI (clo n c)) (nI (chi n c)) (nI (gon (clo n c) (chi n c) L1).length) (nI L1.length) μ
  | _, _, 0, _, _, hf, _ => absurd hf (Nat.not_lt_zero _)
  | [], L1, f + 1, μ, hb, _, hT => by
    rw [List.append_nil] at hb
    have hB := (hw.1 n hn).1
    have hlen := hl n hn
    have hr := hcap _ [] (List.append_nil (w.1 n).1).symm
    rw [hb] at hB hlen hr
    unfold bkX6_takes_33
    rw [hT.1, li 72, nI_add, nI_clamp (by omega), hB.1]
    refine ⟨vinI (by omega) (by decide), fun _ => ?_, fun q => absurd (nI_le (Nat.le_refl _) (by omega)) q⟩
    rw [← hb] at hT hr ⊢
    exact q_takesEnd hn hl hw hT hr hQ
  | s :: L2, L1, f + 1, μ, hb, hf, hT => by
    have hlo := clo_le n hn c (by omega)
    have hhi := chi_lt n hn c hc
    have hlen := hl n hn
    have hbl : (w.1 n).1.length = L1.length + (L2.length + 1) := by rw [hb, List.length_append, List.length_cons]
    have hs : sOk s := hok s (by rw [hb]; simp)
    have hF : sF s < 27 := Nat.lt_of_le_of_lt hs.2.1 hs.2.2.1
    have hL := hs.2.2.1
    have hb2 : (w.1 n).1 = (L1 ++ [s]) ++ L2 := by rw [hb]; simp
    have h22 := hcap L1 (s :: L2) hb
    have h22' := hcap (L1 ++ [s]) L2 hb2
    rw [List.length_cons] at h22
    have hB := (hw.1 n hn).1
    have hsl : (w.1 n).1[L1.length]? = some s := by rw [hb, ap_r (Nat.le_refl _), Nat.sub_self]; rfl
    have hst := hB.2 _ _ hsl
    rw [← hT.1] at hst
    have hpl : pl n L1.length = 85 + 96 * n + 4 * L1.length := rfl
    have hlv : lvl n ≤ 192 := lvl_le
    have hg : (gon (clo n c) (chi n c) L1).length ≤ L1.length := by rw [gon_len]; exact wgt_le _ _ _
    have hl1 : nI L1.length + 1 = nI (L1 ++ [s]).length := by rw [nI_1, List.length_append]; rfl
    unfold bkX6_takes_33
    rw [hT.1, li 72, nI_add, nI_clamp (by omega), hB.1, ← hT.1]
    refine ⟨vinI (by omega) (by decide), fun q => absurd q (nI_ge (by omega) (by omega)), fun _ => q_place ?_⟩
    rw [li 1, li 2, nI_add, nI_add, nI_clamp (by omega), nI_clamp (by omega), hst.2.1, hst.2.2.1]
    refine ⟨vinI (by omega) (by decide), ?_⟩
    rintro _ rfl
    refine ⟨vinI (by omega) (by decide), ?_⟩
    rintro _ rfl
    refine q_has hs (by omega) (by omega) (by omega) hst ?_
    by_cases ht : tou (clo n c) (chi n c) s = true
    · rw [if_pos ht]
      have e1 := rst_snoc (clo n c) (chi n c) L1 s
      have e2 := gon_snoc (clo n c) (chi n c) L1 s
      rw [if_pos ht] at e1 e2
      have hlr : (rst (clo n c) (chi n c) (L1 ++ [s])).length = (rst (clo n c) (chi n c) L1).length + (lft (clo n c) (chi n c) s).length := by rw [e1, List.length_append]
      have hll := lft_len (clo n c) (chi n c) s
      have htt := ht
      simp [tou] at htt
      -- what goes down
      have key : bkX6_takes_131 Q (bkX6_takes_33 Q f) (nI n) (nI (clo n c)) (nI (chi n c)) (nI (gon (clo n c) (chi n c) L1).length) (nI L1.length) (nI (pl n L1.length)) (nI (sF s)) (nI (sL s)) (nI (sL (prt (clo n c) (chi n c) s))) (nI (sF (prt (clo n c) (chi n c) s))) (nI (pl n L1.length)) μ := by
        unfold bkX6_takes_131
        refine q_level hn ?_
        rw [li 4, nI_mul, nI_add]
        refine q_goes (s := s) (t := prt (clo n c) (chi n c) s) (by omega) (by omega) hst rfl rfl (fun μ1 k1 k2 => ?_)
        rintro _ rfl
        have e3 : nI (gon (clo n c) (chi n c) L1).length + 1 = nI (gon (clo n c) (chi n c) (L1 ++ [s])).length := by rw [nI_1, e2, List.length_append]; rfl
        obtain ⟨t1, t2, t3, t4, t5, t6⟩ := hT
        have m1 : ∀ k, k ≠ 6 → μ1 k = μ k := fun k hk => by funext j; exact k2 k j (fun q => absurd q hk)
        have g6 : RawL (μ1 6) (lvl n) (gon (clo n c) (chi n c) (L1 ++ [s])) := by
          rw [e2]
          exact RawL_snoc (RawL_congr (fun j _ hj => k2 6 j (fun _ => Or.inl (by omega))) t4) k1
        have o5 : ∀ k j, k ≠ 6 → k ≠ 7 → (k = 0 → j ≠ 2) → μ1 k j = μ0 k j := fun k j q1 q2 q3 => by rw [m1 k q1]; exact t5 k j q1 q2 q3
        have o6 : ∀ j, (j < lvl n ∨ lvl n + 96 ≤ j) → μ1 6 j = μ0 6 j := fun j hj => by rw [k2 6 j (fun _ => by omega)]; exact t6 j hj
        have hst1 : StM (μ1 1) (pl n L1.length) s := by rw [m1 1 (by decide)]; exact hst
        have h02 : μ1 0 2 = nI (rst (clo n c) (chi n c) L1).length := by rw [m1 0 (by decide)]; exact t2
        have r7 : RawL (μ1 7) 0 (rst (clo n c) (chi n c) L1) := by rw [m1 7 (by decide)]; exact t3
        have x1 : μ1 1 = μ0 1 := by rw [m1 1 (by decide)]; exact t1
        rw [e3]
        -- the end of a round
        have fin : ∀ μ2, TkX n (clo n c) (chi n c) (L1 ++ [s]) μ0 μ2 → ∀ v, v = nI L1.length + 1 → bkX6_takes_33 Q f (nI n) (nI (clo n c)) (nI (chi n c)) (nI (gon (clo n c) (chi n c) (L1 ++ [s])).length) v μ2 := fun μ2 hT2 v hv => by
          rw [hv, hl1]
          exact lq_takes hn hc hl hw hok hcap hQ L2 (L1 ++ [s]) f μ2 hb2 (by rw [List.length_cons] at hf; omega) hT2
        have h163 : ∀ (μ2 : Mem) (z : Nat) (u : List Stn), (if sF s < clo n c then [prt 0 (clo n c - 1) s] else []) = u → z = (rst (clo n c) (chi n c) L1).length + u.length → μ2 1 = μ0 1 → μ2 0 2 = nI z → RawL (μ2 7) 0 (rst (clo n c) (chi n c) L1 ++ u) → RawL (μ2 6) (lvl n) (gon (clo n c) (chi n c) (L1 ++ [s])) → (∀ k j, k ≠ 6 → k ≠ 7 → (k = 0 → j ≠ 2) → μ2 k j = μ0 k j) → (∀ j, (j < lvl n ∨ lvl n + 96 ≤ j) → μ2 6 j = μ0 6 j) → bkX6_takes_163 Q (bkX6_takes_33 Q f) (nI n) (nI (clo n c)) (nI (chi n c)) (nI (gon (clo n c) (chi n c) (L1 ++ [s])).length) (nI L1.length) (nI (pl n L1.length)) (nI (sL s)) μ2 := fun μ2 z u hu hz y1 y2 y7 y6 p5 p6 => by
          have hul : u.length ≤ 1 := by
            rw [← hu]
            split
            · exact Nat.le_refl 1
            · exact Nat.zero_le 1
          unfold bkX6_takes_163
          rw [nI_leI (by omega) (by omega)]
          refine ⟨fun c2 => fin μ2 ⟨y1, ?_, ?_, y6, p5, p6⟩, fun c2 => ?_⟩
          · have e4 : lft (clo n c) (chi n c) s = u := by
              unfold lft
              rw [hu, if_neg (by omega), List.append_nil]
            rw [y2, hlr, e4, hz]
          · have e4 : lft (clo n c) (chi n c) s = u := by
              unfold lft
              rw [hu, if_neg (by omega), List.append_nil]
            rw [e1, e4]
            exact y7
          · have e4 : lft (clo n c) (chi n c) s = u ++ [prt (chi n c + 1) 26 s] := by
              unfold lft
              rw [hu, if_pos (by omega)]
            have f1 : sF (prt (chi n c + 1) 26 s) = chi n c + 1 := by show max (sF s) (chi n c + 1) = _; omega
            have f2 : sL (prt (chi n c + 1) 26 s) = sL s := by show min (sL s) 26 = _; omega
            rw [li 1, nI_add, ← f1]
            have hst2 : StM (μ2 1) (pl n L1.length) s := by rw [y1, ← t1]; exact hst
            have hll2 : (lft (clo n c) (chi n c) s).length = u.length + 1 := by rw [e4, List.length_append]; rfl
            have h := q_leaves (p := pl n L1.length) (z := z) (s := s) (t := prt (chi n c + 1) 26 s) (μ := μ2) (by omega) (by omega) y2 hst2 rfl rfl (Q := fun μ3 => ∀ v, v = nI L1.length + nI 1 → bkX6_takes_33 Q f (nI n) (nI (clo n c)) (nI (chi n c)) (nI (gon (clo n c) (chi n c) (L1 ++ [s])).length) v μ3) (fun μ3 a1 a2 a3 a4 => fin μ3 ⟨?_, ?_, ?_, ?_, ?_, ?_⟩)
            · rw [f2] at h
              exact h
            · funext j
              rw [a4 1 j (by decide) (fun q => absurd q (by decide)), y1]
            · rw [a2, hlr, hll2, hz]
              rfl
            · rw [e1, e4, ← List.append_assoc]
              refine RawL_snoc (RawL_congr (fun j _ hj => a3 j ?_) y7) ?_
              · rw [List.length_append] at hj
                omega
              · rw [List.length_append, ← hz, Nat.zero_add]
                exact a1
            · refine RawL_congr (fun j _ _ => a4 6 j (by decide) (fun q => absurd q (by decide))) y6
            · intro k j q1 q2 q3
              rw [a4 k j q2 q3]
              exact p5 k j q1 q2 q3
            · intro j hj
              rw [a4 6 j (by decide) (fun q => absurd q (by decide))]
              exact p6 j hj
        rw [nI_leI (a := clo n c) (b := sF s) (by omega) (by omega)]
        refine ⟨fun c1 => h163 μ1 _ [] (by rw [if_neg (by omega)]) (by rfl) x1 h02 (by rw [List.append_nil]; exact r7) g6 o5 o6, fun c1 => ?_⟩
        have f1 : sF (prt 0 (clo n c - 1) s) = sF s := by show max (sF s) 0 = _; omega
        have f2 : sL (prt 0 (clo n c - 1) s) = clo n c - 1 := by show min (sL s) (clo n c - 1) = _; omega
        rw [li 1, nI_sub (by omega), ← f2]
        have h := q_leaves (p := pl n L1.length) (s := s) (t := prt 0 (clo n c - 1) s) (μ := μ1) (by omega) (show (rst (clo n c) (chi n c) L1).length < 24 by omega) h02 hst1 rfl rfl (Q := fun μ2 => bkX6_takes_163 Q (bkX6_takes_33 Q f) (nI n) (nI (clo n c)) (nI (chi n c)) (nI (gon (clo n c) (chi n c) (L1 ++ [s])).length) (nI L1.length) (nI (pl n L1.length)) (nI (sL s)) μ2) (fun μ2 a1 a2 a3 a4 => h163 μ2 _ [prt 0 (clo n c - 1) s] (by rw [if_pos (by omega)]) (by rfl) ?_ a2 ?_ ?_ ?_ ?_)
        · rw [f1] at h
          exact h
        · funext j
          rw [a4 1 j (by decide) (fun q => absurd q (by decide)), x1]
        · refine RawL_snoc (RawL_congr (fun j _ hj => a3 j (by omega)) r7) ?_
          rw [Nat.zero_add]
          exact a1
        · exact RawL_congr (fun j _ _ => a4 6 j (by decide) (fun q => absurd q (by decide))) g6
        · intro k j q1 q2 q3
          rw [a4 k j q2 q3]
          exact o5 k j q1 q2 q3
        · intro j hj
          rw [a4 6 j (by decide) (fun q => absurd q (by decide))]
          exact o6 j hj
      have k117 : bkX6_takes_117 Q (bkX6_takes_33 Q f) (nI n) (nI (clo n c)) (nI (chi n c)) (nI (gon (clo n c) (chi n c) L1).length) (nI L1.length) (nI (pl n L1.length)) (nI (sF s)) (nI (sL s)) (nI (sF (prt (clo n c) (chi n c) s))) (nI (pl n L1.length)) μ := by
        unfold bkX6_takes_117
        rw [nI_leI (a := sL s) (b := chi n c) (by omega) (by omega)]
        refine ⟨fun c2 => ?_, fun c2 => ?_⟩
        · have e : sL (prt (clo n c) (chi n c) s) = sL s := by show min (sL s) (chi n c) = _; omega
          rw [e] at key
          exact key
        · have e : sL (prt (clo n c) (chi n c) s) = chi n c := by show min (sL s) (chi n c) = _; omega
          rw [e] at key
          exact key
      refine ⟨fun _ => ?_, fun q => absurd q (by decide)⟩
      rw [nI_leI (a := clo n c) (b := sF s) (by omega) (by omega)]
      refine ⟨fun c1 => ?_, fun c1 => ?_⟩
      · have e : sF (prt (clo n c) (chi n c) s) = sF s := by show max (sF s) (clo n c) = _; omega
        rw [e] at k117
        exact k117
      · have e : sF (prt (clo n c) (chi n c) s) = clo n c := by show max (sF s) (clo n c) = _; omega
        rw [e] at k117
        exact k117
    · rw [if_neg ht]
      refine ⟨fun q => absurd rfl q, fun _ => ?_⟩
      refine q_leaves (z := (rst (clo n c) (chi n c) L1).length) (s := s) (t := s) (by omega) (by omega) hT.2.1 hst rfl rfl (fun μ1 a1 a2 a3 a4 => ?_)
      rintro _ rfl
      have hT2 := TkX_stay (by omega) ht hT a1 a2 a3 a4
      have e2 := gon_snoc (clo n c) (chi n c) L1 s
      rw [if_neg ht, List.append_nil] at e2
      show bkX6_takes_33 Q f _ _ _ _ (nI L1.length + 1) μ1
      rw [hl1, ← e2]
      exact lq_takes hn hc hl hw hok hcap hQ L2 (L1 ++ [s]) f μ1 hb2 (by rw [List.length_cons] at hf; omega) hT2
theorem q_takes {n c : Nat} (hn : n < 13) (hc : c < 3) {μ : Mem} {w : WT} (hl : lenW w) (hw : RowW (μ 1) w) (hok : bOk (w.1 n).1) (hcap : ∀ L1 L2, (w.1 n).1 = L1 ++ L2 → (rst (clo n c) (chi n c) L1).length + L2.length ≤ 22) {Q : Int32 → Mem → Prop}
    (hQ : ∀ μ', RowW (μ' 1) (setN n (takeN n c (w.1 n)) w) → RawL (μ' 6) (lvl n) (gon (clo n c) (chi n c) (w.1 n).1) → frT n μ μ' → Q (nI (gon (clo n c) (chi n c) (w.1 n).1).length) μ') : wpX6_takes (nI n) (nI c) μ Q := by
  have hlo := clo_le n hn c (by omega)
  have hhi := chi_lt n hn c hc
  unfold wpX6_takes
  refine q_firstOf hn (q_part hn ?_)
  rintro _ rfl
  refine q_part hn ?_
  rintro _ rfl
  rintro μ1 e1
  have e : nI (fk n) + nI (kc n) * nI c = nI (clo n c) := by rw [nI_mul, nI_add]; rfl
  have e' : nI (clo n c) + nI (kc n) - 1 = nI (chi n c) := by
    have := kc_pos n
    rw [nI_add, li 1, nI_sub (by omega)]
    rfl
  rw [e, e']
  refine ⟨_, lq_takes (μ0 := μ) hn hc hl hw hok hcap hQ (w.1 n).1 [] _ μ1 rfl (Nat.lt_succ_self _) ⟨?_, ?_, RawL_nil _ _, RawL_nil _ _, fun k j q1 q2 q3 => ?_, fun j _ => ?_⟩⟩
  · rw [e1, ms_cell _ _ _ (by decide)]
  · rw [e1, ms_same]
    rfl
  · rw [e1, ms_at, if_neg (fun q => q3 q.1 q.2)]
  · rw [e1, ms_cell _ _ _ (by decide)]
