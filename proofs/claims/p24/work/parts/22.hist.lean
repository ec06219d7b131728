/-! more of the class's Tree: copying, sums; its history -/
theorem r_keysPresent {μ : Mem} {w : WT} (hw : WOk w) (hR : RepW μ w) {Q : Int32 → Mem → Prop} (hQ : Q (sumN (fun k => if rdK w k = none then 0 else 1) 27) μ) : wpX4_keysPresent μ Q := by
  have go : ∀ (m i f : Nat), i + m = 27 → m < f → bkX4_keysPresent_4 Q f (sumN (fun k => if rdK w k = none then 0 else 1) i) (nI i) μ := by
    intro m
    induction m with
    | zero =>
      intro i f hi hf
      cases f with
      | zero => omega
      | succ f =>
        unfold bkX4_keysPresent_4
        have e : i = 27 := by omega
        subst e
        exact ⟨fun _ => hQ, fun c => absurd (nI_le (Nat.le_refl 27) (by decide)) c⟩
    | succ m ih =>
      intro i f hi hf
      cases f with
      | zero => omega
      | succ f =>
        have hi27 : i < 27 := by omega
        unfold bkX4_keysPresent_4
        refine ⟨fun c => absurd c (nI_ge hi27 (by decide)), fun _ => r_asRead hi27 hw hR ⟨fun c => ?_, fun c => ?_⟩⟩
        · rintro _ rfl
          have h := ih (i + 1) f (by omega) (by omega)
          unfold sumN at h
          rw [if_pos ((encV_m6 (rdK_ok hw hi27)).mp c), Int32.add_zero] at h
          rw [nI_1]
          exact h
        · rintro _ rfl _ rfl
          have h := ih (i + 1) f (by omega) (by omega)
          unfold sumN at h
          rw [if_neg (fun q => c ((encV_m6 (rdK_ok hw hi27)).mpr q))] at h
          rw [nI_1]
          exact h
  unfold wpX4_keysPresent
  exact ⟨28, go 27 0 28 (by decide) (by decide)⟩
/-- the sum of the values read of keys a to a + m - 1 -/
def sumV (w : WT) (a : Nat) : Nat → Int32
  | 0 => 0
  | m + 1 => sumV w a m + (match rdK w (a + m) with
    | none => 0
    | some x => nI x)
theorem r_sumAsRead {a b : Nat} (hab : a ≤ b) (hb : b < 27) {μ : Mem} {w : WT} (hw : WOk w) (hR : RepW μ w) {Q : Int32 → Mem → Prop} (hQ : Q (sumV w a (b + 1 - a)) μ) : wpX4_sumAsRead (nI a) (nI b) μ Q := by
  have go : ∀ (m i f : Nat), i + m = b + 1 - a → m < f → bkX4_sumAsRead_5 Q f (nI b) (sumV w a i) (nI (a + i)) μ := by
    intro m
    induction m with
    | zero =>
      intro i f hi hf
      cases f with
      | zero => omega
      | succ f =>
        unfold bkX4_sumAsRead_5
        refine ⟨fun _ => ?_, fun c => absurd (nI_lt (by omega) (by omega)) c⟩
        rw [show i = b + 1 - a by omega]
        exact hQ
    | succ m ih =>
      intro i f hi hf
      cases f with
      | zero => omega
      | succ f =>
        have hk : a + i < 27 := by omega
        unfold bkX4_sumAsRead_5
        refine ⟨fun c => absurd c (nI_nlt (by omega) (by omega)), fun _ => r_asRead hk hw hR ⟨fun c => ?_, fun c => ?_⟩⟩
        · rintro _ rfl
          have h := ih (i + 1) f (by omega) (by omega)
          unfold sumV at h
          rw [(encV_m6 (rdK_ok hw hk)).mp c] at h
          simp only [Int32.add_zero] at h
          rw [nI_1]
          exact h
        · rintro _ rfl _ rfl
          have h := ih (i + 1) f (by omega) (by omega)
          unfold sumV at h
          cases hr : rdK w (a + i) with
          | none => exact absurd ((encV_m6 (rdK_ok hw hk)).mpr hr) c
          | some x =>
            rw [hr] at h
            rw [nI_1]
            exact h
  unfold wpX4_sumAsRead
  exact ⟨b + 1 - a + 1, go (b + 1 - a) 0 _ (by omega) (by omega)⟩
theorem r_noteRead {t : TS} {μ : Mem} (hR : RepT μ t) {Q : Mem → Prop} (hQ : ∀ μ', RepT μ' (t.1, t.2.1, t.2.2.1, t.2.2.2.1 + 3, t.2.2.2.2) → Q μ') : wpX4_noteRead μ Q := by
  obtain ⟨h1, h2, h3, h4, h5⟩ := hR
  unfold wpX4_noteRead
  rintro _ rfl
  refine hQ _ ⟨?_, ?_, ?_, ?_, RepW_sent (Or.inr rfl) h5⟩
  · rw [ms_cell _ _ _ (by decide)]; exact h1
  · rw [ms_cell _ _ _ (by decide)]; exact h2
  · rw [ms_place _ _ _ (by decide)]; exact h3
  · rw [ms_same, h4]
theorem gl_mp {a b : Nat} (hab : a ≠ b) (μ : Mem) (f : Nat → Int32) : glue (e2 1 a b) 2 μ (mput (fun k => μ (e2 1 a b k)) 1 f) = mput μ b f := by
  funext k
  have h := glue_e2 (n := 1) (n2 := 1) (b1 := a) (b2 := b) (by omega) μ (mput (fun k => μ (e2 1 a b k)) 1 f) k
  rw [show (1 + 1 : Nat) = 2 from rfl] at h
  rw [h]
  by_cases h1 : a ≤ k ∧ k < a + 1
  · have e : k = a := by omega
    subst e
    rw [if_pos h1, Nat.sub_self, mp_cell _ _ (by decide), mp_cell _ _ hab]
    rfl
  · rw [if_neg h1]
    by_cases h2 : b ≤ k ∧ k < b + 1
    · have e : k = b := by omega
      subst e
      rw [if_pos h2, Nat.sub_self, mp_same, mp_same]
    · rw [if_neg h2, mp_cell _ _ (by omega)]
theorem r_copyRow {a b n : Nat} (hab : a ≠ b) (hn : n < 2 ^ 31) {μ : Mem} {Q : Mem → Prop} (hQ : Q (mput μ b (va_cpy (μ a) (μ b) 0 0 n))) : wpX4_copyRow n n (fun k => μ (e2 1 a b k)) (fun μ2 => ∀ μ3 : Mem, μ3 = glue (e2 1 a b) 2 μ μ2 → Q μ3) := by
  unfold wpX4_copyRow
  rw [ite_self]
  have hc : (Int32.ofNat n).toNatClampNeg = n := nI_clamp hn
  refine ⟨by decide, by decide, nI_pos hn, ?_, ?_, ?_⟩
  · rw [hc]; exact Nat.le_of_eq (Nat.zero_add n)
  · rw [hc]; exact Nat.le_of_eq (Nat.zero_add n)
  · rintro _ rfl _ rfl
    rw [hc, gl_mp hab]
    exact hQ
theorem cpy_lt {f g : Nat → Int32} {n j : Nat} (h : j < n) : va_cpy f g 0 0 n j = f j := by
  unfold va_cpy
  rw [if_pos (by omega)]
  congr 1
  omega
/-- a tree is copied from another -/
theorem r_copyFrom {t : TS} (hl : lenW t.2.2.2.2) {μ : Mem} (hR : RepT (fun k => μ (8 + k)) t) {Q : Mem → Prop} (hQ : ∀ μ', RepT μ' t → (∀ k, 8 ≤ k → μ' k = μ k) → Q μ') : wpX4_copyFrom μ Q := by
  unfold wpX4_copyFrom
  refine r_copyRow (by decide) (by decide) (r_copyRow (by decide) (by decide) (r_copyRow (by decide) (by decide) (r_copyRow (by decide) (by decide) (r_copyRow (by decide) (by decide) (r_copyRow (by decide) (by decide) (r_copyRow (by decide) (by decide) ?_))))))
  rintro _ rfl _ rfl _ rfl
  obtain ⟨h1, h2, h3, h4, h5, h6, h7⟩ := hR
  have q0 : ∀ {μ : Mem} {a b : Nat} {f : Nat → Int32}, b ≠ a → mput μ a f b = μ b := fun h => mp_cell _ _ h
  refine hQ _ ⟨?_, ?_, ?_, ?_, fun n hn => ⟨⟨?_, fun i s hi => ?_⟩, ?_, ?_, ?_⟩, fun k hk => ?_, ?_⟩ (fun k hk => ?_)
  · rw [ms_cell _ _ _ (by decide), ms_cell _ _ _ (by decide), ms_cell _ _ _ (by decide), q0 (by decide), q0 (by decide), q0 (by decide), q0 (by decide), q0 (by decide), q0 (by decide), mp_same, cpy_lt (by decide)]
    exact h1
  · rw [ms_cell _ _ _ (by decide), ms_cell _ _ _ (by decide), ms_cell _ _ _ (by decide), q0 (by decide), q0 (by decide), q0 (by decide), q0 (by decide), q0 (by decide), q0 (by decide), mp_same, cpy_lt (by decide)]
    exact h2
  · rw [ms_place _ _ _ (by decide), ms_place _ _ _ (by decide), ms_same, q0 (by decide), q0 (by decide), q0 (by decide), q0 (by decide), q0 (by decide), q0 (by decide), q0 (by decide)]
    exact h3
  · rw [ms_same, ms_cell _ _ _ (by decide), ms_cell _ _ _ (by decide), q0 (by decide), q0 (by decide), q0 (by decide), q0 (by decide), q0 (by decide), q0 (by decide), q0 (by decide)]
    exact h4
  · rw [ms_cell _ _ _ (by decide), ms_cell _ _ _ (by decide), ms_cell _ _ _ (by decide), q0 (by decide), q0 (by decide), q0 (by decide), q0 (by decide), mp_same, cpy_lt hn, q0 (by decide), q0 (by decide)]
    exact (h5 n hn).1.1
  · have := getE_lt hi
    have := hl n hn
    rw [ms_cell _ _ _ (by decide), ms_cell _ _ _ (by decide), ms_cell _ _ _ (by decide), q0 (by decide), q0 (by decide), q0 (by decide), mp_same, cpy_lt (by omega), q0 (by decide), q0 (by decide), q0 (by decide)]
    exact (h5 n hn).1.2 i s hi
  · rw [ms_cell _ _ _ (by decide), ms_cell _ _ _ (by decide), ms_cell _ _ _ (by decide), q0 (by decide), q0 (by decide), mp_same, cpy_lt hn, q0 (by decide), q0 (by decide), q0 (by decide), q0 (by decide)]
    exact (h5 n hn).2.1
  · rw [ms_cell _ _ _ (by decide), ms_cell _ _ _ (by decide), ms_cell _ _ _ (by decide), q0 (by decide), mp_same, cpy_lt hn, q0 (by decide), q0 (by decide), q0 (by decide), q0 (by decide), q0 (by decide)]
    exact (h5 n hn).2.2.1
  · rw [ms_cell _ _ _ (by decide), ms_cell _ _ _ (by decide), ms_cell _ _ _ (by decide), mp_same, cpy_lt hn, q0 (by decide), q0 (by decide), q0 (by decide), q0 (by decide), q0 (by decide), q0 (by decide)]
    exact (h5 n hn).2.2.2
  · rw [ms_cell _ _ _ (by decide), ms_cell _ _ _ (by decide), ms_cell _ _ _ (by decide), q0 (by decide), q0 (by decide), q0 (by decide), q0 (by decide), q0 (by decide), mp_same, cpy_lt hk, q0 (by decide)]
    exact h6 k hk
  · rw [ms_place _ _ _ (by decide), ms_same, ms_cell _ _ _ (by decide), q0 (by decide), q0 (by decide), q0 (by decide), q0 (by decide), q0 (by decide), q0 (by decide), q0 (by decide)]
    exact h7
  · rw [ms_cell _ _ _ (by omega), ms_cell _ _ _ (by omega), ms_cell _ _ _ (by omega), q0 (by omega), q0 (by omega), q0 (by omega), q0 (by omega), q0 (by omega), q0 (by omega), q0 (by omega)]
/-- what is said of a tree is said of its own eight cells -/
theorem RepT_congr {τ τ' : Mem} {t : TS} (h : ∀ k, k < 8 → τ' k = τ k) (hR : RepT τ t) : RepT τ' t := by
  obtain ⟨h1, h2, h3, h4, h5, h6, h7⟩ := hR
  refine ⟨?_, ?_, ?_, ?_, fun n hn => ?_, fun k hk => ?_, ?_⟩
  · rw [h 1 (by decide)]; exact h1
  · rw [h 1 (by decide)]; exact h2
  · rw [h 0 (by decide)]; exact h3
  · rw [h 0 (by decide)]; exact h4
  · obtain ⟨⟨g1, g2⟩, g3, g4, g5⟩ := h5 n hn
    refine ⟨⟨?_, fun i s hi => ?_⟩, ?_, ?_, ?_⟩
    · rw [h 3 (by decide)]; exact g1
    · rw [h 4 (by decide)]; exact g2 i s hi
    · rw [h 5 (by decide)]; exact g3
    · rw [h 6 (by decide)]; exact g4
    · rw [h 7 (by decide)]; exact g5
  · rw [h 2 (by decide)]; exact h6 k hk
  · rw [h 0 (by decide)]; exact h7
/-! the history: the latest state first -/
def RepH (h : Mem) (hs : List TS) : Prop := hs.length ≤ 6 ∧ ∃ nx, nx < 6 ∧ h 0 0 = nI nx ∧ h 0 1 = nI hs.length ∧ ∀ j t, hs[j]? = some t → RepT (fun k => h (2 + 8 * ((nx + 5 - j) % 6) + k)) t
theorem r_record {hs : List TS} {t : TS} (hl : lenW t.2.2.2.2) {μ : Mem} (hH : RepH μ hs) (hR : RepT (fun k => μ (50 + k)) t) {Q : Mem → Prop} (hQ : ∀ μ', RepH μ' ((t :: hs).take 6) → (∀ k, 50 ≤ k → μ' k = μ k) → Q μ') : wpX0_record μ Q := by
  obtain ⟨h6, nx, hnx, g1, g2, g3⟩ := hH
  unfold wpX0_record
  rw [g1]
  refine ⟨fun c => absurd c (nI_pos (by omega)), fun _ => ⟨fun c => absurd c (nI_ge hnx (by decide)), fun _ => ⟨vinI hnx (by decide), vinI hnx (by decide), ?_⟩⟩⟩
  rw [nI_clamp (by omega)]
  refine r_copyFrom (t := t) hl ?_ (fun τ hτ hk => ?_)
  · refine RepT_congr (fun k hk => ?_) hR
    show μ (e2 8 (2 + 8 * nx) 50 (8 + k)) = μ (50 + k)
    unfold e2
    rw [if_neg (by omega)]
    congr 1
    omega
  rintro _ rfl _ rfl _ rfl
  have G : ∀ k, glue (e2 8 (2 + 8 * nx) 50) 16 μ τ k = if 2 + 8 * nx ≤ k ∧ k < 2 + 8 * nx + 8 then τ (k - (2 + 8 * nx)) else μ k := fun k => by
    have h := glue_e2 (n := 8) (n2 := 8) (b1 := 2 + 8 * nx) (b2 := 50) (by omega) μ τ k
    rw [show (8 + 8 : Nat) = 16 from rfl] at h
    rw [h]
    by_cases h1 : 2 + 8 * nx ≤ k ∧ k < 2 + 8 * nx + 8
    · rw [if_pos h1, if_pos h1]
    · rw [if_neg h1, if_neg h1]
      by_cases h2 : 50 ≤ k ∧ k < 50 + 8
      · rw [if_pos h2, hk _ (by omega)]
        unfold e2
        rw [if_neg (by omega)]
        congr 1
        omega
      · rw [if_neg h2]
  have e0 : glue (e2 8 (2 + 8 * nx) 50) 16 μ τ 0 = μ 0 := by rw [G, if_neg (by omega)]
  have hcell : ∀ k, k ≠ 0 → ∀ v1 v2, mset (mset (glue (e2 8 (2 + 8 * nx) 50) 16 μ τ) 0 0 v1) 0 1 v2 k = glue (e2 8 (2 + 8 * nx) 50) 16 μ τ k := fun k hk0 v1 v2 => by rw [ms_cell _ _ _ hk0, ms_cell _ _ _ hk0]
  refine hQ _ ⟨by rw [List.length_take]; omega, (nx + 1) % 6, by omega, ?_, ?_, fun j t' hj => ?_⟩ (fun k hk50 => ?_)
  · rw [ms_place _ _ _ (by decide), ms_same, e0, g1, nI_1, li 6, nI_rem (by omega) (by decide)]
  · rw [ms_same, ms_place _ _ _ (by decide), e0, g2, nI_1, li 6, nI_min (a := hs.length + 1) (by omega) (by decide)]
    rw [List.length_take, List.length_cons, Nat.min_comm]
  · have hj6 : j < 6 := by
      have := getE_lt hj
      rw [List.length_take] at this
      omega
    rw [List.getElem?_take_of_lt hj6] at hj
    refine RepT_congr (τ := fun k => glue (e2 8 (2 + 8 * nx) 50) 16 μ τ (2 + 8 * (((nx + 1) % 6 + 5 - j) % 6) + k)) (fun k _ => hcell _ (by omega) _ _) ?_
    cases j with
    | zero =>
      rw [List.getElem?_cons_zero] at hj
      cases hj
      refine RepT_congr (fun k hk8 => ?_) hτ
      have e : ((nx + 1) % 6 + 5 - 0) % 6 = nx := by omega
      show glue _ _ _ _ (2 + 8 * (((nx + 1) % 6 + 5 - 0) % 6) + k) = τ k
      rw [e, G, if_pos (by omega)]
      congr 1
      omega
    | succ j =>
      rw [List.getElem?_cons_succ] at hj
      refine RepT_congr (fun k hk8 => ?_) (g3 j t' hj)
      have e : ((nx + 1) % 6 + 5 - (j + 1)) % 6 = (nx + 5 - j) % 6 := by omega
      have ne : (nx + 5 - j) % 6 ≠ nx := by omega
      show glue _ _ _ _ (2 + 8 * (((nx + 1) % 6 + 5 - (j + 1)) % 6) + k) = μ (2 + 8 * ((nx + 5 - j) % 6) + k)
      rw [e, G, if_neg (by omega)]
  · rw [hcell _ (by omega), G, if_neg (by omega)]
