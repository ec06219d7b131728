/-! the class's Tree: rows and buffers -/
theorem gl_ms (b : Nat) (μ : Mem) (i : Nat) (v : Int32) : glue (e1 b) 1 μ (mset (fun k => μ (e1 b k)) 0 i v) = mset μ b i v := by
  funext k j
  rw [glue_e1]
  by_cases h : b ≤ k ∧ k < b + 1
  · have e : k = b := by omega
    subst e
    rw [if_pos h, Nat.sub_self, ms_at, ms_at]
    simp [e1]
  · rw [if_neg h, ms_at, if_neg (by omega)]
theorem gl_id (b n : Nat) (μ : Mem) : glue (e1 b) n μ (fun k => μ (e1 b k)) = μ := by
  funext k
  rw [glue_e1]
  by_cases h : b ≤ k ∧ k < b + n
  · rw [if_pos h]
    show μ (b + (k - b)) = μ k
    congr 1
    omega
  · rw [if_neg h]
theorem r_addTo {b n m : Nat} {v : Int32} {μ : Mem} {Q : Mem → Prop} (h : n < m) (hm : m < 2 ^ 31) (hQ : Q (mset μ b n (μ b n + v))) : wpX4_addTo m (nI n) v (fun k => μ (e1 b k)) (fun μ5 => ∀ μ6 : Mem, μ6 = glue (e1 b) 1 μ μ5 → Q μ6) := by
  unfold wpX4_addTo
  refine ⟨fun c => absurd c (nI_pos (by omega)), fun _ => ⟨fun c => absurd c (nI_ge h hm), fun _ => ⟨vinI h hm, vinI h hm, ?_⟩⟩⟩
  rintro _ rfl _ rfl
  rw [nI_clamp (by omega), gl_ms]
  exact hQ
theorem r_numberOf {b n m : Nat} {μ : Mem} {Q : Int32 → Mem → Prop} (h : n < m) (hm : m < 2 ^ 31) (hQ : Q (μ b n) μ) : wpX4_numberOf m (nI n) (fun k => μ (e1 b k)) (fun r μ5 => ∀ μ6 : Mem, μ6 = glue (e1 b) 1 μ μ5 → Q r μ6) := by
  unfold wpX4_numberOf
  refine ⟨fun c => absurd c (nI_pos (by omega)), fun _ => ⟨fun c => absurd c (nI_ge h hm), fun _ => ⟨vinI h hm, ?_⟩⟩⟩
  rintro _ rfl
  rw [nI_clamp (by omega), gl_id]
  exact hQ
theorem l_total {m : Nat} (hm : m < 2 ^ 31) {μ : Mem} {Q : Int32 → Mem → Prop} : ∀ (j i : Nat) (f : Nat), i + j = m → j < f → Q (sumN (μ 0) m) μ → bkX4_total_10 m Q f (sumN (μ 0) i) (nI m) (nI i) μ
  | 0, i, 0, _, hf, _ => absurd hf (Nat.lt_irrefl 0)
  | 0, i, f + 1, hi, _, hQ => by
    unfold bkX4_total_10
    refine ⟨fun _ => ?_, fun c => absurd (nI_le (by omega) (by omega)) c⟩
    have e : i = m := by omega
    rw [e]
    exact hQ
  | j + 1, i, 0, _, hf, _ => absurd hf (Nat.not_lt_zero _)
  | j + 1, i, f + 1, hi, hf, hQ => by
    unfold bkX4_total_10
    refine ⟨fun c => absurd c (nI_ge (by omega) hm), fun _ => ⟨vinI (by omega) hm, ?_⟩⟩
    rintro _ rfl _ rfl _ rfl
    rw [nI_clamp (by omega), nI_1]
    exact l_total hm j (i + 1) f (by omega) (by omega) hQ
theorem r_total {b m : Nat} {μ : Mem} {Q : Int32 → Mem → Prop} (hm : m < 2 ^ 31) (hQ : Q (sumN (μ b) m) μ) : wpX4_total m (fun k => μ (e1 b k)) (fun r μ5 => ∀ μ6 : Mem, μ6 = glue (e1 b) 1 μ μ5 → Q r μ6) := by
  unfold wpX4_total
  rintro _ rfl
  refine ⟨m + 1, l_total (μ := fun k => μ (e1 b k)) hm m 0 (m + 1) (by omega) (by omega) ?_⟩
  rintro _ rfl
  rw [gl_id]
  exact hQ
theorem r_setting {i : Nat} {μ : Mem} {Q : Int32 → Mem → Prop} (h : i < 2) (hQ : Q (μ 1 i) μ) : wpX4_setting (nI i) μ Q := by
  unfold wpX4_setting
  refine ⟨fun c => absurd c (nI_pos (by omega)), fun _ => ⟨fun c => absurd c (nI_ge h (by decide)), fun _ => ⟨vinI h (by decide), ?_⟩⟩⟩
  rw [nI_clamp (by omega)]
  exact hQ
theorem r_changeSetting {i : Nat} {v : Int32} {μ : Mem} {Q : Int32 → Mem → Prop} (h : i < 2) (hQ : Q (μ 1 i) (mset μ 1 i v)) : wpX4_changeSetting (nI i) v μ Q := by
  unfold wpX4_changeSetting
  refine r_setting h ⟨fun c => absurd c (nI_pos (by omega)), fun _ => ⟨fun c => absurd c (nI_ge h (by decide)), fun _ => ⟨vinI h (by decide), ?_⟩⟩⟩
  rintro _ rfl
  rw [nI_clamp (by omega)]
  exact hQ
theorem r_stonesIn {n : Nat} {μ : Mem} {Q : Int32 → Mem → Prop} (h : n < 13) (hQ : Q (μ 3 n) μ) : wpX4_stonesIn (nI n) μ Q := by
  unfold wpX4_stonesIn
  refine ⟨fun c => absurd c (nI_pos (by omega)), fun _ => ⟨fun c => absurd c (nI_ge h (by decide)), fun _ => ⟨vinI h (by decide), ?_⟩⟩⟩
  rw [nI_clamp (by omega)]
  exact hQ
theorem r_stoneAt {n i : Nat} {μ : Mem} {Q : Int32 → Mem → Prop} (h : n < 13) (hi : i < 22) (hQ : Q (μ 4 (n * 22 + i)) μ) : wpX4_stoneAt (nI n) (nI i) μ Q := by
  unfold wpX4_stoneAt
  refine ⟨fun c => absurd c (nI_pos (by omega)), fun _ => ⟨fun c => absurd c (nI_ge h (by decide)), fun _ => ⟨fun c => absurd c (nI_pos (by omega)), fun _ => ⟨fun c => absurd c (nI_ge hi (by decide)), fun _ => ?_⟩⟩⟩⟩
  unfold bkX4_stoneAt_25
  refine ⟨fun c => absurd c (by decide), fun _ => ?_⟩
  rw [li 22, nI_mul, nI_add, nI_clamp (by omega)]
  exact ⟨vinI (by omega) (by decide), hQ⟩
theorem r_layAt {n i : Nat} {v : Int32} {μ : Mem} {Q : Mem → Prop} (h : n < 13) (hi : i < 22) (hQ : Q (mset μ 4 (n * 22 + i) v)) : wpX4_layAt (nI n) (nI i) v μ Q := by
  unfold wpX4_layAt
  refine ⟨fun c => absurd c (nI_pos (by omega)), fun _ => ⟨fun c => absurd c (nI_ge h (by decide)), fun _ => ⟨fun c => absurd c (nI_pos (by omega)), fun _ => ⟨fun c => absurd c (nI_ge hi (by decide)), fun _ => ?_⟩⟩⟩⟩
  rw [li 22, nI_mul, nI_add, nI_clamp (by omega)]
  refine ⟨vinI (by omega) (by decide), ?_⟩
  rintro _ rfl
  exact hQ
/-- places a + 1 to b get what stood one place ahead -/
def shU (μ : Mem) (a b : Nat) : Mem := mput μ 4 (fun q => if a < q ∧ q ≤ b then μ 4 (q - 1) else μ 4 q)
/-- places a to b - 1 get what stood one place behind -/
def shD (μ : Mem) (a b : Nat) : Mem := mput μ 4 (fun q => if a ≤ q ∧ q < b then μ 4 (q + 1) else μ 4 q)
theorem shU_0 (μ : Mem) (a : Nat) : shU μ a a = μ := by
  funext k q
  unfold shU mput
  by_cases h : k = 4
  · subst h
    rw [if_pos rfl]
    rw [if_neg (by omega)]
  · rw [if_neg h]
theorem shU_s (μ : Mem) {a b : Nat} (h : a ≤ b) : shU (mset μ 4 (b + 1) (μ 4 b)) a b = shU μ a (b + 1) := by
  funext k q
  unfold shU mput
  by_cases hk : k = 4
  · subst hk
    rw [if_pos rfl, if_pos rfl]
    simp only [ms_at]
    by_cases h1 : a < q ∧ q ≤ b
    · rw [if_pos h1, if_neg (by omega), if_pos (by omega)]
    · rw [if_neg h1]
      by_cases h2 : q = b + 1
      · subst h2
        rw [if_pos ⟨trivial, rfl⟩, if_pos (by omega)]
        rfl
      · rw [if_neg (by omega), if_neg (by omega)]
  · rw [if_neg hk, if_neg hk, ms_cell _ _ _ hk]
theorem shD_0 (μ : Mem) (a : Nat) : shD μ a a = μ := by
  funext k q
  unfold shD mput
  by_cases h : k = 4
  · subst h
    rw [if_pos rfl]
    rw [if_neg (by omega)]
  · rw [if_neg h]
theorem shD_s (μ : Mem) {a b : Nat} (h : a < b) : shD (mset μ 4 a (μ 4 (a + 1))) (a + 1) b = shD μ a b := by
  funext k q
  unfold shD mput
  by_cases hk : k = 4
  · subst hk
    rw [if_pos rfl, if_pos rfl]
    simp only [ms_at]
    by_cases h1 : a + 1 ≤ q ∧ q < b
    · rw [if_pos h1, if_neg (by omega), if_pos (by omega)]
    · rw [if_neg h1]
      by_cases h2 : q = a
      · subst h2
        rw [if_pos ⟨trivial, rfl⟩, if_pos (by omega)]
      · rw [if_neg (by omega), if_neg (by omega)]
  · rw [if_neg hk, if_neg hk, ms_cell _ _ _ hk]
theorem l_putIn {n p : Nat} {v : Int32} (hn : n < 13) {Q : Mem → Prop} : ∀ (m f : Nat) (μ : Mem), p + m < 22 → m < f → Q (mset (mset (shU μ (n * 22 + p) (n * 22 + (p + m))) 4 (n * 22 + p) v) 3 n (μ 3 n + 1)) → bkX4_putIn_19 Q f (nI n) (nI p) v (nI (p + m)) μ
  | 0, 0, _, _, hf, _ => absurd hf (Nat.lt_irrefl 0)
  | 0, f + 1, μ, hm, _, hQ => by
    unfold bkX4_putIn_19
    refine ⟨fun _ => r_layAt hn (by omega) (r_addTo hn (by decide) ?_), fun c => absurd (nI_le (Nat.le_refl p) (by omega)) c⟩
    rw [Nat.add_zero, shU_0] at hQ
    rw [ms_cell _ _ _ (by decide)]
    exact hQ
  | m + 1, 0, _, _, hf, _ => absurd hf (Nat.not_lt_zero _)
  | m + 1, f + 1, μ, hm, hf, hQ => by
    unfold bkX4_putIn_19
    refine ⟨fun c => absurd c (nI_ge (by omega) (by omega)), fun _ => ?_⟩
    rw [li 1, nI_sub (by omega)]
    refine r_stoneAt hn (by omega) (r_layAt hn (by omega) ?_)
    rintro _ rfl
    have e : nI (p + (m + 1)) + (-nI 1) = nI (p + m) := by
      show nI (p + m + 1) + (-nI 1) = nI (p + m)
      rw [← Int32.sub_eq_add_neg, nI_sub (by omega)]
      rfl
    rw [e]
    refine l_putIn hn m f _ (by omega) (by omega) ?_
    have e2 : n * 22 + (p + (m + 1)) = n * 22 + (p + m) + 1 := by omega
    have e3 : n * 22 + (p + (m + 1) - 1) = n * 22 + (p + m) := by omega
    rw [e2, e3, shU_s μ (by omega), ms_cell _ _ _ (by decide)]
    rw [e2] at hQ
    exact hQ
theorem r_putIn {n p z : Nat} {v : Int32} (hn : n < 13) {μ : Mem} {Q : Mem → Prop} (hz : μ 3 n = nI z) (hp : p ≤ z) (hz2 : z < 22) (hQ : Q (mset (mset (shU μ (n * 22 + p) (n * 22 + z)) 4 (n * 22 + p) v) 3 n (μ 3 n + 1))) : wpX4_putIn (nI n) (nI p) v μ Q := by
  unfold wpX4_putIn
  refine r_stonesIn hn ⟨fun _ => ⟨z - p + 1, ?_⟩, fun c => ?_⟩
  · have h := l_putIn (n := n) (p := p) (v := v) hn (Q := Q) (z - p) (z - p + 1) μ (by omega) (by omega)
    rw [show p + (z - p) = z by omega] at h
    rw [hz]
    exact h hQ
  · rw [hz] at c
    exact absurd (nI_lt hz2 (by decide)) c
theorem l_takeOut {n z : Nat} (hn : n < 13) (hz : z ≤ 22) {Q : Mem → Prop} : ∀ (m j f : Nat) (μ : Mem), j + 1 + m = z → m < f → Q (mset (shD μ (n * 22 + j) (n * 22 + (j + m))) 3 n (μ 3 n - 1)) → bkX4_takeOut_11 Q f (nI n) (nI z) (nI (j + 1)) μ
  | 0, _, 0, _, _, hf, _ => absurd hf (Nat.lt_irrefl 0)
  | 0, j, f + 1, μ, hm, _, hQ => by
    unfold bkX4_takeOut_11
    refine ⟨fun _ => r_addTo hn (by decide) ?_, fun c => absurd (nI_le (by omega) (by omega)) c⟩
    rw [Nat.add_zero, shD_0] at hQ
    rw [← Int32.sub_eq_add_neg]
    exact hQ
  | m + 1, _, 0, _, _, hf, _ => absurd hf (Nat.not_lt_zero _)
  | m + 1, j, f + 1, μ, hm, hf, hQ => by
    unfold bkX4_takeOut_11
    refine ⟨fun c => absurd c (nI_ge (by omega) (by omega)), fun _ => ?_⟩
    rw [li 1, nI_sub (by omega)]
    refine r_stoneAt hn (by omega) (r_layAt hn (by omega) ?_)
    rintro _ rfl
    show bkX4_takeOut_11 Q f (nI n) (nI z) (nI (j + 1) + nI 1) _
    rw [nI_add]
    refine l_takeOut hn hz m (j + 1) f _ (by omega) (by omega) ?_
    have e2 : n * 22 + (j + 1 - 1) = n * 22 + j := by omega
    have e3 : n * 22 + (j + 1) = n * 22 + j + 1 := by omega
    have e4 : n * 22 + (j + 1 + m) = n * 22 + (j + (m + 1)) := by omega
    rw [e2, e3, e4, shD_s μ (by omega), ms_cell _ _ _ (by decide)]
    exact hQ
theorem r_takeOut {n p z : Nat} (hn : n < 13) {μ : Mem} {Q : Mem → Prop} (hz : μ 3 n = nI z) (hp : p < z) (hz2 : z ≤ 22) (hQ : Q (mset (shD μ (n * 22 + p) (n * 22 + (z - 1))) 3 n (nI (z - 1)))) : wpX4_takeOut (nI n) (nI p) μ Q := by
  unfold wpX4_takeOut
  refine r_stonesIn hn ?_
  rintro _ rfl
  refine ⟨z - p, ?_⟩
  rw [hz, nI_1]
  refine l_takeOut hn hz2 (z - 1 - p) p (z - p) μ (by omega) (by omega) ?_
  rw [show n * 22 + (p + (z - 1 - p)) = n * 22 + (z - 1) by omega, hz, li 1, nI_sub (by omega)]
  exact hQ
