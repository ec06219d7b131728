/-! buffers as lists -/
def BufX (τ : Mem) (n : Nat) (b : List Stn) : Prop := τ 3 n = nI b.length ∧ ∀ i s, b[i]? = some s → τ 4 (n * 22 + i) = encX s
/-- they differ at most in node n's buffer -/
def offB (n : Nat) (τ τ' : Mem) : Prop := ∀ k j, (k = 3 ∧ j = n) ∨ (k = 4 ∧ n * 22 ≤ j ∧ j < n * 22 + 22) ∨ τ' k j = τ k j
theorem offB_refl (n : Nat) (τ : Mem) : offB n τ τ := fun _ _ => Or.inr (Or.inr rfl)
theorem offB_trans {n : Nat} {a b c : Mem} (h1 : offB n a b) (h2 : offB n b c) : offB n a c := fun k j => by
  rcases h1 k j with h | h | h
  · exact Or.inl h
  · exact Or.inr (Or.inl h)
  · rcases h2 k j with g | g | g
    · exact Or.inl g
    · exact Or.inr (Or.inl g)
    · exact Or.inr (Or.inr (g.trans h))
theorem ap_l {α : Type} {b1 b2 : List α} {i : Nat} (h : i < b1.length) : (b1 ++ b2)[i]? = b1[i]? := List.getElem?_append_left h
theorem ap_r {α : Type} {b1 b2 : List α} {i : Nat} (h : b1.length ≤ i) : (b1 ++ b2)[i]? = b2[i - b1.length]? := List.getElem?_append_right h
theorem getE_lt {α : Type} {b : List α} {i : Nat} {s : α} (h : b[i]? = some s) : i < b.length := (List.getElem?_eq_some_iff.mp h).1
theorem r_putInL {n : Nat} {b1 b2 : List Stn} {s : Stn} (hn : n < 13) {μ : Mem} {Q : Mem → Prop} (hB : BufX μ n (b1 ++ b2)) (hlen : (b1 ++ b2).length < 22) (hQ : ∀ μ', BufX μ' n (b1 ++ s :: b2) → offB n μ μ' → Q μ') : wpX4_putIn (nI n) (nI b1.length) (encX s) μ Q := by
  have hl : b1.length + b2.length < 22 := by rw [List.length_append] at hlen; exact hlen
  refine r_putIn hn hB.1 (by rw [List.length_append]; omega) hlen (hQ _ ⟨?_, fun i s' hi => ?_⟩ (fun k j => ?_))
  · rw [ms_same, hB.1, nI_1]
    congr 1
    simp only [List.length_append, List.length_cons]
    omega
  · have hi' := getE_lt hi
    simp only [List.length_append, List.length_cons] at hi'
    rw [ms_cell _ _ _ (by decide), ms_at]
    by_cases h1 : i < b1.length
    · rw [if_neg (by omega)]
      rw [ap_l h1] at hi
      have h2 := hB.2 i s' (by rw [ap_l h1]; exact hi)
      unfold shU mput
      rw [if_pos rfl]
      rw [if_neg (by omega)]
      exact h2
    · rw [ap_r (by omega)] at hi
      by_cases h3 : i = b1.length
      · subst h3
        rw [Nat.sub_self] at hi
        cases hi
        rw [if_pos ⟨rfl, rfl⟩]
      · rw [if_neg (by omega)]
        have e : i - b1.length = (i - 1 - b1.length) + 1 := by omega
        rw [e, List.getElem?_cons_succ] at hi
        have h2 := hB.2 (i - 1) s' (by rw [ap_r (by omega)]; exact hi)
        unfold shU mput
        rw [if_pos rfl]
        simp only [List.length_append]
        rw [if_pos (by omega)]
        rw [show n * 22 + i - 1 = n * 22 + (i - 1) by omega]
        exact h2
  · rw [ms_at, ms_at]
    by_cases h1 : k = 3 ∧ j = n
    · exact Or.inl h1
    · rw [if_neg h1]
      by_cases h2 : k = 4 ∧ n * 22 ≤ j ∧ j < n * 22 + 22
      · exact Or.inr (Or.inl h2)
      · refine Or.inr (Or.inr ?_)
        rw [if_neg (by omega)]
        unfold shU mput
        by_cases hk : k = 4
        · subst hk
          rw [if_pos rfl]
          simp only [List.length_append]
          rw [if_neg (by omega)]
        · rw [if_neg hk]
theorem r_takeOutL {n : Nat} {b1 b2 : List Stn} {s : Stn} (hn : n < 13) {μ : Mem} {Q : Mem → Prop} (hB : BufX μ n (b1 ++ s :: b2)) (hlen : (b1 ++ s :: b2).length ≤ 22) (hQ : ∀ μ', BufX μ' n (b1 ++ b2) → offB n μ μ' → Q μ') : wpX4_takeOut (nI n) (nI b1.length) μ Q := by
  have hl : b1.length + (b2.length + 1) ≤ 22 := by rw [List.length_append, List.length_cons] at hlen; exact hlen
  refine r_takeOut hn hB.1 (by rw [List.length_append, List.length_cons]; omega) hlen (hQ _ ⟨?_, fun i s' hi => ?_⟩ (fun k j => ?_))
  · rw [ms_same]
    congr 1
    simp only [List.length_append, List.length_cons]
    omega
  · have hi' := getE_lt hi
    simp only [List.length_append] at hi'
    rw [ms_cell _ _ _ (by decide)]
    by_cases h1 : i < b1.length
    · rw [ap_l h1] at hi
      have h2 := hB.2 i s' (by rw [ap_l h1]; exact hi)
      unfold shD mput
      rw [if_pos rfl]
      rw [if_neg (by omega)]
      exact h2
    · rw [ap_r (by omega)] at hi
      have h2 := hB.2 (i + 1) s' (by rw [ap_r (by omega), show i + 1 - b1.length = (i - b1.length) + 1 by omega, List.getElem?_cons_succ]; exact hi)
      unfold shD mput
      rw [if_pos rfl]
      simp only [List.length_append, List.length_cons]
      rw [if_pos (by omega)]
      rw [show n * 22 + i + 1 = n * 22 + (i + 1) by omega]
      exact h2
  · rw [ms_at]
    by_cases h1 : k = 3 ∧ j = n
    · exact Or.inl h1
    · rw [if_neg h1]
      by_cases h2 : k = 4 ∧ n * 22 ≤ j ∧ j < n * 22 + 22
      · exact Or.inr (Or.inl h2)
      · refine Or.inr (Or.inr ?_)
        unfold shD mput
        by_cases hk : k = 4
        · subst hk
          rw [if_pos rfl]
          simp only [List.length_append, List.length_cons]
          rw [if_neg (by omega)]
        · rw [if_neg hk]
/-- one stone is laid in the place of another -/
theorem r_layAtL {n : Nat} {b : List Stn} {i : Nat} {s : Stn} (hn : n < 13) {μ : Mem} {Q : Mem → Prop} (hB : BufX μ n b) (hi : i < b.length) (hlen : b.length ≤ 22) (hQ : ∀ μ', BufX μ' n (b.set i s) → offB n μ μ' → Q μ') : wpX4_layAt (nI n) (nI i) (encX s) μ Q := by
  refine r_layAt hn (by omega) (hQ _ ⟨?_, fun j s' hj => ?_⟩ (fun k j => ?_))
  · rw [ms_cell _ _ _ (by decide), List.length_set]
    exact hB.1
  · rw [ms_at]
    rw [List.getElem?_set] at hj
    by_cases h : i = j
    · subst h
      rw [if_pos rfl, if_pos hi] at hj
      cases hj
      rw [if_pos ⟨rfl, rfl⟩]
    · rw [if_neg h] at hj
      rw [if_neg (by omega)]
      exact hB.2 j s' hj
  · rw [ms_at]
    by_cases h2 : k = 4 ∧ n * 22 ≤ j ∧ j < n * 22 + 22
    · exact Or.inr (Or.inl h2)
    · refine Or.inr (Or.inr ?_)
      rw [if_neg (by omega)]
theorem r_stoneAtL {n : Nat} {b : List Stn} {i : Nat} {s : Stn} (hn : n < 13) {μ : Mem} {Q : Int32 → Mem → Prop} (hB : BufX μ n b) (hi : b[i]? = some s) (hlen : b.length ≤ 22) (hQ : Q (encX s) μ) : wpX4_stoneAt (nI n) (nI i) μ Q := by
  have h := getE_lt hi
  refine r_stoneAt hn (by omega) ?_
  rw [hB.2 i s hi]
  exact hQ
theorem getD_of {b : List Stn} {i : Nat} (h : i < b.length) : b[i]? = some (b.getD i s0) := by
  rw [List.getD_eq_getElem?_getD, List.getElem?_eq_getElem h]
  rfl
/-! counting -/
def bOk (b : List Stn) : Prop := ∀ s ∈ b, sOk s
theorem bOk_at {b : List Stn} (h : bOk b) {i : Nat} {s : Stn} (hi : b[i]? = some s) : sOk s := h s (List.mem_of_getElem? hi)
theorem wgt_take (lo hi : Nat) (b : List Stn) {i : Nat} (h : i < b.length) : wgt lo hi (b.take (i + 1)) = wgt lo hi (b.take i) + if tou lo hi (b.getD i s0) = true then 1 else 0 := by
  unfold wgt
  rw [List.take_succ, getD_of h, Option.toList_some, List.filter_append, List.length_append]
  congr 1
  by_cases ht : tou lo hi (b.getD i s0) = true
  · rw [if_pos ht, List.filter_cons_of_pos ht]
    rfl
  · rw [if_neg ht, List.filter_cons_of_neg ht]
    rfl
theorem wgt_le (lo hi : Nat) (b : List Stn) : wgt lo hi b ≤ b.length := List.length_filter_le _ _
theorem l_touching {n lo hi : Nat} {b : List Stn} (hn : n < 13) (hlo : lo < 2 ^ 31) (hhi : hi < 2 ^ 31) (hok : bOk b) (hlen : b.length ≤ 22) {μ : Mem} (hB : BufX μ n b) {Q : Int32 → Mem → Prop} (hQ : Q (nI (wgt lo hi b)) μ) : ∀ (m i f : Nat), i + m = b.length → m < f → bkX4_stonesTouching_13 Q f (nI n) (nI lo) (nI hi) (nI (wgt lo hi (b.take i))) (nI b.length) (nI i) μ
  | 0, _, 0, _, hf => absurd hf (Nat.lt_irrefl 0)
  | 0, i, f + 1, hi', _ => by
    unfold bkX4_stonesTouching_13
    refine ⟨fun _ => ?_, fun c => absurd (nI_le (by omega) (by omega)) c⟩
    rw [List.take_of_length_le (by omega)]
    exact hQ
  | m + 1, _, 0, _, hf => absurd hf (Nat.not_lt_zero _)
  | m + 1, i, f + 1, hi', hf => by
    unfold bkX4_stonesTouching_13
    refine ⟨fun c => absurd c (nI_ge (by omega) (by omega)), fun _ => ?_⟩
    have hg := getD_of (b := b) (i := i) (by omega)
    refine r_stoneAtL hn hB hg hlen (r_touches (bOk_at hok hg) hlo hhi ?_)
    have hw := wgt_take lo hi b (i := i) (by omega)
    have hwl := wgt_le lo hi (b.take i)
    by_cases ht : tou lo hi (b.getD i s0) = true
    · rw [if_pos ht] at hw ⊢
      refine ⟨fun c => absurd c (by decide), fun _ => ?_⟩
      rintro _ rfl _ rfl
      rw [nI_1, nI_1, ← hw]
      exact l_touching hn hlo hhi hok hlen hB hQ m (i + 1) f (by omega) (by omega)
    · rw [if_neg ht] at hw ⊢
      refine ⟨fun _ => ?_, fun c => absurd rfl c⟩
      rintro _ rfl
      rw [nI_1]
      rw [← hw.trans (Nat.add_zero _)]
      exact l_touching hn hlo hhi hok hlen hB hQ m (i + 1) f (by omega) (by omega)
theorem r_touching {n lo hi : Nat} {b : List Stn} (hn : n < 13) (hlo : lo < 2 ^ 31) (hhi : hi < 2 ^ 31) (hok : bOk b) (hlen : b.length ≤ 22) {μ : Mem} (hB : BufX μ n b) {Q : Int32 → Mem → Prop} (hQ : Q (nI (wgt lo hi b)) μ) : wpX4_stonesTouching (nI n) (nI lo) (nI hi) μ Q := by
  unfold wpX4_stonesTouching
  refine r_stonesIn hn ⟨b.length + 1, ?_⟩
  rw [hB.1]
  exact l_touching hn hlo hhi hok hlen hB hQ b.length 0 (b.length + 1) (by omega) (by omega)
theorem l_lastPlace {n k : Nat} {b : List Stn} (hn : n < 13) (hk : k < 2 ^ 31) (hok : bOk b) (hlen : b.length ≤ 22) {μ : Mem} (hB : BufX μ n b) {Q : Int32 → Mem → Prop} : ∀ (m f : Nat), m ≤ b.length → m < f → (lw b k m = none → Q (-1) μ) → (∀ i, lw b k m = some i → Q (nI i) μ) → bkX4_lastPlaceWith_5 Q f (nI n) (nI k) (nI m + (-1 : Int32)) μ
  | 0, 0, _, hf, _, _ => absurd hf (Nat.lt_irrefl 0)
  | 0, f + 1, _, _, h1, _ => by
    unfold bkX4_lastPlaceWith_5
    exact ⟨fun _ => h1 rfl, fun c => absurd (by decide) c⟩
  | m + 1, 0, _, hf, _, _ => absurd hf (Nat.not_lt_zero _)
  | m + 1, f + 1, hm, hf, h1, h2 => by
    have e : nI (m + 1) + (-1 : Int32) = nI m := by
      rw [← Int32.sub_eq_add_neg, li 1, nI_sub (by omega)]
      rfl
    rw [e]
    unfold bkX4_lastPlaceWith_5
    refine ⟨fun c => absurd c (nI_pos (by omega)), fun _ => ?_⟩
    have hg := getD_of (b := b) (i := m) (by omega)
    refine r_stoneAtL hn hB hg hlen (r_touches (bOk_at hok hg) hk hk ?_)
    by_cases ht : tou k k (b.getD m s0) = true
    · rw [if_pos ht]
      exact ⟨fun c => absurd c (by decide), fun _ => h2 m (by unfold lw; rw [if_pos ht])⟩
    · rw [if_neg ht]
      refine ⟨fun _ => ?_, fun c => absurd rfl c⟩
      rintro _ rfl
      have e2 : lw b k (m + 1) = lw b k m := by conv => lhs; unfold lw; rw [if_neg ht]
      exact l_lastPlace hn hk hok hlen hB m f (by omega) (by omega) (fun h => h1 (e2.trans h)) (fun i h => h2 i (e2.trans h))
theorem r_lastPlace {n k m : Nat} {b : List Stn} (hn : n < 13) (hk : k < 2 ^ 31) (hok : bOk b) (hlen : b.length ≤ 22) {μ : Mem} (hB : BufX μ n b) {Q : Int32 → Mem → Prop} (hm : m ≤ b.length) (h1 : lw b k m = none → Q (-1) μ) (h2 : ∀ i, lw b k m = some i → Q (nI i) μ) : wpX4_lastPlaceWith (nI n) (nI k) (nI m) μ Q := by
  unfold wpX4_lastPlaceWith
  rintro _ rfl
  refine ⟨m + 1, ?_⟩
  rw [Int32.sub_eq_add_neg]
  exact l_lastPlace hn hk hok hlen hB m (m + 1) hm (by omega) h1 h2
theorem r_withMore {o : Stn} {m : Nat} (ho : sOk o) (hm : m < 1000) {Q : Int32 → Prop} (hQ : Q (encX (wmo o m))) : wpX4_withMore (encX o) (nI m) Q := by
  have hk := ho.1
  have hF : sF o < 27 := Nat.lt_of_le_of_lt ho.2.1 ho.2.2.1
  have hL := ho.2.2.1
  have hN := ho.2.2.2
  unfold wpX4_withMore
  refine r_kind ho ⟨fun c => r_num ho ?_, fun c => ?_⟩
  · rintro _ rfl
    have h2 : ¬ sK o = 2 := fun q => c (by rw [q]; rfl)
    unfold wmo at hQ
    rw [if_neg h2] at hQ
    refine r_kind ho (r_first ho (r_last ho ?_))
    rw [nI_add, li 1000, nI_rem (by omega) (by decide)]
    exact r_of (by omega) (by omega) (by omega) hQ
  · have h2 : sK o = 2 := nI_inj (by omega) (by decide) c
    unfold wmo at hQ
    rw [if_pos h2] at hQ
    exact hQ
theorem wmo_ok {o : Stn} {m : Nat} (ho : sOk o) : sOk (wmo o m) := by
  unfold wmo
  split
  · exact ho
  · exact ⟨ho.1, ho.2.1, ho.2.2.1, Nat.mod_lt _ (by decide)⟩
theorem lw_lt {b : List Stn} {k : Nat} : ∀ {m i : Nat}, lw b k m = some i → i < m
  | 0, i, h => by cases h
  | m + 1, i, h => by
    unfold lw at h
    split at h
    · cases h; omega
    · have := lw_lt h; omega
/-- only the first places count -/
theorem lw_app {b b2 : List Stn} {k : Nat} : ∀ {m : Nat}, m ≤ b.length → lw (b ++ b2) k m = lw b k m
  | 0, _ => rfl
  | m + 1, h => by
    unfold lw
    have e : (b ++ b2).getD m s0 = b.getD m s0 := by
      rw [List.getD_eq_getElem?_getD, List.getD_eq_getElem?_getD, ap_l (by omega)]
    rw [e, lw_app (by omega)]
