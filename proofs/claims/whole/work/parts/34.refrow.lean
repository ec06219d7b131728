/-! the reference: rows are copied -/
/-- cell A's N places from a on get what stands in cell B from b on; the first i are done -/
def cpI (μ : Mem) (A a i N B b : Nat) : Mem := mput μ A (fun q => if a + i ≤ q ∧ q < a + N then μ B (b + (q - a)) else μ A q)
theorem cpI_A (μ : Mem) (A a i N B b j : Nat) : cpI μ A a i N B b A j = if a + i ≤ j ∧ j < a + N then μ B (b + (j - a)) else μ A j := by
  unfold cpI
  rw [mp_same]
theorem cpI_ne (μ : Mem) (A a i N B b : Nat) {k : Nat} (h : k ≠ A) : cpI μ A a i N B b k = μ k := by
  unfold cpI
  rw [mp_cell _ _ h]
theorem cpI_end (μ : Mem) (A a N B b : Nat) : cpI μ A a N N B b = μ := by
  funext k q
  by_cases hk : k = A
  · subst hk
    rw [cpI_A, if_neg (by omega)]
  · rw [cpI_ne _ _ _ _ _ _ _ hk]
theorem cpI_s (μ : Mem) {A a i N B b : Nat} (h : i < N) (hAB : B = A → a < b) : cpI (mset μ A (a + i) (μ B (b + i))) A a (i + 1) N B b = cpI μ A a i N B b := by
  funext k q
  by_cases hk : k = A
  · subst hk
    rw [cpI_A, cpI_A]
    by_cases h1 : a + (i + 1) ≤ q ∧ q < a + N
    · rw [if_pos h1, if_pos (by omega), ms_at, if_neg]
      rintro ⟨e1, e2⟩
      have := hAB e1
      omega
    · rw [if_neg h1]
      by_cases h2 : q = a + i
      · subst h2
        rw [if_pos (by omega), ms_same, Nat.add_sub_cancel_left]
      · rw [if_neg (by omega), ms_place _ _ _ h2]
  · rw [cpI_ne _ _ _ _ _ _ _ hk, cpI_ne _ _ _ _ _ _ _ hk, ms_cell _ _ _ hk]
theorem lq_copy {A a N B b : Nat} (hAB : B = A → a < b) {μ0 : Mem} {bk : Nat → Int32 → Mem → Prop} (hend : ∀ f, bk (f + 1) (nI N) (cpI μ0 A a 0 N B b))
    (hst : ∀ f i μ, i < N → (∀ k, k ≠ A → μ k = μ0 k) → bk f (nI (i + 1)) (mset μ A (a + i) (μ B (b + i))) → bk (f + 1) (nI i) μ) : ∀ (m i f : Nat) (μ : Mem), i + m = N → m < f → (∀ k, k ≠ A → μ k = μ0 k) → cpI μ A a i N B b = cpI μ0 A a 0 N B b → bk f (nI i) μ
  | _, _, 0, _, _, hf, _, _ => absurd hf (Nat.not_lt_zero _)
  | 0, i, f + 1, μ, hi, _, _, he => by
    have e : i = N := by omega
    subst e
    have h := hend f
    rw [← he, cpI_end] at h
    exact h
  | m + 1, i, f + 1, μ, hi, hf, ho, he => by
    refine hst f i μ (by omega) ho (lq_copy hAB hend hst m (i + 1) f _ (by omega) (by omega) (fun k hk => ?_) ?_)
    · rw [ms_cell _ _ _ hk]
      exact ho k hk
    · rw [cpI_s _ (by omega) hAB]
      exact he
theorem q_copy {A a N B b : Nat} (hAB : B = A → a < b) {μ0 : Mem} {bk : Nat → Int32 → Mem → Prop} (hend : ∀ f, bk (f + 1) (nI N) (cpI μ0 A a 0 N B b))
    (hst : ∀ f i μ, i < N → (∀ k, k ≠ A → μ k = μ0 k) → bk f (nI (i + 1)) (mset μ A (a + i) (μ B (b + i))) → bk (f + 1) (nI i) μ) : ∃ f, bk f (0 : Int32) μ0 :=
  ⟨N + 1, lq_copy hAB hend hst N 0 (N + 1) μ0 (by omega) (by omega) (fun _ _ => rfl) rfl⟩
theorem RowT_congr {f g : Nat → Int32} {t : TS} (hl : lenW t.2.2.2.2) (h : ∀ j, j < 1333 → g j = f j) (hR : RowT f t) : RowT g t := by
  obtain ⟨r0, r1, r2, r5, rn, rk, r4, r3⟩ := hR
  refine ⟨(h _ (by decide)).trans r0, (h _ (by decide)).trans r1, (h _ (by decide)).trans r2, (h _ (by decide)).trans r5, fun n hn => NodeM_congr (hl n hn) (fun j hj => h j (inM_low hn hj).2) (rn n hn), fun k hk => (h _ (by omega)).trans (rk k hk), (h _ (by decide)).trans r4, (h _ (by decide)).trans r3⟩
theorem q_layAside {t : TS} (hl : lenW t.2.2.2.2) {μ : Mem} (hR : RowT (μ 1) t) {Q : Mem → Prop} (hQ : ∀ μ', RowT (μ' 5) t → (∀ k, k ≠ 5 → μ' k = μ k) → Q μ') : wpX6_layAside μ Q := by
  unfold wpX6_layAside
  refine q_copy (A := 5) (a := 0) (N := 1333) (B := 1) (b := 0) (μ0 := μ) (bk := fun f i μ => bkX6_layAside_2 Q f i μ) (fun e => absurd e (by decide)) (fun f => ?_) (fun f i μ1 hi ho hh => ?_)
  · show bkX6_layAside_2 _ _ _ _
    unfold bkX6_layAside_2
    refine ⟨fun _ => hQ _ (RowT_congr hl (fun j hj => ?_) hR) (fun k hk => cpI_ne _ _ _ _ _ _ _ hk), fun q => absurd (nI_le (Nat.le_refl 1333) (by decide)) q⟩
    rw [cpI_A, if_pos (by omega), Nat.zero_add, Nat.sub_zero]
  · show bkX6_layAside_2 _ _ _ _
    unfold bkX6_layAside_2
    refine ⟨fun q => absurd q (nI_ge hi (by decide)), fun _ => ?_⟩
    rw [nI_clamp (show i < 2 ^ 31 by omega), nI_1]
    refine ⟨vinI (by omega) (by decide), vinI (by omega) (by decide), ?_⟩
    rintro _ rfl _ rfl
    rw [Nat.zero_add] at hh
    exact hh
theorem q_bringBack {t : TS} (hl : lenW t.2.2.2.2) {μ : Mem} (hR : RowT (μ 5) t) {Q : Mem → Prop} (hQ : ∀ μ', RowT (μ' 1) t → (∀ k, k ≠ 1 → μ' k = μ k) → Q μ') : wpX6_bringBack μ Q := by
  unfold wpX6_bringBack
  refine q_copy (A := 1) (a := 0) (N := 1333) (B := 5) (b := 0) (μ0 := μ) (bk := fun f i μ => bkX6_bringBack_2 Q f i μ) (fun e => absurd e (by decide)) (fun f => ?_) (fun f i μ1 hi ho hh => ?_)
  · show bkX6_bringBack_2 _ _ _ _
    unfold bkX6_bringBack_2
    refine ⟨fun _ => hQ _ (RowT_congr hl (fun j hj => ?_) hR) (fun k hk => cpI_ne _ _ _ _ _ _ _ hk), fun q => absurd (nI_le (Nat.le_refl 1333) (by decide)) q⟩
    rw [cpI_A, if_pos (by omega), Nat.zero_add, Nat.sub_zero]
  · show bkX6_bringBack_2 _ _ _ _
    unfold bkX6_bringBack_2
    refine ⟨fun q => absurd q (nI_ge hi (by decide)), fun _ => ?_⟩
    rw [nI_clamp (show i < 2 ^ 31 by omega), nI_1]
    refine ⟨vinI (by omega) (by decide), vinI (by omega) (by decide), ?_⟩
    rintro _ rfl _ rfl
    rw [Nat.zero_add] at hh
    exact hh
/-- the rows of the past: the latest first -/
def RowP (μ : Mem) (hs : List TS) : Prop := hs.length ≤ 6 ∧ μ 0 0 = nI hs.length ∧ ∀ j t, hs[j]? = some t → RowT (fun q => μ 2 (1333 * (hs.length - 1 - j) + q)) t
theorem lq_rec {hs : List TS} {t : TS} (h5 : hs.length < 6) (hl : lenW t.2.2.2.2) (hls : ∀ u ∈ hs, lenW u.2.2.2.2) {μ : Mem} (hP : RowP μ hs) (hR : RowT (μ 1) t) {Q : Mem → Prop} (hQ : ∀ μ', RowP μ' (t :: hs) → (∀ k j, k ≠ 2 → (k = 0 → j ≠ 0) → μ' k j = μ k j) → Q μ') : ∃ f, bkX6_record_52 Q f (0 : Int32) μ := by
  obtain ⟨-, h0, hr⟩ := hP
  refine q_copy (A := 2) (a := 1333 * hs.length) (N := 1333) (B := 1) (b := 0) (μ0 := μ) (bk := fun f i μ => bkX6_record_52 Q f i μ) (fun e => absurd e (by decide)) (fun f => ?_) (fun f i μ1 hi ho hh => ?_)
  · show bkX6_record_52 _ _ _ _
    unfold bkX6_record_52
    refine ⟨fun _ => ?_, fun q => absurd (nI_le (Nat.le_refl 1333) (by decide)) q⟩
    rintro _ rfl
    have e0 : cpI μ 2 (1333 * hs.length) 0 1333 1 0 0 0 = nI hs.length := by rw [cpI_ne _ _ _ _ _ _ _ (by decide)]; exact h0
    rw [e0, li 1, nI_add]
    refine hQ _ ⟨by rw [List.length_cons]; omega, ms_same _ _ _ _, fun j u hj => ?_⟩ (fun k j q1 q2 => ?_)
    · cases j with
      | zero =>
        rw [List.getElem?_cons_zero] at hj
        cases hj
        refine RowT_congr hl (fun q hq => ?_) hR
        show mset _ 0 0 _ 2 _ = _
        rw [ms_cell _ _ _ (by decide), List.length_cons, cpI_A, if_pos (by omega)]
        congr 1
        omega
      | succ j =>
        rw [List.getElem?_cons_succ] at hj
        have hlt := getE_lt hj
        refine RowT_congr (hls u (List.mem_of_getElem? hj)) (fun q hq => ?_) (hr j u hj)
        show mset _ 0 0 _ 2 _ = _
        have e : 1333 * ((t :: hs).length - 1 - (j + 1)) = 1333 * (hs.length - 1 - j) := by rw [List.length_cons]; congr 1; omega
        have e2 : 1333 * (hs.length - 1 - j) + 1333 ≤ 1333 * hs.length := by
          have : hs.length - 1 - j + 1 ≤ hs.length := by omega
          omega
        rw [ms_cell _ _ _ (by decide), cpI_A, e, if_neg (by omega)]
    · rw [ms_at, if_neg (fun q => q2 q.1 q.2), cpI_ne _ _ _ _ _ _ _ q1]
  · show bkX6_record_52 _ _ _ _
    unfold bkX6_record_52
    refine ⟨fun q => absurd q (nI_ge hi (by decide)), fun _ => ?_⟩
    rw [ho 0 (by decide), h0, li 1333, nI_mul, nI_add, nI_clamp (show i < 2 ^ 31 by omega), nI_clamp (show 1333 * hs.length + i < 2 ^ 31 by omega), nI_1]
    refine ⟨vinI (by omega) (by decide), vinI (by omega) (by decide), ?_⟩
    rintro _ rfl _ rfl
    rw [Nat.zero_add] at hh
    exact hh
theorem q_record {hs : List TS} {t : TS} (hl : lenW t.2.2.2.2) (hls : ∀ u ∈ hs, lenW u.2.2.2.2) {μ : Mem} (hP : RowP μ hs) (hR : RowT (μ 1) t) {Q : Mem → Prop} (hQ : ∀ μ', RowP μ' ((t :: hs).take 6) → (∀ k j, k ≠ 2 → (k = 0 → j ≠ 0) → μ' k j = μ k j) → Q μ') : wpX6_record μ Q := by
  unfold wpX6_record
  have h6 := hP.1
  have h0 := hP.2.1
  have hr := hP.2.2
  rw [h0]
  refine ⟨fun q => ?_, fun q => ?_⟩
  · have hne : hs.length ≠ 6 := fun e => q (by rw [e]; rfl)
    refine lq_rec (by omega) hl hls hP hR (fun μ' a b => hQ μ' ?_ b)
    rw [List.take_of_length_le (by rw [List.length_cons]; omega)]
    exact a
  · have he : hs.length = 6 := nI_inj (by omega) (by decide) q
    refine q_copy (A := 2) (a := 0) (N := 6665) (B := 2) (b := 1333) (μ0 := μ) (bk := fun f i μ => bkX6_record_11 Q f i μ) (fun _ => by decide) (fun f => ?_) (fun f i μ1 hi ho hh => ?_)
    · show bkX6_record_11 _ _ _ _
      unfold bkX6_record_11
      refine ⟨fun _ => ?_, fun q => absurd (nI_le (Nat.le_refl 6665) (by decide)) q⟩
      rintro _ rfl
      have e0 : cpI μ 2 0 0 6665 2 1333 0 0 = nI hs.length := by rw [cpI_ne _ _ _ _ _ _ _ (by decide)]; exact h0
      rw [e0, he]
      have hlt5 : (hs.take 5).length = 5 := by rw [List.length_take]; omega
      refine lq_rec (hs := hs.take 5) (by omega) hl (fun u hu => hls u (List.mem_of_mem_take hu)) ⟨by omega, ?_, fun j u hj => ?_⟩ ?_ (fun μ' a b => hQ μ' ?_ (fun k j q1 q2 => ?_))
      · rw [ms_same, hlt5]
        rfl
      · have hj5 := getE_lt hj
        rw [hlt5] at hj5
        rw [List.getElem?_take_of_lt hj5] at hj
        refine RowT_congr (hls u (List.mem_of_getElem? hj)) (fun q hq => ?_) (hr j u hj)
        show mset _ 0 0 _ 2 _ = _
        rw [ms_cell _ _ _ (by decide), cpI_A, hlt5, he, if_pos (by omega)]
        congr 1
        omega
      · rw [ms_cell _ _ _ (by decide), cpI_ne _ _ _ _ _ _ _ (by decide)]
        exact hR
      · exact a
      · rw [b k j q1 q2, ms_at, if_neg (fun q => q2 q.1 q.2), cpI_ne _ _ _ _ _ _ _ q1]
    · show bkX6_record_11 _ _ _ _
      unfold bkX6_record_11
      refine ⟨fun q => absurd q (nI_ge hi (by decide)), fun _ => ?_⟩
      rw [li 1333, nI_add, nI_clamp (show i < 2 ^ 31 by omega), nI_clamp (show i + 1333 < 2 ^ 31 by omega), nI_1]
      refine ⟨vinI (by omega) (by decide), vinI (by omega) (by decide), ?_⟩
      rintro _ rfl _ rfl
      rw [Nat.zero_add, Nat.add_comm 1333 i] at hh
      exact hh
/-- the latest past comes back -/
theorem q_undo {hs : List TS} {t : TS} (hl : lenW t.2.2.2.2) (hls : ∀ u ∈ hs, lenW u.2.2.2.2) {μ : Mem} (hP : RowP μ (t :: hs)) {Q : Int32 → Mem → Prop} (hQ : ∀ μ', RowP μ' hs → RowT (μ' 1) t → (∀ k j, k ≠ 1 → (k = 0 → j ≠ 0) → μ' k j = μ k j) → Q (nI hs.length) μ') : wpX6_undo μ Q := by
  obtain ⟨h6, h0, hr⟩ := hP
  rw [List.length_cons] at h6 h0
  unfold wpX6_undo
  rw [h0]
  refine ⟨fun _ => ?_, fun q => absurd (nI_inj (b := 0) (by omega) (by decide) q) (by omega)⟩
  rw [li 1, nI_sub (by omega), Nat.add_sub_cancel]
  rintro μ1 e1
  have f0 : μ1 0 0 = nI hs.length := by rw [e1, ms_same]
  have f2 : μ1 2 = μ 2 := by rw [e1, ms_cell _ _ _ (by decide)]
  refine q_copy (A := 1) (a := 0) (N := 1333) (B := 2) (b := 1333 * hs.length) (μ0 := μ1) (bk := fun f i μ => bkX6_undo_22 Q f i μ) (fun e => absurd e (by decide)) (fun f => ?_) (fun f i μ2 hi ho hh => ?_)
  · show bkX6_undo_22 _ _ _ _
    unfold bkX6_undo_22
    refine ⟨fun _ => ?_, fun q => absurd (nI_le (Nat.le_refl 1333) (by decide)) q⟩
    have e0 : cpI μ1 1 0 0 1333 2 (1333 * hs.length) 0 0 = nI hs.length := by rw [cpI_ne _ _ _ _ _ _ _ (by decide)]; exact f0
    rw [e0]
    refine hQ _ ⟨by omega, e0, fun j u hj => ?_⟩ (RowT_congr hl (fun q hq => ?_) (hr 0 t rfl)) (fun k j q1 q2 => ?_)
    · have hlt := getE_lt hj
      refine RowT_congr (hls u (List.mem_of_getElem? hj)) (fun q hq => ?_) (hr (j + 1) u (by rw [List.getElem?_cons_succ]; exact hj))
      show cpI _ _ _ _ _ _ _ 2 _ = _
      have e : (t :: hs).length - 1 - (j + 1) = hs.length - 1 - j := by rw [List.length_cons]; omega
      rw [cpI_ne _ _ _ _ _ _ _ (by decide), f2, e]
    · rw [cpI_A, if_pos (by omega), f2, List.length_cons]
      congr 1
    · rw [cpI_ne _ _ _ _ _ _ _ q1, e1, ms_at, if_neg (fun q => q2 q.1 q.2)]
  · show bkX6_undo_22 _ _ _ _
    unfold bkX6_undo_22
    refine ⟨fun q => absurd q (nI_ge hi (by decide)), fun _ => ?_⟩
    rw [ho 0 (by decide), f0, li 1333, nI_mul, nI_add, nI_clamp (show i < 2 ^ 31 by omega), nI_clamp (show 1333 * hs.length + i < 2 ^ 31 by omega), nI_1]
    refine ⟨vinI (by omega) (by decide), vinI (by omega) (by decide), ?_⟩
    rintro _ rfl _ rfl
    rw [Nat.zero_add] at hh
    exact hh
theorem q_undo0 {μ : Mem} (hP : RowP μ []) {Q : Int32 → Mem → Prop} (hQ : Q (-5) μ) : wpX6_undo μ Q := by
  unfold wpX6_undo
  rw [hP.2.1]
  exact ⟨fun q => absurd rfl q, fun _ => hQ⟩
/-! the reference: sums over nodes -/
theorem lq_all {μ : Mem} {w : WT} (hR : RowW (μ 1) w) {Q : Int32 → Mem → Prop} (hQ : Q (allSt w) μ) : ∀ (m i f : Nat), i + m = 13 → m < f → bkX6_allStones_4 Q f (sumN (fun n => nI (w.1 n).1.length) i) (nI i) μ
  | _, _, 0, _, hf => absurd hf (Nat.not_lt_zero _)
  | 0, i, f + 1, hi, _ => by
    have e : i = 13 := by omega
    subst e
    unfold bkX6_allStones_4
    exact ⟨fun _ => hQ, fun q => absurd (nI_le (Nat.le_refl 13) (by decide)) q⟩
  | m + 1, i, f + 1, hi, hf => by
    unfold bkX6_allStones_4
    refine ⟨fun q => absurd q (nI_ge (show i < 13 by omega) (by decide)), fun _ => ?_⟩
    rw [li 72, nI_add, nI_clamp (show 72 + i < 2 ^ 31 by omega), (hR.1 i (by omega)).1.1, nI_1]
    refine ⟨vinI (by omega) (by decide), ?_⟩
    rintro _ rfl _ rfl
    exact lq_all hR hQ m (i + 1) f (by omega) (by omega)
theorem q_allStones {μ : Mem} {w : WT} (hR : RowW (μ 1) w) {Q : Int32 → Mem → Prop} (hQ : Q (allSt w) μ) : wpX6_allStones μ Q := by
  unfold wpX6_allStones
  exact ⟨14, lq_all hR hQ 13 0 14 (by decide) (by decide)⟩
/-! the reference: a key is read -/
theorem lq_through {n k : Nat} {b : List Stn} {v0 : Option Nat} (hn : n < 13) (hk : k < 2 ^ 31) (hok : bOk b) (hlen : b.length ≤ 22) (hv : vOk v0) {μ : Mem} (hB : BufM (μ 1) n b) {Q : Int32 → Mem → Prop} (hQ : Q (encV (thr b k v0)) μ) : ∀ (m i f : Nat), i + m = b.length → m < f → bkX6_throughNode_6 Q f (nI n) (nI k) (encV (thr (b.take i) k v0)) (nI i) μ
  | _, _, 0, _, hf => absurd hf (Nat.not_lt_zero _)
  | 0, i, f + 1, hi', _ => by
    unfold bkX6_throughNode_6
    rw [li 72, nI_add, nI_clamp (by omega), hB.1]
    refine ⟨vinI (by omega) (by decide), fun _ => ?_, fun q => absurd (nI_le (by omega) (by omega)) q⟩
    rw [List.take_of_length_le (by omega)]
    exact hQ
  | m + 1, i, f + 1, hi', hf => by
    have hg := getD_of (b := b) (i := i) (by omega)
    have ho := bOk_at hok hg
    have hst := hB.2 _ _ hg
    have hvt : vOk (thr (b.take i) k v0) := thr_ok (fun s hs => hok s (List.mem_of_mem_take hs)) hv
    have ht := thr_take (k := k) (v := v0) (b := b) (i := i) (by omega)
    unfold bkX6_throughNode_6
    rw [li 72, nI_add, nI_clamp (by omega), hB.1]
    refine ⟨vinI (by omega) (by decide), fun q => absurd q (nI_ge (by omega) (by omega)), fun _ => q_place (q_has ho (pl_lt hn (by omega)) hk hk hst ?_)⟩
    by_cases h : tou k k (b.getD i s0) = true
    · rw [if_pos h] at ht ⊢
      refine ⟨fun q => absurd q (by decide), fun _ => ?_⟩
      have hpl := pl_lt (n := n) (i := i) hn (by omega)
      rw [li 3, nI_add, nI_clamp (show pl n i < 2 ^ 31 by omega), nI_clamp (show pl n i + 3 < 2 ^ 31 by omega), hst.1, hst.2.2.2]
      refine ⟨vinI (by omega) (by decide), vinI (by omega) (by decide), q_applied ho hvt ?_⟩
      rintro _ rfl
      rw [nI_1, ← ht]
      exact lq_through hn hk hok hlen hv hB hQ m (i + 1) f (by omega) (by omega)
    · rw [if_neg h] at ht ⊢
      refine ⟨fun _ => ?_, fun q => absurd rfl q⟩
      rintro _ rfl
      rw [nI_1, ← ht]
      exact lq_through hn hk hok hlen hv hB hQ m (i + 1) f (by omega) (by omega)
theorem q_through {n k : Nat} {b : List Stn} {v0 : Option Nat} (hn : n < 13) (hk : k < 2 ^ 31) (hok : bOk b) (hlen : b.length ≤ 22) (hv : vOk v0) {μ : Mem} (hB : BufM (μ 1) n b) {Q : Int32 → Mem → Prop} (hQ : Q (encV (thr b k v0)) μ) : wpX6_throughNode (nI n) (nI k) (encV v0) μ Q := by
  unfold wpX6_throughNode
  exact ⟨b.length + 1, lq_through hn hk hok hlen hv hB hQ b.length 0 _ (by omega) (by omega)⟩
theorem q_readOf {k : Nat} (hk : k < 27) {μ : Mem} {w : WT} (hw : WOk w) (hR : RowW (μ 1) w) {Q : Int32 → Mem → Prop} (hQ : Q (encV (rdK w k)) μ) : wpX6_readOf (nI k) μ Q := by
  have hl := WOk_len hw
  have o0 := bIn_ok (hw.2 0 (by decide)).2
  have o1 := bIn_ok (hw.2 _ (midN_lt hk)).2
  have o2 := bIn_ok (hw.2 _ (lowN_lt hk)).2
  have v0 := hw.1 k hk
  have v1 := thr_ok (k := k) o2 v0
  have v2 := thr_ok (k := k) o1 v1
  unfold wpX6_readOf
  rw [li 6, li 4, li 3, li 1, li 9, nI_div (by omega) (by decide), nI_div (by omega) (by decide), nI_add, nI_add, nI_add, nI_clamp (show 6 + k < 2 ^ 31 by omega), hR.2.1 k hk]
  refine ⟨vinI (by omega) (by decide), ?_⟩
  refine q_through (n := lowN k) (lowN_lt hk) (by omega) o2 (hl _ (lowN_lt hk)) v0 (hR.1 _ (lowN_lt hk)).1 ?_
  refine q_through (n := midN k) (midN_lt hk) (by omega) o1 (hl _ (midN_lt hk)) v1 (hR.1 _ (midN_lt hk)).1 ?_
  exact q_through (n := 0) (by decide) (by omega) o0 (hl 0 (by decide)) v2 (hR.1 0 (by decide)).1 hQ
theorem lq_with {n k : Nat} {b : List Stn} (hn : n < 13) (hk : k < 2 ^ 31) (hok : bOk b) (hlen : b.length ≤ 22) {μ : Mem} (hB : BufM (μ 1) n b) {Q : Int32 → Mem → Prop} (hQ : Q (nI (wgt k k b)) μ) : ∀ (m i f : Nat), i + m = b.length → m < f → bkX6_with_5 Q f (nI n) (nI k) (nI (wgt k k (b.take i))) (nI i) μ
  | _, _, 0, _, hf => absurd hf (Nat.not_lt_zero _)
  | 0, i, f + 1, hi', _ => by
    unfold bkX6_with_5
    rw [li 72, nI_add, nI_clamp (by omega), hB.1]
    refine ⟨vinI (by omega) (by decide), fun _ => ?_, fun q => absurd (nI_le (by omega) (by omega)) q⟩
    rw [List.take_of_length_le (by omega)]
    exact hQ
  | m + 1, i, f + 1, hi', hf => by
    have hg := getD_of (b := b) (i := i) (by omega)
    have hw := wgt_take k k b (i := i) (by omega)
    unfold bkX6_with_5
    rw [li 72, nI_add, nI_clamp (by omega), hB.1]
    refine ⟨vinI (by omega) (by decide), fun q => absurd q (nI_ge (by omega) (by omega)), fun _ => q_place (q_has (bOk_at hok hg) (pl_lt hn (by omega)) hk hk (hB.2 i _ hg) ?_)⟩
    have h := lq_with hn hk hok hlen hB hQ m (i + 1) f (by omega) (by omega)
    by_cases ht : tou k k (b.getD i s0) = true
    · rw [if_pos ht] at hw ⊢
      refine ⟨fun q => absurd q (by decide), fun _ => ?_⟩
      rintro _ rfl _ rfl
      rw [nI_1, nI_1, ← hw]
      exact h
    · rw [if_neg ht] at hw ⊢
      refine ⟨fun _ => ?_, fun q => absurd rfl q⟩
      rintro _ rfl _ rfl
      rw [nI_1, Int32.add_zero, ← hw.trans (Nat.add_zero _)]
      exact h
theorem q_with {n k : Nat} {b : List Stn} (hn : n < 13) (hk : k < 2 ^ 31) (hok : bOk b) (hlen : b.length ≤ 22) {μ : Mem} (hB : BufM (μ 1) n b) {Q : Int32 → Mem → Prop} (hQ : Q (nI (wgt k k b)) μ) : wpX6_with (nI n) (nI k) μ Q := by
  unfold wpX6_with
  exact ⟨b.length + 1, lq_with hn hk hok hlen hB hQ b.length 0 _ (by omega) (by omega)⟩
