/-! the reference: its row -/
def StM (f : Nat → Int32) (p : Nat) (s : Stn) : Prop := f p = nI (sK s) ∧ f (p + 1) = nI (sF s) ∧ f (p + 2) = nI (sL s) ∧ f (p + 3) = nI (sN s)
def pl (n i : Nat) : Nat := 85 + 96 * n + 4 * i
def BufM (f : Nat → Int32) (n : Nat) (b : List Stn) : Prop := f (72 + n) = nI b.length ∧ ∀ i s, b[i]? = some s → StM f (pl n i) s
def NodeM (f : Nat → Int32) (n : Nat) (x : NS) : Prop := BufM f n x.1 ∧ f (33 + n) = x.2.1 ∧ f (46 + n) = x.2.2.1 ∧ f (59 + n) = x.2.2.2
/-- the places of node n -/
def inM (n j : Nat) : Prop := j = 72 + n ∨ (85 + 96 * n ≤ j ∧ j < 85 + 96 * n + 96) ∨ j = 33 + n ∨ j = 46 + n ∨ j = 59 + n
def RowW (f : Nat → Int32) (w : WT) : Prop := (∀ n, n < 13 → NodeM f n (w.1 n)) ∧ (∀ k, k < 27 → f (6 + k) = encV (w.2.1 k)) ∧ f 4 = w.2.2 ∧ f 3 = allSk w
def RowT (f : Nat → Int32) (t : TS) : Prop := f 0 = nI t.1 ∧ f 1 = nI t.2.1 ∧ f 2 = t.2.2.1 ∧ f 5 = t.2.2.2.1 ∧ RowW f t.2.2.2.2
theorem StM_congr {f g : Nat → Int32} {p : Nat} {s : Stn} (h : ∀ j, p ≤ j → j < p + 4 → g j = f j) (hs : StM f p s) : StM g p s := by
  obtain ⟨h1, h2, h3, h4⟩ := hs
  exact ⟨(h p (by omega) (by omega)).trans h1, (h (p + 1) (by omega) (by omega)).trans h2, (h (p + 2) (by omega) (by omega)).trans h3, (h (p + 3) (by omega) (by omega)).trans h4⟩
/-- a stone's four numbers moved -/
theorem StM_move {f g : Nat → Int32} {p q : Nat} {s : Stn} (h : ∀ j, j < 4 → g (q + j) = f (p + j)) (hs : StM f p s) : StM g q s := by
  obtain ⟨h1, h2, h3, h4⟩ := hs
  exact ⟨(h 0 (by decide)).trans h1, (h 1 (by decide)).trans h2, (h 2 (by decide)).trans h3, (h 3 (by decide)).trans h4⟩
theorem NodeM_congr {f g : Nat → Int32} {n : Nat} {x : NS} (hlen : x.1.length ≤ 22) (h : ∀ j, inM n j → g j = f j) (hx : NodeM f n x) : NodeM g n x := by
  obtain ⟨⟨h1, h2⟩, h3, h4, h5⟩ := hx
  refine ⟨⟨(h _ (Or.inl rfl)).trans h1, fun i s hi => ?_⟩, (h _ (Or.inr (Or.inr (Or.inl rfl)))).trans h3, (h _ (Or.inr (Or.inr (Or.inr (Or.inl rfl))))).trans h4, (h _ (Or.inr (Or.inr (Or.inr (Or.inr rfl))))).trans h5⟩
  have := getE_lt hi
  refine StM_congr (fun j hj1 hj2 => h j (Or.inr (Or.inl ?_))) (h2 i s hi)
  unfold pl at hj1 hj2
  omega
theorem inM_ne {n m j : Nat} (hn : n < 13) (hm : m < 13) (hnm : n ≠ m) (h : inM n j) : ¬ inM m j := by
  unfold inM at *
  omega
theorem inM_low {n j : Nat} (hn : n < 13) (h : inM n j) : 33 ≤ j ∧ j < 1333 := by
  unfold inM at h
  omega
/-- sums over the nodes -/
theorem sumN_up {f : Nat → Int32} {n : Nat} {v : Int32} : ∀ {m : Nat}, n < m → sumN (fun k => if k = n then f k + v else f k) m = sumN f m + v
  | 0, h => absurd h (Nat.not_lt_zero n)
  | m + 1, h => by
    unfold sumN
    by_cases e : n = m
    · subst e
      rw [if_pos rfl, sumN_congr (g := f) (fun k hk => by rw [if_neg (by omega)]), Int32.add_assoc]
    · rw [sumN_up (by omega), if_neg (by omega), Int32.add_assoc, Int32.add_assoc, Int32.add_comm v]
theorem allSk_set {n : Nat} (hn : n < 13) {x : NS} {w : WT} {v : Int32} (h : x.2.2.1 = (w.1 n).2.2.1 + v) : allSk (setN n x w) = allSk w + v := by
  unfold allSk
  rw [← sumN_up (f := fun k => (w.1 k).2.2.1) hn]
  refine sumN_congr (fun k _ => ?_)
  by_cases e : k = n
  · subst e
    rw [if_pos rfl, setN_at, h]
  · rw [if_neg e, setN_ne _ _ e]
theorem RowW_set {n : Nat} (hn : n < 13) {f g : Nat → Int32} {w : WT} {x : NS} {v : Int32} (hl : lenW w) (hw : RowW f w) (ho : ∀ j, j ≠ 3 → inM n j ∨ g j = f j) (hx : NodeM g n x) (hv : x.2.2.1 = (w.1 n).2.2.1 + v) (h3 : g 3 = f 3 + v) : RowW g (setN n x w) := by
  refine ⟨fun m hm => ?_, fun k hk => ?_, ?_, ?_⟩
  · by_cases h : m = n
    · subst h
      rw [setN_at]
      exact hx
    · rw [setN_ne x w h]
      refine NodeM_congr (hl m hm) (fun j hj => ?_) (hw.1 m hm)
      rcases ho j (by have := inM_low hm hj; omega) with g' | g'
      · exact absurd g' (inM_ne hm hn h hj)
      · exact g'
  · rcases ho (6 + k) (by omega) with g' | g'
    · have := inM_low hn g'; omega
    · rw [g']
      exact hw.2.1 k hk
  · rcases ho 4 (by omega) with g' | g'
    · have := inM_low hn g'; omega
    · rw [g']
      exact hw.2.2.1
  · rw [h3, hw.2.2.2, allSk_set hn hv]
theorem q_place {n k : Nat} {Q : Int32 → Prop} (hQ : Q (nI (pl n k))) : wpX6_place (nI n) (nI k) Q := by
  unfold wpX6_place
  rw [li 85, li 96, li 4, nI_mul, nI_mul, nI_add, nI_add]
  exact hQ
theorem q_has {p lo hi : Nat} {s : Stn} {μ : Mem} (hs : sOk s) (hp : p + 3 < 1333) (h1 : lo < 2 ^ 31) (h2 : hi < 2 ^ 31) (hS : StM (μ 1) p s) {Q : Int32 → Mem → Prop} (hQ : Q (if tou lo hi s = true then 1 else 0) μ) : wpX6_has (nI p) (nI lo) (nI hi) μ Q := by
  obtain ⟨g0, g1, g2, g3⟩ := hS
  have hF : sF s < 27 := Nat.lt_of_le_of_lt hs.2.1 hs.2.2.1
  have hL := hs.2.2.1
  unfold wpX6_has
  rw [li 1, li 2, nI_add, nI_add, nI_clamp (by omega), nI_clamp (by omega), g1, g2]
  refine ⟨vinI (by omega) (by decide), fun c => ?_, fun c => ⟨vinI (by omega) (by decide), fun c2 => ?_, fun c2 => ?_⟩⟩
  · rw [nI_ltI h2 (by omega)] at c
    rw [if_neg (by simp [tou]; omega)] at hQ
    exact hQ
  · rw [nI_ltI (by omega) h1] at c2
    rw [if_neg (by simp [tou]; omega)] at hQ
    exact hQ
  · rw [nI_ltI h2 (by omega)] at c
    rw [nI_ltI (by omega) h1] at c2
    rw [if_pos (by simp [tou]; omega)] at hQ
    exact hQ
theorem q_firstOf {n : Nat} (hn : n < 13) {Q : Int32 → Prop} (hQ : Q (nI (fk n))) : wpX6_firstOf (nI n) Q := by
  unfold wpX6_firstOf
  unfold fk at hQ
  refine ⟨fun c => ⟨fun c1 => ?_, fun c1 => ?_⟩, fun c => ?_⟩
  · rw [li 4, nI_leI (by decide) (by omega)] at c1
    rw [if_neg (by omega), if_neg (by omega)] at hQ
    rw [li 4, nI_sub c1, li 3, nI_mul]
    exact hQ
  · rw [li 4, nI_leI (by decide) (by omega)] at c1
    have h0 : n ≠ 0 := fun q => c (by rw [q]; rfl)
    rw [if_neg h0, if_pos (by omega)] at hQ
    rw [li 1, nI_sub (by omega), li 9, nI_mul]
    exact hQ
  · rw [if_pos (nI_inj (by omega) (by decide) c)] at hQ
    exact hQ
theorem q_part {n : Nat} (hn : n < 13) {Q : Int32 → Prop} (hQ : Q (nI (kc n))) : wpX6_part (nI n) Q := by
  unfold wpX6_part
  unfold kc at hQ
  refine ⟨fun c => ⟨fun c1 => ?_, fun c1 => ?_⟩, fun c => ?_⟩
  · rw [li 4, nI_leI (by decide) (by omega)] at c1
    rw [if_neg (by omega), if_neg (by omega)] at hQ
    exact hQ
  · rw [li 4, nI_leI (by decide) (by omega)] at c1
    have h0 : n ≠ 0 := fun q => c (by rw [q]; rfl)
    rw [if_neg h0, if_pos (by omega)] at hQ
    exact hQ
  · rw [if_pos (nI_inj (by omega) (by decide) c)] at hQ
    exact hQ
/-- the child's number; of a low node, the key -/
def chK (n c : Nat) : Nat := if n < 4 then chN n c else clo n c
theorem q_childOf {n c : Nat} (hn : n < 13) {Q : Int32 → Prop} (hQ : Q (nI (chK n c))) : wpX6_childOf (nI n) (nI c) Q := by
  unfold wpX6_childOf
  unfold chK at hQ
  refine ⟨fun q => ⟨fun q1 => ?_, fun q1 => ?_⟩, fun q => ?_⟩
  · rw [li 4, nI_leI (by decide) (by omega)] at q1
    rw [if_neg (by omega)] at hQ
    have e : clo n c = 3 * (n - 4) + c := by unfold clo; rw [kc_low q1]; unfold fk; rw [if_neg (by omega), if_neg (by omega)]; omega
    rw [li 4, nI_sub q1, li 3, nI_mul, nI_add, ← e]
    exact hQ
  · rw [li 4, nI_leI (by decide) (by omega)] at q1
    rw [if_pos (by omega)] at hQ
    have e : chN n c = 1 + 3 * n + c := by unfold chN; omega
    rw [li 3, nI_mul, li 1, nI_add, nI_add, ← e]
    exact hQ
  · have h0 := nI_inj (by omega) (by decide) q
    subst h0
    rw [if_pos (by decide)] at hQ
    have e : chN 0 c = 1 + c := by unfold chN; omega
    rw [li 1, nI_add, ← e]
    exact hQ
/-- where what goes down from a node lies -/
def lvl (n : Nat) : Nat := if n = 0 then 0 else if n < 4 then 96 else 192
theorem q_level {n : Nat} (hn : n < 13) {Q : Int32 → Prop} (hQ : Q (nI (lvl n))) : wpX6_level (nI n) Q := by
  unfold wpX6_level
  unfold lvl at hQ
  refine ⟨fun c => ⟨fun c1 => ?_, fun c1 => ?_⟩, fun c => ?_⟩
  · rw [li 4, nI_leI (by decide) (by omega)] at c1
    rw [if_neg (by omega), if_neg (by omega)] at hQ
    exact hQ
  · rw [li 4, nI_leI (by decide) (by omega)] at c1
    have h0 : n ≠ 0 := fun q => c (by rw [q]; rfl)
    rw [if_neg h0, if_pos (by omega)] at hQ
    exact hQ
  · rw [if_pos (nI_inj (by omega) (by decide) c)] at hQ
    exact hQ
theorem q_applied {s : Stn} (h : sOk s) {v : Option Nat} (hv : vOk v) {Q : Int32 → Prop} (hQ : Q (encV (apl s v))) : wpX6_applied (encV v) (nI (sK s)) (nI (sN s)) Q := by
  have hk := h.1
  have hn := h.2.2.2
  unfold wpX6_applied
  refine ⟨fun c => ⟨fun c1 => ?_, fun c1 => ?_⟩, fun c => ⟨fun c2 => ?_, fun c2 => ?_⟩⟩
  · have hk1 : ¬ sK s = 1 := fun q => c (by rw [q]; rfl)
    have hk0 : ¬ sK s = 0 := fun q => c1 (by rw [q]; rfl)
    unfold apl at hQ
    rw [if_neg hk0, if_neg hk1] at hQ
    exact hQ
  · have hk0 : sK s = 0 := nI_inj (by omega) (by decide) c1
    unfold apl at hQ
    rw [if_pos hk0] at hQ
    exact hQ
  · have hk1 : sK s = 1 := nI_inj (by omega) (by decide) c
    unfold apl at hQ
    rw [if_neg (by omega), if_pos hk1] at hQ
    cases v with
    | none => exact absurd rfl c2
    | some x =>
      have hx := hv x rfl
      rw [encV_some, nI_add, li 1000, nI_rem (by omega) (by decide)]
      exact hQ
  · have hk1 : sK s = 1 := nI_inj (by omega) (by decide) c
    unfold apl at hQ
    rw [if_neg (by omega), if_pos hk1, (encV_m6 hv).mp c2] at hQ
    exact hQ
theorem pl_lt {n i : Nat} (hn : n < 13) (hi : i < 24) : pl n i + 3 < 1333 := by unfold pl; omega
theorem l_stonesOf {n c : Nat} {b : List Stn} (hn : n < 13) (hc : c < 3) (hok : bOk b) (hlen : b.length ≤ 22) {μ : Mem} (hB : BufM (μ 1) n b) {Q : Int32 → Mem → Prop} (hQ : Q (nI (wg n c b)) μ) : ∀ (m i f : Nat), i + m = b.length → m < f → bkX6_stonesOf_18 Q f (nI n) (nI (clo n c)) (nI (wg n c (b.take i))) (nI i) μ
  | 0, _, 0, _, hf => absurd hf (Nat.lt_irrefl 0)
  | 0, i, f + 1, hi', _ => by
    unfold bkX6_stonesOf_18
    rw [li 72, nI_add, nI_clamp (by omega), hB.1]
    refine ⟨vinI (by omega) (by decide), fun _ => ?_, fun q => absurd (nI_le (by omega) (by omega)) q⟩
    rw [List.take_of_length_le (by omega)]
    exact hQ
  | m + 1, _, 0, _, hf => absurd hf (Nat.not_lt_zero _)
  | m + 1, i, f + 1, hi', hf => by
    have hlo := clo_le n hn c (by omega)
    have hhi := chi_lt n hn c hc
    unfold bkX6_stonesOf_18
    rw [li 72, nI_add, nI_clamp (by omega), hB.1]
    refine ⟨vinI (by omega) (by decide), fun q => absurd q (nI_ge (by omega) (by omega)), fun _ => q_place (q_part hn ?_)⟩
    have hg := getD_of (b := b) (i := i) (by omega)
    have e : nI (clo n c) + nI (kc n) - ((1 : Int32)) = nI (chi n c) := by
      have := kc_pos n
      rw [nI_add, li 1, nI_sub (by omega)]
      rfl
    rw [e]
    refine q_has (bOk_at hok hg) (pl_lt hn (by omega)) (by omega) (by omega) (hB.2 i _ hg) ?_
    have hw := wgt_take (clo n c) (chi n c) b (i := i) (by omega)
    have hwl := wgt_le (clo n c) (chi n c) (b.take i)
    by_cases ht : tou (clo n c) (chi n c) (b.getD i s0) = true
    · rw [if_pos ht] at hw ⊢
      refine ⟨fun q => absurd q (by decide), fun _ => ?_⟩
      rintro _ rfl _ rfl
      rw [nI_1, nI_1]
      have h := l_stonesOf hn hc hok hlen hB hQ m (i + 1) f (by omega) (by omega)
      unfold wg at h ⊢
      rw [hw] at h
      exact h
    · rw [if_neg ht] at hw ⊢
      refine ⟨fun _ => ?_, fun q => absurd rfl q⟩
      rintro _ rfl _ rfl
      rw [nI_1, Int32.add_zero]
      have h := l_stonesOf hn hc hok hlen hB hQ m (i + 1) f (by omega) (by omega)
      unfold wg at h ⊢
      rw [hw, Nat.add_zero] at h
      exact h
theorem q_stonesOf {n c : Nat} {b : List Stn} (hn : n < 13) (hc : c < 3) (hok : bOk b) (hlen : b.length ≤ 22) {μ : Mem} (hB : BufM (μ 1) n b) {Q : Int32 → Mem → Prop} (hQ : Q (nI (wg n c b)) μ) : wpX6_stonesOf (nI n) (nI c) μ Q := by
  unfold wpX6_stonesOf
  refine q_firstOf hn (q_part hn ?_)
  rintro _ rfl
  rw [nI_mul, nI_add]
  exact ⟨b.length + 1, l_stonesOf hn hc hok hlen hB hQ b.length 0 _ (by omega) (by omega)⟩
theorem q_chosen {n : Nat} {b : List Stn} (hn : n < 13) (hok : bOk b) (hlen : b.length ≤ 22) {μ : Mem} (hB : BufM (μ 1) n b) {Q : Int32 → Mem → Prop} (hQ : Q (nI (heav n b)) μ) : wpX6_chosen (nI n) μ Q := by
  have wl : ∀ c, wg n c b ≤ 22 := fun c => Nat.le_trans (wgt_le _ _ b) hlen
  have cmp : ∀ c e, nI (wg n c b) ≤ nI (wg n e b) ↔ ¬ wg n e b < wg n c b := fun c e => by
    have h1 := wl c
    have h2 := wl e
    rw [nI_leI (by omega) (by omega)]
    omega
  unfold heav at hQ
  unfold wpX6_chosen
  refine ⟨3, ?_⟩
  unfold bkX6_chosen_4
  refine ⟨fun q => absurd q (by decide), fun _ => q_stonesOf (c := 1) hn (by decide) hok hlen hB (q_stonesOf (c := 0) hn (by decide) hok hlen hB ⟨fun q => ?_, fun q => ?_⟩)⟩
  · rintro _ rfl
    rw [cmp] at q
    rw [if_neg q] at hQ
    unfold bkX6_chosen_4
    refine ⟨fun z => absurd z (by decide), fun _ => q_stonesOf (c := 2) hn (by decide) hok hlen hB (q_stonesOf (c := 0) hn (by decide) hok hlen hB ⟨fun z => ?_, fun z => ?_⟩)⟩
    · rintro _ rfl
      rw [cmp] at z
      rw [if_neg z] at hQ
      unfold bkX6_chosen_4
      exact ⟨fun _ => hQ, fun z => absurd (by decide) z⟩
    · rintro _ rfl
      rw [cmp, Decidable.not_not] at z
      rw [if_pos z] at hQ
      unfold bkX6_chosen_4
      exact ⟨fun _ => hQ, fun z => absurd (by decide) z⟩
  · rintro _ rfl
    rw [cmp, Decidable.not_not] at q
    rw [if_pos q] at hQ
    unfold bkX6_chosen_4
    refine ⟨fun z => absurd z (by decide), fun _ => q_stonesOf (c := 2) hn (by decide) hok hlen hB (q_stonesOf (c := 1) hn (by decide) hok hlen hB ⟨fun z => ?_, fun z => ?_⟩)⟩
    · rintro _ rfl
      rw [cmp] at z
      rw [if_neg z] at hQ
      unfold bkX6_chosen_4
      exact ⟨fun _ => hQ, fun z => absurd (by decide) z⟩
    · rintro _ rfl
      rw [cmp, Decidable.not_not] at z
      rw [if_pos z] at hQ
      unfold bkX6_chosen_4
      exact ⟨fun _ => hQ, fun z => absurd (by decide) z⟩
