/-! the whole: the tree, the past (the latest first), what is saved, the characters of the pad -/
def chK (n c : Nat) : Nat := if n < 4 then chN n c else clo n c
abbrev FS : Type := TS × List TS × (Nat → Option TS) × List Nat
/-- a number below m -/
def idx (m : Nat) (a : Int32) : Option Nat := if a < 0 then none else if a < nI m then some a.toNatClampNeg else none
theorem idx_some {m k : Nat} {a : Int32} (hm : m < 2 ^ 31) (h : idx m a = some k) : a = nI k ∧ k < m := by
  unfold idx at h
  by_cases h0 : a < 0
  · rw [if_pos h0] at h; cases h
  · rw [if_neg h0] at h
    obtain ⟨j, hj, rfl⟩ := nI_of h0
    by_cases h1 : nI j < nI m
    · rw [if_pos h1] at h
      cases h
      rw [nI_clamp hj]
      exact ⟨rfl, (nI_ltI hj hm).mp h1⟩
    · rw [if_neg h1] at h; cases h
theorem idx_none {m : Nat} {a : Int32} (hm : m < 2 ^ 31) (h : idx m a = none) : a < 0 ∨ (¬ a < 0 ∧ ∃ j, j < 2 ^ 31 ∧ m ≤ j ∧ a = nI j) := by
  unfold idx at h
  by_cases h0 : a < 0
  · exact Or.inl h0
  · rw [if_neg h0] at h
    obtain ⟨j, hj, rfl⟩ := nI_of h0
    by_cases h1 : nI j < nI m
    · rw [if_pos h1] at h; cases h
    · exact Or.inr ⟨h0, j, hj, Nat.not_lt.mp (fun q => h1 ((nI_ltI hj hm).mpr q)), rfl⟩
theorem idx_nI {m k : Nat} (hm : m < 2 ^ 31) (hk : k < m) : idx m (nI k) = some k := by
  unfold idx
  rw [if_neg (nI_pos (by omega)), if_pos (nI_lt hk hm), nI_clamp (by omega)]
/-- nothing below m is it -/
theorem idx_ne {m k : Nat} {a : Int32} (hm : m < 2 ^ 31) (hk : k < m) (h : idx m a = none) : ¬ a = nI k := fun e => by
  rw [e, idx_nI hm hk] at h
  cases h
def fGo (F : FS) (t : TS) : FS := (t, (F.1 :: F.2.1).take 6, F.2.2)
abbrev sWT (F : FS) : WT := F.1.2.2.2.2
def sC (s : Stn) (j : Nat) : Nat := if j = 0 then sK s else if j = 1 then sF s else if j = 2 then sL s else sN s
def fSet (a b : Int32) (F : FS) : Int32 × FS := match idx 2 a with
  | none => (-2, F)
  | some s => if s = 0 then (match idx 11 b with
      | none => (-2, F)
      | some v => if v = 0 then (-2, F) else (nI F.1.1, fGo F (v, F.1.2)))
    else (match idx 2 b with
      | none => (-2, F)
      | some v => (nI F.1.2.1, fGo F (F.1.1, v, F.1.2.2)))
def fSend (k a b n : Int32) (F : FS) : Int32 × FS := match idx 3 k with
  | none => (-2, F)
  | some K => match idx (if K = 2 then 1 else 1000) n with
    | none => (-2, F)
    | some N => match idx 27 a with
      | none => (-1, F)
      | some f => match idx 27 b with
        | none => (-1, F)
        | some l => if l < f then (-1, F) else if K ≠ 1 ∧ l ≠ f then (-1, F) else (allSt (comeR F.1.1 F.1.2.1 (K, f, l, N) (sWT F)), fGo F (dropT (K, f, l, N) F.1))
def setW (t : TS) (w : WT) : TS := (t.1, t.2.1, t.2.2.1, t.2.2.2.1, w)
def fEmpty (n : Int32) (F : FS) : Int32 × FS := match idx 13 n with
  | none => (-1, F)
  | some n => (allSt (empN F.1.1 F.1.2.1 n (sWT F)), fGo F (setW F.1 (empN F.1.1 F.1.2.1 n (sWT F))))
def fRead (k : Int32) (F : FS) : Int32 × FS := match idx 27 k with
  | none => (-1, F)
  | some k => (encV (rdK (sWT F) k), fGo F (F.1.1, F.1.2.1, F.1.2.2.1, F.1.2.2.2.1 + 3, sWT F))
def fStone (n p w : Int32) (F : FS) : Int32 := match idx 13 n with
  | none => -1
  | some n => match idx ((sWT F).1 n).1.length p with
    | none => -1
    | some p => match idx 4 w with
      | none => -2
      | some j => nI (sC (((sWT F).1 n).1.getD p s0) j)
def fNode (n w : Int32) (F : FS) : Int32 := match idx 13 n with
  | none => -1
  | some n => match idx 6 w with
    | none => -2
    | some j => if j = 0 then nI ((sWT F).1 n).1.length else if j = 1 then nI (fk n) else if j = 2 then nI (lk n) else if j = 3 then ((sWT F).1 n).2.1 else if j = 4 then ((sWT F).1 n).2.2.1 else ((sWT F).1 n).2.2.2
def fKey (k w : Int32) (F : FS) : Int32 := match idx 27 k with
  | none => -1
  | some k => match idx 4 w with
    | none => -2
    | some j => if j = 0 then encV ((sWT F).2.1 k) else if j = 1 then encV (rdK (sWT F) k) else if j = 2 then nI (wiK (sWT F) k (lowN k) + wiK (sWT F) k (midN k) + wiK (sWT F) k 0) else deepK (sWT F) k
def preK (w : WT) : Int32 := sumN (fun k => if rdK w k = none then 0 else 1) 27
def fCount (w : Int32) (F : FS) : Int32 := match idx 10 w with
  | none => -2
  | some j => if j = 0 then allSt (sWT F) else if j = 1 then F.1.2.2.1 else if j = 2 then allSk (sWT F) else if j = 3 then (sWT F).2.2 else if j = 4 then F.1.2.2.2.1 else if j = 5 then preK (sWT F) else if j = 6 then nI F.2.2.2.length else if j = 7 then nI F.2.1.length else if j = 8 then nI F.1.1 else nI F.1.2.1
def fSum (a b : Int32) (F : FS) : Int32 := match idx 27 a with
  | none => -1
  | some f => match idx 27 b with
    | none => -1
    | some l => if l < f then -1 else sumV (sWT F) f (l + 1 - f)
def fHeavy (n : Int32) (F : FS) : Int32 := match idx 13 n with
  | none => -1
  | some n => if ((sWT F).1 n).1 = [] then -6 else nI (chK n (heav n ((sWT F).1 n).1))
def fSame (a b : Int32) (F : FS) : Int32 := match idx 27 a with
  | none => -1
  | some f => match idx 27 b with
    | none => -1
    | some l => if rdK (sWT F) f = rdK (sWT F) l then 1 else 0
def sunk (t : TS) (k : Nat) : Int32 := allSk (dropT (0, k, k, 0) t).2.2.2.2 - allSk t.2.2.2.2
def fWould (k : Int32) (F : FS) : Int32 := match idx 27 k with
  | none => -1
  | some k => sunk F.1 k
/-- the worst of the first n keys, and how many -/
def worst (t : TS) : Nat → Nat × Int32
  | 0 => (0, sunk t 0)
  | n + 1 => if sunk t n ≤ (worst t n).2 then worst t n else (n, sunk t n)
def fWorst (w : Int32) (F : FS) : Int32 := match idx 2 w with
  | none => -2
  | some j => if j = 0 then nI (worst F.1 27).1 else (worst F.1 27).2
def empA (B d : Nat) (w : WT) : Nat → WT
  | 0 => w
  | n + 1 => empN B d n (empA B d w n)
def fToE (F : FS) : Int32 := allSk (empA F.1.1 F.1.2.1 (sWT F) 13) - allSk (sWT F)
def fWipe (F : FS) : Int32 × FS := (nI F.2.2.2.length, F.1, F.2.1, F.2.2.1, [])
def fUndo (F : FS) : Int32 × FS := match F.2.1 with
  | [] => (-5, F)
  | t :: hs => (nI hs.length, t, hs, F.2.2)
def fSave (s : Int32) (F : FS) : Int32 × FS := match idx 2 s with
  | none => (-2, F)
  | some i => (allSt (sWT F), F.1, F.2.1, up F.2.2.1 i (some F.1), F.2.2.2)
def fRest (s : Int32) (F : FS) : Int32 × FS := match idx 2 s with
  | none => (-2, F)
  | some i => match F.2.2.1 i with
    | none => (-5, F)
    | some t => (allSt t.2.2.2.2, fGo F t)
/-- what it keeps -/
def FOk (F : FS) : Prop := TOk F.1 ∧ (∀ t ∈ F.2.1, TOk t) ∧ (∀ i t, F.2.2.1 i = some t → TOk t) ∧ F.2.1.length ≤ 6 ∧ F.2.2.2.length ≤ 60 ∧ ∀ c ∈ F.2.2.2, 33 ≤ c ∧ c ≤ 126
theorem fGo_ok {F : FS} {t : TS} (h : FOk F) (ht : TOk t) : FOk (fGo F t) := by
  obtain ⟨h1, h2, h3, h4, h5, h6⟩ := h
  refine ⟨ht, fun u hu => ?_, h3, ?_, h5, h6⟩
  · have := List.mem_of_mem_take hu
    rcases List.mem_cons.mp this with e | e
    · rw [e]; exact h1
    · exact h2 u e
  · show ((F.1 :: F.2.1).take 6).length ≤ 6
    rw [List.length_take]
    omega
theorem setW_ok {t : TS} {w : WT} (h : TOk t) (hw : WOk w) : TOk (setW t w) := ⟨h.1, h.2.1, h.2.2.1, hw⟩
theorem empA_ok {B d : Nat} (hB : B ≤ 10) {w : WT} (h : WOk w) : ∀ n, n ≤ 13 → WOk (empA B d w n)
  | 0, _ => h
  | n + 1, hn => (empN_ok (by omega) hB (empA_ok hB h n (by omega))).1
theorem fSet_ok {a b : Int32} {F : FS} (h : FOk F) : FOk (fSet a b F).2 := by
  unfold fSet
  split
  · exact h
  · split
    · split
      · exact h
      · rename_i v hv
        split
        · exact h
        · have := idx_some (by decide) hv
          exact fGo_ok h ⟨by omega, by show v ≤ 10; omega, h.1.2.2⟩
    · split
      · exact h
      · rename_i v hv
        have := idx_some (by decide) hv
        exact fGo_ok h ⟨h.1.1, h.1.2.1, this.2, h.1.2.2.2⟩
theorem sOk_mk {K f l N : Nat} (hK : K < 3) (hfl : f ≤ l) (hl : l < 27) (hN : N < 1000) : sOk (K, f, l, N) := ⟨hK, hfl, hl, hN⟩
theorem fSend_ok {k a b n : Int32} {F : FS} (h : FOk F) : FOk (fSend k a b n F).2 := by
  unfold fSend
  split
  · exact h
  · rename_i K hK
    split
    · exact h
    · rename_i N hN
      split
      · exact h
      · rename_i f hf
        split
        · exact h
        · rename_i l hl
          split
          · exact h
          · split
            · exact h
            · have h1 := idx_some (by decide) hK
              have h2 := idx_some (by split <;> decide) hN
              have h3 := idx_some (by decide) hf
              have h4 := idx_some (by decide) hl
              refine fGo_ok h (dropT_ok (sOk_mk h1.2 (by omega) h4.2 ?_) h.1)
              have := h2.2
              split at this <;> omega
theorem fEmpty_ok {n : Int32} {F : FS} (h : FOk F) : FOk (fEmpty n F).2 := by
  unfold fEmpty
  split
  · exact h
  · rename_i n hn
    exact fGo_ok h (setW_ok h.1 (empN_ok (idx_some (by decide) hn).2 h.1.2.1 h.1.2.2.2).1)
theorem fRead_ok {k : Int32} {F : FS} (h : FOk F) : FOk (fRead k F).2 := by
  unfold fRead
  split
  · exact h
  · exact fGo_ok h ⟨h.1.1, h.1.2.1, h.1.2.2.1, h.1.2.2.2⟩
theorem fWipe_ok {F : FS} (h : FOk F) : FOk (fWipe F).2 := ⟨h.1, h.2.1, h.2.2.1, h.2.2.2.1, Nat.zero_le _, fun c hc => by cases hc⟩
theorem fUndo_ok {F : FS} (h : FOk F) : FOk (fUndo F).2 := by
  unfold fUndo
  split
  · exact h
  · rename_i t hs e
    obtain ⟨h1, h2, h3, h4, h5⟩ := h
    rw [e] at h2 h4
    rw [List.length_cons] at h4
    exact ⟨h2 t (List.mem_cons_self ..), fun u hu => h2 u (List.mem_cons_of_mem _ hu), h3, by show hs.length ≤ 6; omega, h5⟩
theorem fSave_ok {s : Int32} {F : FS} (h : FOk F) : FOk (fSave s F).2 := by
  unfold fSave
  split
  · exact h
  · rename_i i hi
    obtain ⟨h1, h2, h3, h4, h5⟩ := h
    refine ⟨h1, h2, fun j t hj => ?_, h4, h5⟩
    have hj' : up F.2.2.1 i (some F.1) j = some t := hj
    by_cases e : j = i
    · rw [e, up_same] at hj'
      cases hj'
      exact h1
    · rw [up_ne _ _ e] at hj'
      exact h3 j t hj'
theorem fRest_ok {s : Int32} {F : FS} (h : FOk F) : FOk (fRest s F).2 := by
  unfold fRest
  split
  · exact h
  · split
    · exact h
    · rename_i t ht
      exact fGo_ok h (h.2.2.1 _ t ht)
/-! the class's whole -/
def SlotX (μ : Mem) (i : Nat) : Option TS → Prop
  | none => μ 84 i = 0
  | some t => μ 84 i = 1 ∧ RepT (fun k => μ (68 + 8 * i + k)) t
def PadX (p0 : Int32) (p1 : Nat → Int32) (cs : List Nat) : Prop := p0 = nI cs.length ∧ ∀ i c, cs[i]? = some c → p1 i = nI c
def RepF (μ : Mem) (F : FS) : Prop := RepT (fun k => μ (1 + k)) F.1 ∧ RepH (fun k => μ (17 + k)) F.2.1 ∧ (∀ i, i < 2 → SlotX μ i (F.2.2.1 i)) ∧ PadX (μ 85 0) (μ 86) F.2.2.2
theorem RepH_congr {h h' : Mem} {hs : List TS} (e : ∀ k, k < 50 → h' k = h k) (hH : RepH h hs) : RepH h' hs := by
  obtain ⟨h6, nx, hnx, g1, g2, g3⟩ := hH
  refine ⟨h6, nx, hnx, by rw [e 0 (by decide)]; exact g1, by rw [e 0 (by decide)]; exact g2, fun j t hj => RepT_congr (fun k hk => e _ ?_) (g3 j t hj)⟩
  omega
theorem SlotX_congr {μ μ' : Mem} {i : Nat} (hi : i < 2) {o : Option TS} (e : ∀ k, 68 ≤ k → k < 85 → μ' k = μ k) (h : SlotX μ i o) : SlotX μ' i o := by
  cases o with
  | none =>
    show μ' 84 i = 0
    rw [e 84 (by decide) (by decide)]
    exact h
  | some t =>
    refine ⟨?_, RepT_congr (fun k hk => e _ (by omega) (by omega)) h.2⟩
    rw [e 84 (by decide) (by decide)]
    exact h.1
/-- all but the tree and the trial tree stay -/
theorem RepF_tree {μ μ' : Mem} {F : FS} {t : TS} (h : RepF μ F) (e : ∀ k, 17 ≤ k → μ' k = μ k) (hR : RepT (fun k => μ' (1 + k)) t) : RepF μ' (t, F.2) := by
  refine ⟨hR, RepH_congr (fun k _ => e _ (by omega)) h.2.1, fun i hi => SlotX_congr hi (fun k h1 _ => e k (by omega)) (h.2.2.1 i hi), ?_⟩
  rw [e 85 (by decide), e 86 (by decide)]
  exact h.2.2.2
theorem gl_tree {μ τ : Mem} (k : Nat) : glue (e1 1) 8 μ τ (1 + k) = if k < 8 then τ k else μ (1 + k) := by
  rw [glue_e1]
  by_cases h : k < 8
  · rw [if_pos (by omega), if_pos h, Nat.add_sub_cancel_left]
  · rw [if_neg (by omega), if_neg h]
/-- the tree changed -/
theorem RepF_glue {μ τ : Mem} {F : FS} {t : TS} (h : RepF μ F) (hR : RepT τ t) : RepF (glue (e1 1) 8 μ τ) (t, F.2) := by
  refine RepF_tree h (fun k hk => ?_) (RepT_congr (fun k hk => ?_) hR)
  · rw [glue_e1, if_neg (by omega)]
  · show glue (e1 1) 8 μ τ (1 + k) = τ k
    rw [gl_tree, if_pos hk]
theorem x_tree {μ : Mem} {F : FS} (h : RepF μ F) : RepT (fun k => μ (e1 1 k)) F.1 := h.1
theorem x_record2 {μ : Mem} {F : FS} (hF : RepF μ F) (hok : FOk F) {Q : Mem → Prop} (hQ : ∀ μ', RepF μ' (fGo F F.1) → (∀ k, 67 ≤ k → μ' k = μ k) → Q μ') : wpX0_record (fun k => μ (e2 50 17 1 k)) (fun μ3 => ∀ μ4 : Mem, μ4 = glue (e2 50 17 1) 58 μ μ3 → Q μ4) := by
  have hl := WOk_len hok.1.2.2.2
  refine r_record (hs := F.2.1) (t := F.1) hl (RepH_congr (fun k hk => ?_) hF.2.1) (RepT_congr (fun k hk => ?_) hF.1) (fun μ3 hH hk50 => ?_)
  · show μ (e2 50 17 1 k) = μ (17 + k)
    unfold e2
    rw [if_pos hk]
  · show μ (e2 50 17 1 (50 + k)) = μ (1 + k)
    unfold e2
    rw [if_neg (by omega), Nat.add_sub_cancel_left]
  · rintro _ rfl
    have G : ∀ k, glue (e2 50 17 1) 58 μ μ3 k = if 17 ≤ k ∧ k < 67 then μ3 (k - 17) else μ k := fun k => by
      rw [show (58 : Nat) = 50 + 8 from rfl, glue_e2 (Or.inr (by decide))]
      by_cases h1 : 17 ≤ k ∧ k < 17 + 50
      · rw [if_pos h1, if_pos (by omega)]
      · rw [if_neg h1, if_neg (show ¬ (17 ≤ k ∧ k < 67) by omega)]
        by_cases h2 : 1 ≤ k ∧ k < 1 + 8
        · rw [if_pos h2, hk50 _ (by omega)]
          show μ (e2 50 17 1 (k - 1 + 50)) = μ k
          unfold e2
          rw [if_neg (by omega)]
          congr 1
          omega
        · rw [if_neg h2]
    refine hQ _ ⟨RepT_congr (fun k hk => ?_) hF.1, RepH_congr (fun k hk => ?_) hH, fun i hi => SlotX_congr hi (fun k h1 h2 => ?_) (hF.2.2.1 i hi), ?_⟩ (fun k hk => by rw [G, if_neg (by omega)])
    · show glue (e2 50 17 1) 58 μ μ3 (1 + k) = μ (1 + k)
      rw [G, if_neg (by omega)]
    · show glue (e2 50 17 1) 58 μ μ3 (17 + k) = μ3 k
      rw [G, if_pos (by omega), Nat.add_sub_cancel_left]
    · rw [G, if_neg (by omega)]
    · rw [G, G, if_neg (by omega), if_neg (by omega)]
      exact hF.2.2.2
theorem x_record {μ : Mem} {F : FS} (hF : RepF μ F) (hok : FOk F) {Q : Mem → Prop} (hQ : ∀ μ', RepF μ' (fGo F F.1) → Q μ') : wpX0_record (fun k => μ (e2 50 17 1 k)) (fun μ3 => ∀ μ4 : Mem, μ4 = glue (e2 50 17 1) 58 μ μ3 → Q μ4) := x_record2 hF hok (fun μ' h _ => hQ μ' h)
