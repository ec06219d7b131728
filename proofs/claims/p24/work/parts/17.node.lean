/-! nodes and the tree in the class's rows -/
def NodeX (τ : Mem) (n : Nat) (x : NS) : Prop := BufX τ n x.1 ∧ τ 5 n = x.2.1 ∧ τ 6 n = x.2.2.1 ∧ τ 7 n = x.2.2.2
/-- the places of node n -/
def inX (n k j : Nat) : Prop := (k = 3 ∧ j = n) ∨ (k = 4 ∧ n * 22 ≤ j ∧ j < n * 22 + 22) ∨ (k = 5 ∧ j = n) ∨ (k = 6 ∧ j = n) ∨ (k = 7 ∧ j = n)
def RepW (τ : Mem) (w : WT) : Prop := (∀ n, n < 13 → NodeX τ n (w.1 n)) ∧ (∀ k, k < 27 → τ 2 k = encV (w.2.1 k)) ∧ τ 0 1 = w.2.2
/-- a state of the tree: buffer size, doubles, stones sent, buffers looked at, the nodes -/
abbrev TS : Type := Nat × Nat × Int32 × Int32 × WT
def RepT (τ : Mem) (t : TS) : Prop := τ 1 0 = nI t.1 ∧ τ 1 1 = nI t.2.1 ∧ τ 0 0 = t.2.2.1 ∧ τ 0 2 = t.2.2.2.1 ∧ RepW τ t.2.2.2.2
/-- the settings as they are -/
def SetX (τ : Mem) (B d : Nat) : Prop := τ 1 0 = nI B ∧ τ 1 1 = nI d
/-- places that a come or a sinking leaves alone -/
def keepX (τ τ' : Mem) : Prop := (∀ j, τ' 1 j = τ 1 j) ∧ τ' 0 0 = τ 0 0 ∧ τ' 0 2 = τ 0 2
theorem keepX_refl (τ : Mem) : keepX τ τ := ⟨fun _ => rfl, rfl, rfl⟩
theorem keepX_trans {a b c : Mem} (h1 : keepX a b) (h2 : keepX b c) : keepX a c := ⟨fun j => (h2.1 j).trans (h1.1 j), h2.2.1.trans h1.2.1, h2.2.2.trans h1.2.2⟩
theorem NodeX_congr {τ τ' : Mem} {n : Nat} {x : NS} (hlen : x.1.length ≤ 22) (h : ∀ k j, inX n k j → τ' k j = τ k j) (hx : NodeX τ n x) : NodeX τ' n x := by
  obtain ⟨⟨h1, h2⟩, h3, h4, h5⟩ := hx
  refine ⟨⟨(h 3 n (Or.inl ⟨rfl, rfl⟩)).trans h1, fun i s hi => ?_⟩, (h 5 n (Or.inr (Or.inr (Or.inl ⟨rfl, rfl⟩)))).trans h3, (h 6 n (Or.inr (Or.inr (Or.inr (Or.inl ⟨rfl, rfl⟩))))).trans h4, (h 7 n (Or.inr (Or.inr (Or.inr (Or.inr ⟨rfl, rfl⟩))))).trans h5⟩
  have := getE_lt hi
  exact (h 4 (n * 22 + i) (Or.inr (Or.inl ⟨rfl, by omega, by omega⟩))).trans (h2 i s hi)
/-- two nodes' places don't meet -/
theorem inX_ne {n m k j : Nat} (hnm : n ≠ m) (h : inX n k j) : ¬ inX m k j := by
  unfold inX at *
  omega
/-- node n alone has changed -/
def offN (n : Nat) (τ τ' : Mem) : Prop := ∀ k j, inX n k j ∨ τ' k j = τ k j
theorem offB_N {n : Nat} {τ τ' : Mem} (h : offB n τ τ') : offN n τ τ' := fun k j => by
  rcases h k j with h | h | h
  · exact Or.inl (Or.inl h)
  · exact Or.inl (Or.inr (Or.inl h))
  · exact Or.inr h
theorem offN_trans {n : Nat} {a b c : Mem} (h1 : offN n a b) (h2 : offN n b c) : offN n a c := fun k j => by
  rcases h1 k j with h | h
  · exact Or.inl h
  · rcases h2 k j with g | g
    · exact Or.inl g
    · exact Or.inr (g.trans h)
theorem offN_keep {n : Nat} {τ τ' : Mem} (h : offN n τ τ') : keepX τ τ' := by
  refine ⟨fun j => ?_, ?_, ?_⟩
  · rcases h 1 j with h | h
    · unfold inX at h; omega
    · exact h
  · rcases h 0 0 with h | h
    · unfold inX at h; omega
    · exact h
  · rcases h 0 2 with h | h
    · unfold inX at h; omega
    · exact h
/-- lengths -/
def lenW (w : WT) : Prop := ∀ n, n < 13 → (w.1 n).1.length ≤ 22
theorem RepW_set {n : Nat} (hn : n < 13) {τ τ' : Mem} {w : WT} {x : NS} (hl : lenW w) (hw : RepW τ w) (ho : offN n τ τ') (hx : NodeX τ' n x) : RepW τ' (setN n x w) := by
  refine ⟨fun m hm => ?_, fun k hk => ?_, ?_⟩
  · by_cases h : m = n
    · subst h
      rw [setN_at]
      exact hx
    · rw [setN_ne x w h]
      refine NodeX_congr (hl m hm) (fun k j hkj => ?_) (hw.1 m hm)
      rcases ho k j with g | g
      · exact absurd g (inX_ne h hkj)
      · exact g
  · rcases ho 2 k with g | g
    · unfold inX at g; omega
    · rw [g]
      exact hw.2.1 k hk
  · rcases ho 0 1 with g | g
    · unfold inX at g; omega
    · rw [g]
      exact hw.2.2
/-- a buffer changes, the counts of its node stay -/
theorem NodeX_buf {n : Nat} {τ τ' : Mem} {x : NS} {b : List Stn} (hx : NodeX τ n x) (ho : offB n τ τ') (hb : BufX τ' n b) : NodeX τ' n (b, x.2) := by
  obtain ⟨-, h3, h4, h5⟩ := hx
  have q : ∀ k, k = 5 ∨ k = 6 ∨ k = 7 → τ' k n = τ k n := fun k hk => by
    rcases ho k n with g | g | g
    · omega
    · omega
    · exact g
  exact ⟨hb, (q 5 (by omega)).trans h3, (q 6 (by omega)).trans h4, (q 7 (by omega)).trans h5⟩
theorem append_eraseIdx {α : Type} (b : List α) (s : α) {i : Nat} (h : i < b.length) : (b ++ [s]).eraseIdx i = b.eraseIdx i ++ [s] := List.eraseIdx_append_of_lt_length h [s]
theorem split_at {b : List Stn} {i : Nat} (h : i < b.length) : b = b.take i ++ b.getD i s0 :: b.drop (i + 1) := by
  have e : b.getD i s0 = b[i] := by rw [List.getD_eq_getElem?_getD, List.getElem?_eq_getElem h]; rfl
  rw [e]
  have e2 : b.drop i = b[i] :: b.drop (i + 1) := List.drop_eq_getElem_cons h
  rw [← e2, List.take_append_drop]
theorem erase_at {b : List Stn} {i : Nat} : b.eraseIdx i = b.take i ++ b.drop (i + 1) := List.eraseIdx_eq_take_drop_succ b i
/-- behind the new stone's coming: doubles become one -/
theorem r_joinLast {n : Nat} {b : List Stn} {s : Stn} (hn : n < 13) (hok : bOk b) (hs : sOk s) (hlen : b.length < 22) {μ : Mem} {x : Int32 × Int32 × Int32} (hx : NodeX μ n (b ++ [s], x)) {Q : Mem → Prop}
    (hQ : ∀ μ', NodeX μ' n (putN 1 (b, x) s) → offN n μ μ' → Q μ') : wpX4_joinLast (nI n) μ Q := by
  have hB : BufX μ n (b ++ [s]) := hx.1
  have hok2 : bOk (b ++ [s]) := fun z hz => by
    rcases List.mem_append.mp hz with h | h
    · exact hok z h
    · rw [List.mem_singleton.mp h]; exact hs
  have hl2 : (b ++ [s]).length = b.length + 1 := by rw [List.length_append]; rfl
  have hF : sF s < 27 := Nat.lt_of_le_of_lt hs.2.1 hs.2.2.1
  have hsl : (b ++ [s])[b.length]? = some s := by rw [ap_r (Nat.le_refl _), Nat.sub_self]; rfl
  unfold wpX4_joinLast
  refine r_stonesIn hn ?_
  rintro _ rfl
  rw [hB.1, hl2, li 1, nI_sub (by omega), Nat.add_sub_cancel]
  refine r_stoneAtL hn hB hsl (by omega) (r_isOfOneKey hs ?_)
  by_cases h1 : sF s = sL s
  · rw [if_pos h1]
    refine ⟨fun _ => r_first hs ?_, fun c => absurd c (by decide)⟩
    refine r_lastPlace hn (by omega) hok2 (by omega) hB (by omega) (fun hw => ⟨fun _ => ?_, fun c => absurd (by decide) c⟩) (fun i hw => ⟨fun c => ?_, fun _ => ?_⟩)
    · rw [lw_app (Nat.le_refl _)] at hw
      refine hQ μ ?_ (offB_N (offB_refl n μ))
      unfold putN joi
      rw [if_pos rfl, if_pos h1, hw]
      exact hx
    · have := lw_lt hw
      exact absurd c (nI_pos (by omega))
    · rw [lw_app (Nat.le_refl _)] at hw
      have hi := lw_lt hw
      have hg : (b ++ [s])[i]? = some (b.getD i s0) := by rw [ap_l hi]; exact getD_of hi
      have ho := bOk_at hok2 hg
      refine r_stoneAtL hn hB hg (by omega) (r_isOfOneKey ho ?_)
      by_cases h2 : sF (b.getD i s0) = sL (b.getD i s0)
      · rw [if_pos h2]
        refine ⟨fun _ => r_kind hs ⟨fun hk => ?_, fun hk => ?_⟩, fun c => absurd c (by decide)⟩
        · have hk1 : ¬ sK s = 1 := fun q => hk (by rw [q])
          have hput : putN 1 (b, x) s = (b.eraseIdx i ++ [s], x.1, x.2.1, x.2.2 + 1) := by
            unfold putN joi
            rw [if_pos rfl, if_pos h1, hw]
            simp only
            rw [if_pos h2, if_neg hk1]
          have hsp : b ++ [s] = b.take i ++ b.getD i s0 :: (b.drop (i + 1) ++ [s]) := by
            conv => lhs; rw [split_at hi]
            simp
          have htl : (b.take i).length = i := by rw [List.length_take]; omega
          rw [hsp] at hB
          have e1 : nI i = nI (b.take i).length := by rw [htl]
          rw [e1]
          refine r_takeOutL hn hB (by rw [← hsp]; omega) (fun μ' hB' hoff => ?_)
          unfold bkX4_joinLast_99
          refine r_addTo hn (by decide) ?_
          have hN := NodeX_buf hx hoff hB'
          obtain ⟨g1, g2, g3, g4⟩ := hN
          refine hQ _ ?_ (offN_trans (offB_N hoff) (fun k j => ?_))
          · rw [hput]
            refine ⟨⟨?_, fun a z ha => ?_⟩, ?_, ?_, ?_⟩
            · rw [ms_cell _ _ _ (by decide), g1.1]
              simp only [List.length_append, erase_at]
              rw [Nat.add_assoc]
            · rw [ms_cell _ _ _ (by decide)]
              refine g1.2 a z ?_
              simp only [erase_at, List.append_assoc] at ha
              exact ha
            · rw [ms_cell _ _ _ (by decide)]; exact g2
            · rw [ms_cell _ _ _ (by decide)]; exact g3
            · rw [ms_same, g4]
          · rw [ms_at]
            by_cases hq : k = 7 ∧ j = n
            · exact Or.inl (Or.inr (Or.inr (Or.inr (Or.inr hq))))
            · rw [if_neg hq]; exact Or.inr rfl
        · have hk1 : sK s = 1 := nI_inj (by have := hs.1; omega) (by decide) hk
          have hput : putN 1 (b, x) s = (b.set i (wmo (b.getD i s0) (sN s)), x.1, x.2.1, x.2.2 + 1) := by
            unfold putN joi
            rw [if_pos rfl, if_pos h1, hw]
            simp only
            rw [if_pos h2, if_pos hk1]
          refine r_stoneAtL hn hB hg (by omega) (r_num hs (r_withMore ho hs.2.2.2 ?_))
          refine r_layAtL hn hB (by omega) (by omega) (fun μ1 hB1 hoff1 => ?_)
          have e0 : (b ++ [s]).set i (wmo (b.getD i s0) (sN s)) = b.set i (wmo (b.getD i s0) (sN s)) ++ [s] := List.set_append_left i _ hi
          rw [e0] at hB1
          have e1 : nI b.length = nI (b.set i (wmo (b.getD i s0) (sN s))).length := by rw [List.length_set]
          rw [e1]
          refine r_takeOutL (b2 := []) hn hB1 (by rw [List.length_append, List.length_set]; show b.length + 1 ≤ 22; omega) (fun μ' hB' hoff => ?_)
          unfold bkX4_joinLast_99
          refine r_addTo hn (by decide) ?_
          rw [List.append_nil] at hB'
          have hN := NodeX_buf hx (offB_trans hoff1 hoff) hB'
          obtain ⟨g1, g2, g3, g4⟩ := hN
          refine hQ _ ?_ (offN_trans (offB_N (offB_trans hoff1 hoff)) (fun k j => ?_))
          · rw [hput]
            refine ⟨⟨?_, fun a z ha => ?_⟩, ?_, ?_, ?_⟩
            · rw [ms_cell _ _ _ (by decide)]; exact g1.1
            · rw [ms_cell _ _ _ (by decide)]; exact g1.2 a z ha
            · rw [ms_cell _ _ _ (by decide)]; exact g2
            · rw [ms_cell _ _ _ (by decide)]; exact g3
            · rw [ms_same, g4]
          · rw [ms_at]
            by_cases hq : k = 7 ∧ j = n
            · exact Or.inl (Or.inr (Or.inr (Or.inr (Or.inr hq))))
            · rw [if_neg hq]; exact Or.inr rfl
      · rw [if_neg h2]
        refine ⟨fun c => absurd rfl c, fun _ => hQ μ ?_ (offB_N (offB_refl n μ))⟩
        unfold putN joi
        rw [if_pos rfl, if_pos h1, hw]
        simp only
        rw [if_neg h2]
        exact hx
  · rw [if_neg h1]
    refine ⟨fun c => absurd rfl c, fun _ => hQ μ ?_ (offB_N (offB_refl n μ))⟩
    unfold putN joi
    rw [if_pos rfl, if_neg h1]
    exact hx
