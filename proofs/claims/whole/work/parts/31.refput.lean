/-! the reference: a buffer changes -/
def inB (n j : Nat) : Prop := j = 72 + n ∨ (85 + 96 * n ≤ j ∧ j < 85 + 96 * n + 96)
/-- only node n's places in the row changed -/
def offQ (n : Nat) (μ μ' : Mem) : Prop := ∀ k j, (k = 1 ∧ inM n j) ∨ μ' k j = μ k j
def offBQ (n : Nat) (μ μ' : Mem) : Prop := ∀ k j, (k = 1 ∧ inB n j) ∨ μ' k j = μ k j
theorem inB_M {n j : Nat} (h : inB n j) : inM n j := by
  unfold inB at h
  unfold inM
  omega
theorem offBQ_Q {n : Nat} {μ μ' : Mem} (h : offBQ n μ μ') : offQ n μ μ' := fun k j => by
  rcases h k j with g | g
  · exact Or.inl ⟨g.1, inB_M g.2⟩
  · exact Or.inr g
theorem offQ_refl (n : Nat) (μ : Mem) : offQ n μ μ := fun _ _ => Or.inr rfl
theorem offBQ_refl (n : Nat) (μ : Mem) : offBQ n μ μ := fun _ _ => Or.inr rfl
theorem offQ_trans {n : Nat} {a b c : Mem} (h1 : offQ n a b) (h2 : offQ n b c) : offQ n a c := fun k j => by
  rcases h2 k j with g | g
  · exact Or.inl g
  · rcases h1 k j with g1 | g1
    · exact Or.inl g1
    · exact Or.inr (g.trans g1)
theorem offBQ_trans {n : Nat} {a b c : Mem} (h1 : offBQ n a b) (h2 : offBQ n b c) : offBQ n a c := fun k j => by
  rcases h2 k j with g | g
  · exact Or.inl g
  · rcases h1 k j with g1 | g1
    · exact Or.inl g1
    · exact Or.inr (g.trans g1)
theorem offBQ_set {n : Nat} {μ : Mem} {j : Nat} {v : Int32} (h : inB n j) : offBQ n μ (mset μ 1 j v) := fun k i => by
  rw [ms_at]
  by_cases e : k = 1 ∧ i = j
  · exact Or.inl ⟨e.1, e.2 ▸ h⟩
  · rw [if_neg e]
    exact Or.inr rfl
theorem offQ_set {n : Nat} {μ : Mem} {j : Nat} {v : Int32} (h : inM n j) : offQ n μ (mset μ 1 j v) := fun k i => by
  rw [ms_at]
  by_cases e : k = 1 ∧ i = j
  · exact Or.inl ⟨e.1, e.2 ▸ h⟩
  · rw [if_neg e]
    exact Or.inr rfl
/-- a buffer changes, the counts of its node stay -/
theorem NodeM_buf {n : Nat} {μ μ' : Mem} {x : NS} {b : List Stn} (hn : n < 13) (hx : NodeM (μ 1) n x) (ho : offBQ n μ μ') (hb : BufM (μ' 1) n b) : NodeM (μ' 1) n (b, x.2) := by
  obtain ⟨-, h3, h4, h5⟩ := hx
  have q : ∀ j, 33 ≤ j → j < 72 → μ' 1 j = μ 1 j := fun j h1 h2 => by
    rcases ho 1 j with g | g
    · have := g.2
      unfold inB at this
      omega
    · exact g
  exact ⟨hb, (q _ (by omega) (by omega)).trans h3, (q _ (by omega) (by omega)).trans h4, (q _ (by omega) (by omega)).trans h5⟩
/-- places a to b - 1 get what stood four places behind -/
def shR (μ : Mem) (a b : Nat) : Mem := mput μ 1 (fun q => if a ≤ q ∧ q < b then μ 1 (q + 4) else μ 1 q)
theorem shR_1 (μ : Mem) (a b j : Nat) : shR μ a b 1 j = if a ≤ j ∧ j < b then μ 1 (j + 4) else μ 1 j := by
  unfold shR
  rw [mp_same]
theorem shR_ne (μ : Mem) (a b : Nat) {k : Nat} (h : k ≠ 1) : shR μ a b k = μ k := by
  unfold shR
  rw [mp_cell _ _ h]
theorem shR_0 (μ : Mem) {a b : Nat} (h : b ≤ a) : shR μ a b = μ := by
  funext k q
  by_cases hk : k = 1
  · subst hk
    rw [shR_1, if_neg (by omega)]
  · rw [shR_ne _ _ _ hk]
theorem shR_s (μ : Mem) {a b : Nat} (h : a < b) : shR (mset μ 1 a (μ 1 (a + 4))) (a + 1) b = shR μ a b := by
  funext k q
  by_cases hk : k = 1
  · subst hk
    rw [shR_1, shR_1]
    by_cases h1 : a + 1 ≤ q ∧ q < b
    · rw [if_pos h1, if_pos (by omega), ms_place _ _ _ (by omega)]
    · rw [if_neg h1]
      by_cases h2 : q = a
      · subst h2
        rw [if_pos (by omega), ms_same]
      · rw [if_neg (by omega), ms_place _ _ _ h2]
  · rw [shR_ne _ _ _ hk, shR_ne _ _ _ hk, ms_cell _ _ _ hk]
theorem lq_takeOut {n z : Nat} (hn : n < 13) (hz : z ≤ 22) {Q : Mem → Prop} : ∀ (m f a : Nat) (μ : Mem), a + m = pl n z → pl n 0 ≤ a → m < f → μ 1 (72 + n) = nI z → Q (shR μ a (pl n z)) → bkX6_takeOut_19 Q f (nI n) (nI a) μ
  | _, 0, _, _, _, _, hf, _, _ => absurd hf (Nat.not_lt_zero _)
  | 0, f + 1, a, μ, ha, _, _, hm, hQ => by
    have e : a = pl n z := by omega
    rw [shR_0 _ (by omega)] at hQ
    unfold bkX6_takeOut_19
    rw [li 72, nI_add, nI_clamp (by omega), hm]
    have hpl : pl n z < 2 ^ 31 := by unfold pl; omega
    exact ⟨vinI (by omega) (by decide), q_place ⟨fun _ => hQ, fun q => absurd (nI_le (by omega) (by omega)) q⟩⟩
  | m + 1, f + 1, a, μ, ha, h0, hf, hm, hQ => by
    have hp : pl n z = 85 + 96 * n + 4 * z := rfl
    have hp0 : pl n 0 = 85 + 96 * n + 4 * 0 := rfl
    unfold bkX6_takeOut_19
    rw [li 72, nI_add, nI_clamp (by omega), hm]
    refine ⟨vinI (by omega) (by decide), q_place ⟨fun q => absurd q (nI_ge (by omega) (by omega)), fun _ => ?_⟩⟩
    rw [li 4, nI_add, nI_clamp (by omega), nI_clamp (by omega)]
    refine ⟨vinI (by omega) (by decide), vinI (by omega) (by decide), ?_⟩
    rintro _ rfl _ rfl
    rw [nI_1]
    refine lq_takeOut hn hz m f (a + 1) _ (by omega) (by omega) (by omega) ?_ ?_
    · rw [ms_place _ _ _ (by omega)]
      exact hm
    · rw [shR_s _ (by omega)]
      exact hQ
theorem q_takeOut {n k z : Nat} (hn : n < 13) {μ : Mem} {Q : Mem → Prop} (hm : μ 1 (72 + n) = nI z) (hk : k < z) (hz : z ≤ 22) (hQ : Q (shR (mset μ 1 (72 + n) (nI (z - 1))) (pl n k) (pl n (z - 1)))) : wpX6_takeOut (nI n) (nI k) μ Q := by
  unfold wpX6_takeOut
  rw [li 72, nI_add, nI_clamp (by omega), hm, li 1, nI_sub (by omega)]
  refine ⟨vinI (by omega) (by decide), vinI (by omega) (by decide), ?_⟩
  rintro _ rfl
  refine q_place ⟨4 * (z - 1 - k) + 1, ?_⟩
  exact lq_takeOut (z := z - 1) hn (by omega) (4 * (z - 1 - k)) _ (pl n k) _ (by unfold pl; omega) (by unfold pl; omega) (by omega) (ms_same _ _ _ _) hQ
theorem q_takeOutL {n : Nat} {b1 b2 : List Stn} {s : Stn} (hn : n < 13) {μ : Mem} (hB : BufM (μ 1) n (b1 ++ s :: b2)) (h22 : (b1 ++ s :: b2).length ≤ 22) {Q : Mem → Prop} (hQ : ∀ μ', BufM (μ' 1) n (b1 ++ b2) → offBQ n μ μ' → Q μ') : wpX6_takeOut (nI n) (nI b1.length) μ Q := by
  have hl : (b1 ++ s :: b2).length = b1.length + b2.length + 1 := by rw [List.length_append, List.length_cons]; omega
  have hl2 : (b1 ++ b2).length = b1.length + b2.length := List.length_append
  refine q_takeOut hn hB.1 (by omega) h22 (hQ _ ⟨?_, fun i t hi => ?_⟩ (fun k j => ?_))
  · rw [shR_1, if_neg (by unfold pl; omega), ms_same, hl, hl2]
    rfl
  · have hlt := getE_lt hi
    rcases Nat.lt_or_ge i b1.length with g | g
    · rw [ap_l g] at hi
      refine StM_congr (fun j h1 h2 => ?_) (hB.2 i t (by rw [ap_l g]; exact hi))
      unfold pl at h1 h2
      rw [shR_1, if_neg (by unfold pl; omega), ms_place _ _ _ (by omega)]
    · rw [ap_r g] at hi
      have hb : (b1 ++ s :: b2)[i + 1]? = some t := by
        rw [ap_r (by omega), show i + 1 - b1.length = (i - b1.length) + 1 by omega, List.getElem?_cons_succ]
        exact hi
      refine StM_move (fun j hj => ?_) (hB.2 (i + 1) t hb)
      rw [shR_1, if_pos (by unfold pl; omega), ms_place _ _ _ (by unfold pl; omega)]
      congr 1
      unfold pl
      omega
  · by_cases hk : k = 1
    · subst hk
      by_cases hj : inB n j
      · exact Or.inl ⟨rfl, hj⟩
      · refine Or.inr ?_
        unfold inB at hj
        rw [shR_1, if_neg (by unfold pl; omega), ms_place _ _ _ (by omega)]
    · refine Or.inr ?_
      rw [shR_ne _ _ _ hk, ms_cell _ _ _ hk]
theorem lq_last {n k : Nat} {b : List Stn} (hn : n < 13) (hk : k < 2 ^ 31) (hok : bOk b) (hlen : b.length ≤ 22) {μ : Mem} (hB : BufM (μ 1) n b) {Q : Int32 → Mem → Prop} : ∀ (m f : Nat), m ≤ b.length → m < f → (lw b k m = none → Q (-1) μ) → (∀ i, lw b k m = some i → Q (nI i) μ) → bkX6_lastWith_12 Q f (nI n) (nI k) (nI m + -1) μ
  | _, 0, _, hf, _, _ => absurd hf (Nat.not_lt_zero _)
  | 0, f + 1, _, _, h1, _ => by
    unfold bkX6_lastWith_12
    exact ⟨fun _ => h1 rfl, fun c => absurd (by decide) c⟩
  | m + 1, f + 1, hm, hf, h1, h2 => by
    have e : nI (m + 1) + (-1 : Int32) = nI m := by
      rw [← Int32.sub_eq_add_neg, li 1, nI_sub (by omega)]
      rfl
    rw [e]
    unfold bkX6_lastWith_12
    refine ⟨fun c => absurd c (nI_pos (by omega)), fun _ => q_place ?_⟩
    have hg := getD_of (b := b) (i := m) (by omega)
    refine q_has (bOk_at hok hg) (pl_lt hn (by omega)) hk hk (hB.2 _ _ hg) ?_
    by_cases ht : tou k k (b.getD m s0) = true
    · rw [if_pos ht]
      exact ⟨fun _ => h2 m (by unfold lw; rw [if_pos ht]), fun c => absurd c (by decide)⟩
    · rw [if_neg ht]
      refine ⟨fun c => absurd rfl c, fun _ => ?_⟩
      rintro _ rfl
      have e2 : lw b k (m + 1) = lw b k m := by conv => lhs; unfold lw; rw [if_neg ht]
      exact lq_last hn hk hok hlen hB m f (by omega) (by omega) (fun h => h1 (e2.trans h)) (fun i h => h2 i (e2.trans h))
theorem q_last {n k z : Nat} {b : List Stn} (hn : n < 13) (hk : k < 2 ^ 31) (hok : bOk b) (hlen : b.length ≤ 22) {μ : Mem} (hB : BufM (μ 1) n b) (hz : b.length = z + 1) {Q : Int32 → Mem → Prop} (h1 : lw b k z = none → Q (-1) μ) (h2 : ∀ i, lw b k z = some i → Q (nI i) μ) : wpX6_lastWith (nI n) (nI k) μ Q := by
  unfold wpX6_lastWith
  rw [li 72, nI_add, nI_clamp (by omega), hB.1]
  refine ⟨vinI (by omega) (by decide), ?_⟩
  rintro _ rfl
  refine ⟨z + 1, ?_⟩
  have e : nI b.length - (2 : Int32) = nI z + -1 := by
    rw [hz]
    show nI (z + 1) - nI 2 = nI z + -1
    rw [← nI_add z 1, Int32.sub_eq_add_neg, Int32.add_assoc]
    rfl
  rw [e]
  exact lq_last hn hk hok hlen hB z (z + 1) (by omega) (by omega) h1 h2
/-- the stones of a buffer are set anew at one place -/
theorem BufM_set {f g : Nat → Int32} {n i : Nat} {b : List Stn} {s t : Stn} (hB : BufM f n (b ++ [t])) (hi : i < b.length) (hc : g (72 + n) = nI b.length) (ho : ∀ j, 85 ≤ j → ¬ (pl n i ≤ j ∧ j < pl n i + 4) → g j = f j) (hs : StM g (pl n i) s) : BufM g n (b.set i s) := by
  refine ⟨by rw [List.length_set]; exact hc, fun j u hj => ?_⟩
  by_cases e : i = j
  · subst e
    rw [List.getElem?_set_self hi] at hj
    cases hj
    exact hs
  · rw [List.getElem?_set_ne e] at hj
    have hlt := getE_lt hj
    refine StM_congr (fun q h1 h2 => ho q ?_ ?_) (hB.2 j u (by rw [ap_l hlt]; exact hj))
    · unfold pl at h1
      omega
    · unfold pl at *
      omega
/-- the newest stone, of one key, comes to an earlier one -/
theorem q_joins {n : Nat} {b : List Stn} {s : Stn} (hn : n < 13) (hok : bOk b) (hs : sOk s) (hlen : b.length < 22) {μ : Mem} {x : Int32 × Int32 × Int32} (hx : NodeM (μ 1) n (b ++ [s], x)) (h1 : sF s = sL s) {Q : Mem → Prop}
    (hQ : ∀ μ', NodeM (μ' 1) n (putN 1 (b, x) s) → offQ n μ μ' → Q μ') : wpX6_joins (nI n) μ Q := by
  have hB : BufM (μ 1) n (b ++ [s]) := hx.1
  have hok2 : bOk (b ++ [s]) := fun z hz => by
    rcases List.mem_append.mp hz with h | h
    · exact hok z h
    · rw [List.mem_singleton.mp h]; exact hs
  have hl2 : (b ++ [s]).length = b.length + 1 := by rw [List.length_append]; rfl
  have hF : sF s < 27 := Nat.lt_of_le_of_lt hs.2.1 hs.2.2.1
  have hsl : (b ++ [s])[b.length]? = some s := by rw [ap_r (Nat.le_refl _), Nat.sub_self]; rfl
  have hst := hB.2 _ _ hsl
  have hpl : pl n b.length = 85 + 96 * n + 4 * b.length := rfl
  unfold wpX6_joins
  rw [li 72, nI_add, nI_clamp (by omega), hB.1, hl2, li 1, nI_sub (by omega), Nat.add_sub_cancel]
  refine ⟨vinI (by omega) (by decide), q_place ?_⟩
  rw [nI_add, nI_clamp (by omega), hst.2.1]
  refine ⟨vinI (by omega) (by decide), q_last hn (by omega) hok2 (by omega) hB hl2 (fun hw => ⟨fun _ => ?_, fun c => absurd (by decide) c⟩) (fun i hw => ⟨fun c => ?_, fun _ => ?_⟩)⟩
  · rw [lw_app (Nat.le_refl _)] at hw
    refine hQ μ ?_ (offQ_refl n μ)
    unfold putN joi
    rw [if_pos rfl, if_pos h1, hw]
    exact hx
  · have := lw_lt hw
    exact absurd c (nI_pos (by omega))
  · rw [lw_app (Nat.le_refl _)] at hw
    have hi := lw_lt hw
    have hpi : pl n i = 85 + 96 * n + 4 * i := rfl
    have hg : (b ++ [s])[i]? = some (b.getD i s0) := by rw [ap_l hi]; exact getD_of hi
    have ho := bOk_at hok2 hg
    have hso := hB.2 _ _ hg
    have hoF : sF (b.getD i s0) < 27 := Nat.lt_of_le_of_lt ho.2.1 ho.2.2.1
    have hoL := ho.2.2.1
    refine q_place ?_
    rw [nI_add, nI_clamp (by omega), hso.2.1]
    refine ⟨vinI (by omega) (by decide), q_place ?_⟩
    rw [li 2, nI_add, nI_clamp (by omega), hso.2.2.1]
    refine ⟨vinI (by omega) (by decide), fun c => q_place ?_, fun c => ?_⟩
    · have h2 : sF (b.getD i s0) = sL (b.getD i s0) := nI_inj (by omega) (by omega) c
      rw [li 59, nI_add, nI_clamp (by omega), nI_clamp (by omega)]
      refine ⟨vinI (by omega) (by decide), vinI (by omega) (by decide), ?_⟩
      rintro _ rfl
      rw [ms_place _ _ _ (show pl n b.length ≠ 59 + n by omega), hst.1]
      have hg5 : μ 1 (59 + n) = x.2.2 := hx.2.2.2
      refine ⟨vinI (by omega) (by decide), fun hk => ?_, fun hk => ?_⟩
      · have hk1 : sK s = 1 := nI_inj (by have := hs.1; omega) (by decide) hk
        have hput : putN 1 (b, x) s = (b.set i (wmo (b.getD i s0) (sN s)), x.1, x.2.1, x.2.2 + 1) := by
          unfold putN joi
          rw [if_pos rfl, if_pos h1, hw]
          simp only
          rw [if_pos h2, if_pos hk1]
        have fin : ∀ μ2 : Mem, (∀ j, j ≠ 59 + n → ¬ (pl n i ≤ j ∧ j < pl n i + 4) → μ2 1 j = μ 1 j) → μ2 1 (59 + n) = x.2.2 + 1 → StM (μ2 1) (pl n i) (wmo (b.getD i s0) (sN s)) → offQ n μ μ2 → bkX6_joins_141 Q (nI n) μ2 := fun μ2 ha h59 hs2 hoff => by
          unfold bkX6_joins_141
          rw [li 72, nI_add, nI_clamp (by omega)]
          refine ⟨vinI (by omega) (by decide), vinI (by omega) (by decide), ?_⟩
          rintro _ rfl
          rw [ha (72 + n) (by omega) (by omega), hB.1, hl2, li 1, nI_sub (by omega), Nat.add_sub_cancel]
          refine hQ _ ?_ (offQ_trans hoff (offQ_set (Or.inl rfl)))
          rw [hput]
          refine ⟨BufM_set hB hi (ms_same _ _ _ _) (fun j q1 q2 => ?_) ?_, ?_, ?_, ?_⟩
          · rw [ms_place _ _ _ (by omega)]
            exact ha j (by omega) q2
          · exact StM_congr (fun j q1 q2 => ms_place _ _ _ (by omega)) hs2
          · rw [ms_place _ _ _ (by omega), ha _ (by omega) (by omega)]
            exact hx.2.1
          · rw [ms_place _ _ _ (by omega), ha _ (by omega) (by omega)]
            exact hx.2.2.1
          · rw [ms_place _ _ _ (by omega)]
            exact h59
        rw [nI_clamp (show pl n i < 2 ^ 31 by omega), ms_place _ _ _ (show pl n i ≠ 59 + n by omega), hso.1]
        have h59n : offQ n μ (mset μ 1 (59 + n) (μ 1 (59 + n) + nI 1)) := offQ_set (Or.inr (Or.inr (Or.inr (Or.inr rfl))))
        refine ⟨vinI (by omega) (by decide), fun hk2 => ?_, fun hk2 => ?_⟩
        · have hko : sK (b.getD i s0) = 2 := nI_inj (by have := ho.1; omega) (by decide) hk2
          refine fin _ (fun j q1 _ => ms_place _ _ _ q1) ?_ ?_ h59n
          · rw [ms_same, hg5]
            rfl
          · unfold wmo
            rw [if_pos hko]
            exact StM_congr (fun j q1 q2 => ms_place _ _ _ (by omega)) hso
        · have hko : ¬ sK (b.getD i s0) = 2 := fun q => hk2 (by rw [q])
          rw [li 3, nI_add, nI_add, nI_clamp (by omega), nI_clamp (by omega), ms_place _ _ _ (show pl n i + 3 ≠ 59 + n by omega), ms_place _ _ _ (show pl n b.length + 3 ≠ 59 + n by omega), hso.2.2.2, hst.2.2.2, nI_add, li 1000, nI_rem (by have := hs.2.2.2; have := ho.2.2.2; omega) (by decide)]
          refine ⟨vinI (by omega) (by decide), vinI (by omega) (by decide), vinI (by omega) (by decide), ?_⟩
          rintro _ rfl
          refine fin _ (fun j q1 q2 => ?_) ?_ ?_ (offQ_trans h59n (offQ_set (Or.inr (Or.inl (by omega)))))
          · rw [ms_place _ _ _ (by omega), ms_place _ _ _ q1]
          · rw [ms_place _ _ _ (by omega), ms_same, hg5]
            rfl
          · unfold wmo
            rw [if_neg hko]
            refine ⟨?_, ?_, ?_, ms_same _ _ _ _⟩
            · rw [ms_place _ _ _ (by omega), ms_place _ _ _ (by omega)]
              exact hso.1
            · rw [ms_place _ _ _ (by omega), ms_place _ _ _ (by omega)]
              exact hso.2.1
            · rw [ms_place _ _ _ (by omega), ms_place _ _ _ (by omega)]
              exact hso.2.2.1
      · have hk1 : ¬ sK s = 1 := fun q => hk (by rw [q])
        have hput : putN 1 (b, x) s = (b.eraseIdx i ++ [s], x.1, x.2.1, x.2.2 + 1) := by
          unfold putN joi
          rw [if_pos rfl, if_pos h1, hw]
          simp only
          rw [if_pos h2, if_neg hk1]
        have hsp : b ++ [s] = b.take i ++ b.getD i s0 :: (b.drop (i + 1) ++ [s]) := by
          conv => lhs; rw [split_at hi]
          simp
        have htl : (b.take i).length = i := by rw [List.length_take]; omega
        have e1 : nI i = nI (b.take i).length := by rw [htl]
        have h59n : offQ n μ (mset μ 1 (59 + n) (μ 1 (59 + n) + nI 1)) := offQ_set (Or.inr (Or.inr (Or.inr (Or.inr rfl))))
        have hB2 : BufM (mset μ 1 (59 + n) (μ 1 (59 + n) + nI 1) 1) n (b.take i ++ b.getD i s0 :: (b.drop (i + 1) ++ [s])) := by
          rw [← hsp]
          refine ⟨by rw [ms_place _ _ _ (by omega)]; exact hB.1, fun j t hj => ?_⟩
          refine StM_congr (fun q h1 h2 => ms_place _ _ _ ?_) (hB.2 j t hj)
          unfold pl at h1
          omega
        rw [e1]
        refine q_takeOutL hn hB2 (by rw [← hsp]; omega) (fun μ' hB' hoff => ?_)
        refine hQ _ ?_ (offQ_trans h59n (offBQ_Q hoff))
        rw [hput]
        have hx2 : NodeM (mset μ 1 (59 + n) (μ 1 (59 + n) + nI 1) 1) n (b.take i ++ b.getD i s0 :: (b.drop (i + 1) ++ [s]), x.1, x.2.1, x.2.2 + 1) := by
          refine ⟨hB2, ?_, ?_, ?_⟩
          · rw [ms_place _ _ _ (by omega)]
            exact hx.2.1
          · rw [ms_place _ _ _ (by omega)]
            exact hx.2.2.1
          · rw [ms_same, hg5]
            rfl
        have h3 := NodeM_buf hn hx2 hoff hB'
        rw [erase_at, List.append_assoc]
        exact h3
    · have h2 : ¬ sF (b.getD i s0) = sL (b.getD i s0) := fun q => c (by rw [q])
      refine hQ μ ?_ (offQ_refl n μ)
      unfold putN joi
      rw [if_pos rfl, if_pos h1, hw]
      simp only
      rw [if_neg h2]
      exact hx

theorem q_isTooFull {n B : Nat} {b : List Stn} (hn : n < 13) (hB : B < 2 ^ 31) (hlen : b.length ≤ 22) {μ : Mem} (hb : BufM (μ 1) n b) (h0 : μ 1 0 = nI B) {Q : Int32 → Mem → Prop} (hQ : Q (if B < b.length then 1 else 0) μ) : wpX6_isTooFull (nI n) μ Q := by
  unfold wpX6_isTooFull
  rw [li 72, nI_add, nI_clamp (by omega), hb.1]
  refine ⟨vinI (by omega) (by decide), vinI (n := 1333) (a := 0) (by decide) (by decide), ?_⟩
  show ((nI b.length ≤ μ 1 0) → _) ∧ ((¬ nI b.length ≤ μ 1 0) → _)
  rw [h0, nI_leI (by omega) hB]
  by_cases h : B < b.length
  · rw [if_pos h] at hQ
    exact ⟨fun q => absurd h (by omega), fun _ => hQ⟩
  · rw [if_neg h] at hQ
    exact ⟨fun _ => hQ, fun q => absurd (Nat.not_lt.mp h) q⟩
theorem q_puts {n p d : Nat} {s : Stn} {x : NS} (hn : n < 13) (hd : d < 2) (hs : sOk s) (hp : p + 3 < 292) (hok : bOk x.1) (hlen : x.1.length < 22) {μ : Mem} (h1 : μ 1 1 = nI d) (hx : NodeM (μ 1) n x) (hS : StM (μ 6) p s) {Q : Mem → Prop} (hQ : ∀ μ', NodeM (μ' 1) n (putN d x s) → offQ n μ μ' → Q μ') : wpX6_puts (nI n) (nI p) μ Q := by
  obtain ⟨b, x⟩ := x
  have hB : BufM (μ 1) n b := hx.1
  have hlen' : b.length < 22 := hlen
  have hF : sF s < 27 := Nat.lt_of_le_of_lt hs.2.1 hs.2.2.1
  have hL := hs.2.2.1
  have hpl : pl n b.length = 85 + 96 * n + 4 * b.length := rfl
  unfold wpX6_puts
  rw [li 72, nI_add, nI_clamp (by omega), hB.1]
  refine ⟨vinI (by omega) (by decide), q_place ⟨5, ?_⟩⟩
  have step : ∀ (f j : Nat) (τ : Mem), j < 4 → τ 6 = μ 6 → (∀ τ', τ' = mset τ 1 (pl n b.length + j) (μ 6 (p + j)) → bkX6_puts_17 Q f (nI n) (nI p) (nI (pl n b.length)) (nI (j + 1)) τ') → bkX6_puts_17 Q (f + 1) (nI n) (nI p) (nI (pl n b.length)) (nI j) τ := fun f j τ hj h6 hh => by
    unfold bkX6_puts_17
    rw [nI_add, nI_add, nI_clamp (by omega), nI_clamp (by omega), h6]
    refine ⟨fun q => absurd q (nI_ge hj (by decide)), fun _ => ⟨vinI (by omega) (by decide), vinI (by omega) (by decide), ?_⟩⟩
    rintro _ rfl _ rfl
    rw [nI_1]
    exact hh _ rfl
  have c6 : ∀ (τ : Mem) i v, τ 6 = μ 6 → mset τ 1 i v 6 = μ 6 := fun τ i v h => by rw [ms_cell _ _ _ (by decide)]; exact h
  refine step 4 0 μ (by decide) rfl (fun τ1 e1 => ?_)
  have g1 : τ1 6 = μ 6 := by rw [e1]; exact c6 _ _ _ rfl
  refine step 3 1 τ1 (by decide) g1 (fun τ2 e2 => ?_)
  have g2 : τ2 6 = μ 6 := by rw [e2]; exact c6 _ _ _ g1
  refine step 2 2 τ2 (by decide) g2 (fun τ3 e3 => ?_)
  have g3 : τ3 6 = μ 6 := by rw [e3]; exact c6 _ _ _ g2
  refine step 1 3 τ3 (by decide) g3 (fun τ4 e4 => ?_)
  have hoth : ∀ k j, ¬ (k = 1 ∧ pl n b.length ≤ j ∧ j < pl n b.length + 4) → τ4 k j = μ k j := fun k j hkj => by
    rw [e4, e3, e2, e1, ms_at, ms_at, ms_at, ms_at, if_neg (by omega), if_neg (by omega), if_neg (by omega), if_neg (by omega)]
  have hst : StM (τ4 1) (pl n b.length) s := by
    obtain ⟨q0, q1, q2, q3⟩ := hS
    refine ⟨?_, ?_, ?_, ?_⟩
    · rw [e4, e3, e2, e1, ms_place _ _ _ (by omega), ms_place _ _ _ (by omega), ms_place _ _ _ (by omega)]
      exact (ms_same _ _ _ _).trans q0
    · rw [e4, e3, e2, ms_place _ _ _ (by omega), ms_place _ _ _ (by omega)]
      exact (ms_same _ _ _ _).trans q1
    · rw [e4, e3, ms_place _ _ _ (by omega)]
      exact (ms_same _ _ _ _).trans q2
    · rw [e4]
      exact (ms_same _ _ _ _).trans q3
  clear e1 e2 e3 e4
  unfold bkX6_puts_17
  rw [li 72, nI_add, nI_clamp (by omega), hoth 1 (72 + n) (by omega), hB.1]
  refine ⟨fun _ => ⟨vinI (by omega) (by decide), vinI (by omega) (by decide), ?_⟩, fun q => absurd (nI_le (Nat.le_refl 4) (by decide)) q⟩
  rintro _ rfl
  have hl2 : (b ++ [s]).length = b.length + 1 := by rw [List.length_append]; rfl
  have hoff : offQ n μ (mset τ4 1 (72 + n) (nI b.length + 1)) := fun k j => by
    by_cases hkj : k = 1 ∧ inM n j
    · exact Or.inl hkj
    · refine Or.inr ?_
      unfold inM at hkj
      rw [ms_at, if_neg (by omega), hoth k j (by omega)]
  have hx2 : NodeM (mset τ4 1 (72 + n) (nI b.length + 1) 1) n (b ++ [s], x) := by
    refine ⟨⟨?_, fun i t hi => ?_⟩, ?_, ?_, ?_⟩
    · rw [ms_same, nI_1]
      show _ = nI (b ++ [s]).length
      rw [hl2]
    · rcases Nat.lt_or_ge i b.length with g | g
      · have hi' : (b ++ [s])[i]? = some t := hi
        rw [ap_l g] at hi'
        refine StM_congr (fun j q1 q2 => ?_) (hB.2 i t hi')
        unfold pl at q1 q2
        rw [ms_place _ _ _ (by omega), hoth 1 j (by unfold pl; omega)]
      · have hi' : (b ++ [s])[i]? = some t := hi
        have hlt := getE_lt hi'
        have e : i = b.length := by omega
        subst e
        rw [ap_r (Nat.le_refl _), Nat.sub_self] at hi'
        cases hi'
        exact StM_congr (fun j q1 q2 => ms_place _ _ _ (by omega)) hst
    · rw [ms_place _ _ _ (by omega), hoth 1 _ (by omega)]
      exact hx.2.1
    · rw [ms_place _ _ _ (by omega), hoth 1 _ (by omega)]
      exact hx.2.2.1
    · rw [ms_place _ _ _ (by omega), hoth 1 _ (by omega)]
      exact hx.2.2.2
  refine ⟨vinI (n := 1333) (a := 1) (by decide) (by decide), ?_⟩
  show (¬ mset τ4 1 (72 + n) (nI b.length + 1) 1 1 = nI 1 → _) ∧ (mset τ4 1 (72 + n) (nI b.length + 1) 1 1 = nI 1 → _)
  rw [ms_place _ _ _ (show 1 ≠ 72 + n by omega), hoth 1 1 (by omega), h1]
  refine ⟨fun q => ?_, fun q => ?_⟩
  · have hd1 : ¬ d = 1 := fun e => q (by rw [e])
    refine hQ _ ?_ hoff
    unfold putN
    rw [if_neg hd1]
    exact hx2
  · have hd1 : d = 1 := nI_inj (by omega) (by decide) q
    subst hd1
    rw [li 1, li 2, nI_add, nI_add, nI_clamp (by omega), nI_clamp (by omega), ms_place _ _ _ (show pl n b.length + 1 ≠ 72 + n by omega), ms_place _ _ _ (show pl n b.length + 2 ≠ 72 + n by omega), hst.2.1, hst.2.2.1]
    refine ⟨vinI (by omega) (by decide), vinI (by omega) (by decide), fun c => ?_, fun c => ?_⟩
    · have h2 : ¬ sF s = sL s := fun e => c (by rw [e])
      refine hQ _ ?_ hoff
      unfold putN joi
      rw [if_pos rfl, if_neg h2]
      exact hx2
    · have h2 : sF s = sL s := nI_inj (by omega) (by omega) c
      exact q_joins hn hok hs hlen' hx2 h2 (fun μ' a1 a2 => hQ μ' a1 (offQ_trans hoff a2))
