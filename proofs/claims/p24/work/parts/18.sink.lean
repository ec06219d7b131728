/-! sinking in the class's Tree -/
theorem nle_lt {a b : Nat} (ha : a < 2 ^ 31) (hb : b < 2 ^ 31) (q : ¬ nI a ≤ nI b) : b < a := Nat.lt_of_not_le fun z => q ((nI_leI ha hb).mpr z)
theorem l_heavy {n c : Nat} {b : List Stn} (hn : n < 13) (hc : c < 3) (hok : bOk b) (hlen : b.length ≤ 22) {μ : Mem} (hB : BufX μ n b) {Q : Int32 → Mem → Prop} {h : Int32} {m f : Nat} (hm : m ≤ 22)
    (h1 : m < wg n c b → bkX4_heaviestChild_7 Q f (nI n) (nI c) (nI (wg n c b)) (nI (c + 1)) μ) (h2 : ¬ m < wg n c b → bkX4_heaviestChild_7 Q f (nI n) h (nI m) (nI (c + 1)) μ) : bkX4_heaviestChild_7 Q (f + 1) (nI n) h (nI m) (nI c) μ := by
  unfold bkX4_heaviestChild_7
  have hlo := clo_le n hn c (by omega)
  have hhi := chi_lt n hn c hc
  have hw : wg n c b ≤ b.length := wgt_le _ _ b
  refine ⟨fun q => absurd q (nI_ge hc (by decide)), fun _ => r_firstKeyOfChild hn (r_lastKeyOfChild hn (r_touching hn (by omega) (by omega) hok hlen hB ⟨fun q => ?_, fun q => ?_⟩))⟩
  · rintro _ rfl
    have q : ¬ m < wg n c b := by
      have := (nI_leI (a := wg n c b) (b := m) (by omega) (by omega)).mp q
      omega
    rw [nI_1]
    exact h2 q
  · rintro _ rfl
    have q : m < wg n c b := by
      have := nle_lt (a := wg n c b) (b := m) (by omega) (by omega) q
      omega
    rw [nI_1]
    exact h1 q
theorem l_heavyEnd {n : Nat} {μ : Mem} {Q : Int32 → Mem → Prop} {h m : Int32} {f : Nat} (hQ : Q h μ) : bkX4_heaviestChild_7 Q (f + 1) (nI n) h m (nI (2 + 1)) μ := by
  unfold bkX4_heaviestChild_7
  exact ⟨fun _ => hQ, fun q => absurd (nI_le (Nat.le_refl 3) (by decide)) q⟩
theorem r_heaviest {n : Nat} {b : List Stn} (hn : n < 13) (hok : bOk b) (hlen : b.length ≤ 22) {μ : Mem} (hB : BufX μ n b) {Q : Int32 → Mem → Prop} (h1 : (∃ c, c < 3 ∧ 0 < wg n c b) → Q (nI (heav n b)) μ) (h2 : (∀ c, c < 3 → wg n c b = 0) → Q (-1) μ) : wpX4_heaviestChild (nI n) μ Q := by
  unfold wpX4_heaviestChild
  have w0 : wg n 0 b ≤ b.length := wgt_le _ _ b
  have w1 : wg n 1 b ≤ b.length := wgt_le _ _ b
  have w2 : wg n 2 b ≤ b.length := wgt_le _ _ b
  have all0 : wg n 0 b = 0 → wg n 1 b = 0 → wg n 2 b = 0 → ∀ c, c < 3 → wg n c b = 0 := fun a b' c' c hc => by
    rcases (show c = 0 ∨ c = 1 ∨ c = 2 by omega) with rfl | rfl | rfl <;> assumption
  refine ⟨3 + 1, ?_⟩
  refine l_heavy (m := 0) (c := 0) hn (by decide) hok hlen hB (by omega) (fun q0 => ?_) (fun q0 => ?_)
  · refine l_heavy (c := 1) hn (by decide) hok hlen hB (by omega) (fun q1 => ?_) (fun q1 => ?_)
    · refine l_heavy (c := 2) hn (by decide) hok hlen hB (by omega) (fun q2 => l_heavyEnd ?_) (fun q2 => l_heavyEnd ?_)
      · have h := h1 ⟨2, by decide, by omega⟩
        unfold heav at h
        rw [if_pos (by rw [if_pos q1]; exact q2)] at h
        exact h
      · have h := h1 ⟨1, by decide, by omega⟩
        unfold heav at h
        rw [if_neg (by rw [if_pos q1]; exact q2), if_pos q1] at h
        exact h
    · refine l_heavy (c := 2) hn (by decide) hok hlen hB (by omega) (fun q2 => l_heavyEnd ?_) (fun q2 => l_heavyEnd ?_)
      · have h := h1 ⟨2, by decide, by omega⟩
        unfold heav at h
        rw [if_pos (by rw [if_neg q1]; exact q2)] at h
        exact h
      · have h := h1 ⟨0, by decide, by omega⟩
        unfold heav at h
        rw [if_neg (by rw [if_neg q1]; exact q2), if_neg q1] at h
        exact h
  · refine l_heavy (m := 0) (c := 1) hn (by decide) hok hlen hB (by omega) (fun q1 => ?_) (fun q1 => ?_)
    · refine l_heavy (c := 2) hn (by decide) hok hlen hB (by omega) (fun q2 => l_heavyEnd ?_) (fun q2 => l_heavyEnd ?_)
      · have h := h1 ⟨2, by decide, by omega⟩
        unfold heav at h
        rw [if_pos (by rw [if_pos (by omega)]; exact q2)] at h
        exact h
      · have h := h1 ⟨1, by decide, by omega⟩
        unfold heav at h
        rw [if_neg (by rw [if_pos (by omega)]; exact q2), if_pos (by omega)] at h
        exact h
    · refine l_heavy (m := 0) (c := 2) hn (by decide) hok hlen hB (by omega) (fun q2 => l_heavyEnd ?_) (fun q2 => l_heavyEnd ?_)
      · have h := h1 ⟨2, by decide, by omega⟩
        unfold heav at h
        rw [if_pos (by rw [if_neg (by omega)]; omega)] at h
        exact h
      · exact h2 (all0 (by omega) (by omega) (by omega))
theorem lft_len (lo hi : Nat) (s : Stn) : (lft lo hi s).length = (if sF s < lo then 1 else 0) + if hi < sL s then 1 else 0 := by
  unfold lft
  rw [List.length_append]
  congr 1
  · split <;> rfl
  · split <;> rfl
theorem r_leaveRest {n lo hi : Nat} {b1 b2 : List Stn} {s : Stn} (hn : n < 13) (hlo : lo < 28) (hhi : hi < 27) (hs : sOk s) {μ : Mem} (hB : BufX μ n (b1 ++ s :: b2)) (h22 : (b1 ++ s :: b2).length ≤ 22) (hl : b1.length + (lft lo hi s).length + b2.length ≤ 22) {Q : Int32 → Mem → Prop}
    (hQ : ∀ μ', BufX μ' n ((b1 ++ lft lo hi s) ++ b2) → offB n μ μ' → Q (nI (lft lo hi s).length) μ') : wpX4_leaveRest (nI n) (nI b1.length) (nI lo) (nI hi) μ Q := by
  have hF : sF s < 27 := Nat.lt_of_le_of_lt hs.2.1 hs.2.2.1
  have hL := hs.2.2.1
  have hll := lft_len lo hi s
  have hsl : (b1 ++ s :: b2)[b1.length]? = some s := by rw [ap_r (Nat.le_refl _), Nat.sub_self]; rfl
  unfold wpX4_leaveRest
  refine r_stoneAtL hn hB hsl h22 (r_takeOutL hn hB h22 (fun μ1 hB1 ho1 => r_first hs ⟨fun c => ?_, fun c => ?_⟩))
  · have c' : ¬ sF s < lo := by
      have := (nI_leI (a := lo) (b := sF s) (by omega) (by omega)).mp c
      omega
    rw [if_neg c'] at hll
    unfold bkX4_leaveRest_44
    refine r_last hs ⟨fun c2 => ?_, fun c2 => ?_⟩
    · have c2' : ¬ hi < sL s := by
        have := (nI_leI (a := sL s) (b := hi) (by omega) (by omega)).mp c2
        omega
      have e : lft lo hi s = [] := by unfold lft; rw [if_neg c', if_neg c2']; rfl
      rw [e] at hQ
      rw [List.append_nil] at hQ
      exact hQ μ1 hB1 ho1
    · have c2' : hi < sL s := by
        have := nle_lt (a := sL s) (b := hi) (by omega) (by omega) c2
        omega
      have e : lft lo hi s = [prt (hi + 1) 26 s] := by unfold lft; rw [if_neg c', if_pos c2']; rfl
      rw [if_pos c2'] at hll
      rw [nI_1]
      refine r_part hs (lo := hi + 1) (hi := 26) (by omega) (by decide) ?_
      show wpX4_putIn (nI n) (nI b1.length + nI 0) _ μ1 _
      rw [nI_add, Nat.add_zero]
      refine r_putInL hn hB1 (by rw [List.length_append]; omega) (fun μ2 hB2 ho2 => ?_)
      rintro _ rfl
      rw [e] at hQ
      refine hQ μ2 ?_ (offB_trans ho1 ho2)
      simp only [List.append_assoc, List.singleton_append]
      exact hB2
  · have c' : sF s < lo := by
      have := nle_lt (a := lo) (b := sF s) (by omega) (by omega) c
      omega
    rw [if_pos c'] at hll
    rw [li 1, nI_sub (by omega)]
    refine r_part hs (lo := 0) (hi := lo - 1) (by decide) (by omega) ?_
    refine r_putInL hn hB1 (by rw [List.length_append]; omega) (fun μ2 hB2 ho2 => ?_)
    rintro _ rfl
    unfold bkX4_leaveRest_44
    refine r_last hs ⟨fun c2 => ?_, fun c2 => ?_⟩
    · have c2' : ¬ hi < sL s := by
        have := (nI_leI (a := sL s) (b := hi) (by omega) (by omega)).mp c2
        omega
      have e : lft lo hi s = [prt 0 (lo - 1) s] := by unfold lft; rw [if_pos c', if_neg c2']; rfl
      rw [e] at hQ
      refine hQ μ2 ?_ (offB_trans ho1 ho2)
      simp only [List.append_assoc, List.singleton_append]
      exact hB2
    · have c2' : hi < sL s := by
        have := nle_lt (a := sL s) (b := hi) (by omega) (by omega) c2
        omega
      have e : lft lo hi s = [prt 0 (lo - 1) s, prt (hi + 1) 26 s] := by unfold lft; rw [if_pos c', if_pos c2']; rfl
      rw [if_pos c2'] at hll
      rw [nI_1]
      refine r_part hs (lo := hi + 1) (hi := 26) (by omega) (by decide) ?_
      have hB2' : BufX μ2 n ((b1 ++ [prt 0 (lo - 1) s]) ++ b2) := by
        simp only [List.append_assoc, List.singleton_append]
        exact hB2
      have e3 : nI b1.length + (0 + nI 1) = nI (b1 ++ [prt 0 (lo - 1) s]).length := by
        rw [List.length_append]
        show nI b1.length + (nI 0 + nI 1) = _
        rw [nI_add, nI_add]
        rfl
      rw [e3]
      refine r_putInL hn hB2' (by simp only [List.length_append, List.length_singleton]; omega) (fun μ3 hB3 ho3 => ?_)
      rintro _ rfl
      rw [e] at hQ
      refine hQ μ3 ?_ (offB_trans (offB_trans ho1 ho2) ho3)
      simp only [List.append_assoc, List.singleton_append, List.cons_append, List.nil_append] at hB3 ⊢
      exact hB3
theorem RepW_setSelf {n : Nat} {τ : Mem} {x : NS} {w : WT} (hn : n < 13) (h : RepW τ (setN n x w)) : NodeX τ n x := by
  have h1 := h.1 n hn
  rw [setN_at] at h1
  exact h1
theorem r_applyToLeaf {k : Nat} {s : Stn} (hk : k < 27) (hs : sOk s) {τ : Mem} {w : WT} (hw : RepW τ w) (hv : vOk (w.2.1 k)) {Q : Mem → Prop} (hQ : ∀ τ', RepW τ' (lfA k s w) → keepX τ τ' → Q τ') : wpX4_applyToLeaf (nI k) (encX s) τ Q := by
  unfold wpX4_applyToLeaf
  refine ⟨fun c => absurd c (nI_pos (by omega)), fun _ => ⟨fun c => absurd c (nI_ge hk (by decide)), fun _ => ⟨vinI hk (by decide), ?_⟩⟩⟩
  rw [nI_clamp (by omega), hw.2.1 k hk]
  refine r_valueAfter hs hv ⟨vinI hk (by decide), ?_⟩
  rintro _ rfl _ rfl
  refine hQ _ ⟨fun n hn => ?_, fun j hj => ?_, ?_⟩ ⟨fun j => ?_, ?_, ?_⟩
  · obtain ⟨⟨h1, h2⟩, h3, h4, h5⟩ := hw.1 n hn
    exact ⟨⟨h1, h2⟩, h3, h4, h5⟩
  · rw [ms_cell _ _ _ (by decide), ms_at]
    by_cases h : j = k
    · subst h
      rw [if_pos ⟨rfl, rfl⟩]
      show _ = encV (up w.2.1 j _ j)
      rw [up_same]
    · rw [if_neg (by omega)]
      show _ = encV (up w.2.1 k _ j)
      rw [up_ne _ _ h]
      exact hw.2.1 j hj
  · rw [ms_same, ms_cell _ _ _ (by decide), hw.2.2]
    rfl
  · rw [ms_cell _ _ _ (by decide), ms_cell _ _ _ (by decide)]
  · rw [ms_place _ _ _ (by decide), ms_cell _ _ _ (by decide)]
  · rw [ms_place _ _ _ (by decide), ms_cell _ _ _ (by decide)]
/-- what a sinking into child c may ask of the child: ch puts one stone there; I is what it wants and keeps -/
def StepX (WC : Int32 → Int32 → Int32 → Mem → (Mem → Prop) → Prop) (n c lv B d : Nat) (ch : Stn → WT → WT) (I : WT → Prop) : Prop :=
  ∀ (s : Stn) (w : WT) (τ : Mem) (Q : Mem → Prop), sOk s → clo n c ≤ sF s → sL s ≤ chi n c → RepW τ w → SetX τ B d → lenW w → I w → (∀ τ', RepW τ' (ch s w) → keepX τ τ' → Q τ') →
    wpX2_isLow (nI n) (fun r => ((r = 0) → (wpX2_childNode (nI n) (nI c) (fun r2 => WC r2 (encX s) (nI lv + 1) τ Q))) ∧ ((¬ r = 0) → (wpX4_applyToLeaf (nI (clo n c)) (encX s) τ Q)))
theorem rst_snoc (lo hi : Nat) (b : List Stn) (s : Stn) : rst lo hi (b ++ [s]) = rst lo hi b ++ if tou lo hi s = true then lft lo hi s else [s] := by
  unfold rst
  rw [List.flatMap_append]
  simp
theorem gon_snoc (lo hi : Nat) (b : List Stn) (s : Stn) : gon lo hi (b ++ [s]) = gon lo hi b ++ if tou lo hi s = true then [prt lo hi s] else [] := by
  unfold gon
  rw [List.filter_append, List.map_append]
  congr 1
  by_cases h : tou lo hi s = true
  · rw [if_pos h, List.filter_cons_of_pos h]
    rfl
  · rw [if_neg h, List.filter_cons_of_neg h]
    rfl
theorem gon_len (lo hi : Nat) (b : List Stn) : (gon lo hi b).length = wgt lo hi b := by
  unfold gon wgt
  rw [List.length_map]
theorem prt_ok {lo hi : Nat} {s : Stn} (hs : sOk s) (h : tou lo hi s = true) (hlh : lo ≤ hi) (hh : hi < 27) : sOk (prt lo hi s) := by
  obtain ⟨h1, h2, h3, h4⟩ := hs
  simp [tou] at h
  refine ⟨h1, ?_, ?_, h4⟩
  · show max (sF s) lo ≤ min (sL s) hi
    omega
  · show min (sL s) hi < 27
    omega
theorem clo_chi (n c : Nat) : clo n c ≤ chi n c := by
  have := kc_pos n
  unfold chi
  omega
theorem l_sink {WC : Int32 → Int32 → Int32 → Mem → (Mem → Prop) → Prop} {n c lv B d : Nat} {ch : Stn → WT → WT} {I : WT → Prop} (hn : n < 13) (hc : c < 3) (hst : StepX WC n c lv B d ch I) (hcm : ∀ s, Comm n (ch s))
    (hI : ∀ s w, sOk s → clo n c ≤ sF s → sL s ≤ chi n c → lenW w → I w → lenW (ch s w) ∧ I (ch s w)) (hIs : ∀ x w, I w → I (setN n x w)) {b : List Stn} (hok : bOk b) (hlb : b.length ≤ 22) (hcap : ∀ L1 L2, b = L1 ++ L2 → (rst (clo n c) (chi n c) L1).length + L2.length ≤ 22) {x : Int32 × Int32 × Int32} {w0 : WT} {Q : Mem → Prop} :
    ∀ (L2 L1 : List Stn) (f : Nat) (μ : Mem) (w : WT), b = L1 ++ L2 → L2.length < f → w = (gon (clo n c) (chi n c) L1).foldl (fun w s => ch s w) w0 → lenW w → I w → SetX μ B d → RepW μ (setN n (rst (clo n c) (chi n c) L1 ++ L2, x) w) →
      (∀ μ', RepW μ' (setN n (takeN n c (b, x)) ((gon (clo n c) (chi n c) b).foldl (fun w s => ch s w) w0)) → keepX μ μ' → Q μ') →
      bkX4_sinkInto_40 WC Q f (nI n) (nI c) (nI lv) (nI (clo n c)) (nI (chi n c)) (nI b.length) (nI (rst (clo n c) (chi n c) L1).length) (nI (gon (clo n c) (chi n c) L1).length) (nI L1.length) μ
  | [], _, 0, _, _, _, hf, _, _, _, _, _, _ => absurd hf (Nat.not_lt_zero _)
  | [], L1, f + 1, μ, w, hb, _, hw, hlw, hIw, hS, hR, hQ => by
    rw [List.append_nil] at hb hR
    subst hb
    have hg : (gon (clo n c) (chi n c) b).length ≤ b.length := by rw [gon_len]; exact wgt_le _ _ _
    unfold bkX4_sinkInto_40
    refine ⟨fun _ => ⟨fun q => ?_, fun q => ?_⟩, fun q => absurd (nI_le (Nat.le_refl _) (by omega)) q⟩
    · have h0 : (gon (clo n c) (chi n c) b).length = 0 := by
        have := (nI_leI (a := (gon (clo n c) (chi n c) b).length) (b := 0) (by omega) (by decide)).mp q
        omega
      refine hQ μ ?_ (keepX_refl μ)
      unfold takeN
      rw [if_pos (List.length_eq_zero_iff.mp h0), h0, ← hw]
      show RepW μ (setN n (rst (clo n c) (chi n c) b, x.1 + 0, x.2.1 + 0, x.2.2) w)
      rw [Int32.add_zero, Int32.add_zero]
      exact hR
    · have h0 : ¬ gon (clo n c) (chi n c) b = [] := fun z => q (by rw [z]; exact nI_le (Nat.le_refl 0) (by decide))
      refine r_addTo hn (by decide) (r_addTo hn (by decide) ?_)
      have hN := RepW_setSelf hn hR
      obtain ⟨⟨g1, g2⟩, g3, g4, g5⟩ := hN
      have hoff : offN n μ (mset (mset μ 5 n (μ 5 n + 1)) 6 n (mset μ 5 n (μ 5 n + 1) 6 n + nI (gon (clo n c) (chi n c) b).length)) := fun k j => by
        rw [ms_at]
        by_cases h1 : k = 6 ∧ j = n
        · exact Or.inl (Or.inr (Or.inr (Or.inr (Or.inl h1))))
        · rw [if_neg h1, ms_at]
          by_cases h2 : k = 5 ∧ j = n
          · exact Or.inl (Or.inr (Or.inr (Or.inl h2)))
          · rw [if_neg h2]
            exact Or.inr rfl
      refine hQ _ ?_ (offN_keep hoff)
      rw [← hw]
      have hlen2 := hcap b [] (List.append_nil b).symm
      have hlw2 : lenW (setN n (rst (clo n c) (chi n c) b, x) w) := fun m hm => by
        by_cases h : m = n
        · rw [h, setN_at]; exact hlen2
        · rw [setN_ne _ _ h]; exact hlw m hm
      have h3 := RepW_set hn (x := takeN n c (b, x)) hlw2 hR hoff ?_
      · rw [setN_setN] at h3
        exact h3
      · unfold takeN
        rw [if_neg h0]
        refine ⟨⟨?_, fun i s hi => ?_⟩, ?_, ?_, ?_⟩
        · rw [ms_cell _ _ _ (by decide), ms_cell _ _ _ (by decide)]
          exact g1
        · rw [ms_cell _ _ _ (by decide), ms_cell _ _ _ (by decide)]
          exact g2 i s hi
        · rw [ms_cell _ _ _ (by decide), ms_same, g3]
        · rw [ms_same, ms_cell _ _ _ (by decide), g4]
        · rw [ms_cell _ _ _ (by decide), ms_cell _ _ _ (by decide)]
          exact g5
  | s :: L2, _, 0, _, _, _, hf, _, _, _, _, _, _ => absurd hf (Nat.not_lt_zero _)
  | s :: L2, L1, f + 1, μ, w, hb, hf, hw, hlw, hIw, hS, hR, hQ => by
    have hlo := clo_le n hn c (by omega)
    have hhi := chi_lt n hn c hc
    have hbl : b.length = L1.length + (L2.length + 1) := by rw [hb, List.length_append, List.length_cons]
    have hs : sOk s := hok s (by rw [hb]; simp)
    have hN := RepW_setSelf hn hR
    have hB := hN.1
    have hb2 : b = (L1 ++ [s]) ++ L2 := by rw [hb]; simp
    have h22 := hcap L1 (s :: L2) hb
    have h22' := hcap (L1 ++ [s]) L2 hb2
    rw [List.length_cons] at h22
    have hsl : (rst (clo n c) (chi n c) L1 ++ s :: L2)[(rst (clo n c) (chi n c) L1).length]? = some s := by rw [ap_r (Nat.le_refl _), Nat.sub_self]; rfl
    have hl1 : nI L1.length + 1 = nI (L1 ++ [s]).length := by rw [nI_1, List.length_append]; rfl
    unfold bkX4_sinkInto_40
    refine ⟨fun q => absurd q (nI_ge (by omega) (by omega)), fun _ => r_stoneAtL hn hB hsl (by rw [List.length_append, List.length_cons]; omega) (r_touches hs (by omega) (by omega) ?_)⟩
    by_cases ht : tou (clo n c) (chi n c) s = true
    · rw [if_pos ht]
      refine ⟨fun _ => ?_, fun q => absurd q (by decide)⟩
      have e1 := rst_snoc (clo n c) (chi n c) L1 s
      have e2 := gon_snoc (clo n c) (chi n c) L1 s
      rw [if_pos ht] at e1 e2
      have hlr : (rst (clo n c) (chi n c) (L1 ++ [s])).length = (rst (clo n c) (chi n c) L1).length + (lft (clo n c) (chi n c) s).length := by rw [e1, List.length_append]
      refine r_leaveRest hn (by omega) (by omega) hs hB (by rw [List.length_append, List.length_cons]; omega) (by omega) (fun μ1 hB1 ho1 => ?_)
      rintro _ rfl _ rfl
      have hp := prt_ok hs ht (clo_chi n c) hhi
      refine r_part hs (by omega) (by omega) ?_
      have hlw2 : lenW (setN n (rst (clo n c) (chi n c) L1 ++ s :: L2, x) w) := fun m hm => by
        by_cases h : m = n
        · rw [h, setN_at]; show (rst (clo n c) (chi n c) L1 ++ s :: L2).length ≤ 22; rw [List.length_append, List.length_cons]; omega
        · rw [setN_ne _ _ h]; exact hlw m hm
      have hR1 := RepW_set hn (x := ((rst (clo n c) (chi n c) L1 ++ lft (clo n c) (chi n c) s) ++ L2, x)) hlw2 hR (offB_N ho1) (NodeX_buf hN ho1 hB1)
      rw [setN_setN, ← e1] at hR1
      have hk1 := offN_keep (offB_N ho1)
      have hlw3 : lenW (setN n (rst (clo n c) (chi n c) (L1 ++ [s]) ++ L2, x) w) := fun m hm => by
        by_cases h : m = n
        · rw [h, setN_at]; show (rst (clo n c) (chi n c) (L1 ++ [s]) ++ L2).length ≤ 22; rw [List.length_append]; omega
        · rw [setN_ne _ _ h]; exact hlw m hm
      have hlo1 : clo n c ≤ sF (prt (clo n c) (chi n c) s) := Nat.le_max_right _ _
      have hhi1 : sL (prt (clo n c) (chi n c) s) ≤ chi n c := Nat.min_le_right _ _
      refine hst _ _ μ1 _ hp hlo1 hhi1 hR1 ⟨(hk1.1 0).trans hS.1, (hk1.1 1).trans hS.2⟩ hlw3 (hIs _ _ hIw) (fun μ2 hR2 hk2 => ?_)
      rintro _ rfl
      rw [hcm] at hR2
      have hI2 := hI _ w hp hlo1 hhi1 hlw hIw
      have hk12 := keepX_trans hk1 hk2
      rw [hl1, nI_add, ← hlr]
      have e3 : nI (gon (clo n c) (chi n c) L1).length + 1 = nI (gon (clo n c) (chi n c) (L1 ++ [s])).length := by rw [nI_1, e2, List.length_append]; rfl
      rw [e3]
      refine l_sink hn hc hst hcm hI hIs hok hlb hcap L2 (L1 ++ [s]) f μ2 _ hb2 (by rw [List.length_cons] at hf; omega) ?_ hI2.1 hI2.2 ⟨(hk12.1 0).trans hS.1, (hk12.1 1).trans hS.2⟩ hR2 (fun μ' h1 h2 => hQ μ' h1 (keepX_trans hk12 h2))
      rw [e2, List.foldl_append, ← hw]
      rfl
    · rw [if_neg ht]
      refine ⟨fun q => absurd rfl q, fun _ => ?_⟩
      rintro _ rfl _ rfl
      have e1 := rst_snoc (clo n c) (chi n c) L1 s
      have e2 := gon_snoc (clo n c) (chi n c) L1 s
      rw [if_neg ht] at e1 e2
      rw [List.append_nil] at e2
      have e4 : nI (rst (clo n c) (chi n c) L1).length + 1 = nI (rst (clo n c) (chi n c) (L1 ++ [s])).length := by rw [nI_1, e1, List.length_append]; rfl
      rw [hl1, e4, ← e2]
      refine l_sink hn hc hst hcm hI hIs hok hlb hcap L2 (L1 ++ [s]) f μ w hb2 (by rw [List.length_cons] at hf; omega) (by rw [e2]; exact hw) hlw hIw hS ?_ hQ
      rw [e1, List.append_assoc]
      exact hR
theorem r_sinkInto {WC : Int32 → Int32 → Int32 → Mem → (Mem → Prop) → Prop} {n c lv B d : Nat} {ch : Stn → WT → WT} {I : WT → Prop} (hn : n < 13) (hc : c < 3) (hst : StepX WC n c lv B d ch I) (hcm : ∀ s, Comm n (ch s))
    (hI : ∀ s w, sOk s → clo n c ≤ sF s → sL s ≤ chi n c → lenW w → I w → lenW (ch s w) ∧ I (ch s w)) (hIs : ∀ x w, I w → I (setN n x w)) {w : WT} (hok : bOk (w.1 n).1) (hcap : ∀ L1 L2, (w.1 n).1 = L1 ++ L2 → (rst (clo n c) (chi n c) L1).length + L2.length ≤ 22) {μ : Mem} {Q : Mem → Prop} (hlw : lenW w) (hIw : I w) (hS : SetX μ B d) (hR : RepW μ w)
    (hQ : ∀ μ', RepW μ' (sinkG n c ch w) → keepX μ μ' → Q μ') : wpbX4_sinkInto WC (nI n) (nI c) (nI lv) μ Q := by
  unfold wpbX4_sinkInto
  refine ⟨fun q => absurd q (nI_pos (by omega)), fun _ => ⟨fun _ => r_firstKeyOfChild hn (r_lastKeyOfChild hn (r_stonesIn hn ?_)), fun q => absurd (nI_lt hc (by decide)) q⟩⟩
  rw [(hR.1 n hn).1.1]
  refine ⟨(w.1 n).1.length + 1, ?_⟩
  refine l_sink (x := (w.1 n).2) (w0 := w) hn hc hst hcm hI hIs hok (hlw n hn) hcap (w.1 n).1 [] _ μ w rfl (Nat.lt_succ_self _) rfl hlw hIw hS ?_ (fun μ' h1 h2 => hQ μ' ?_ h2)
  · show RepW μ (setN n (w.1 n) w)
    rw [setN_self]
    exact hR
  · unfold sinkG
    have e := comm_foldl hcm (gon (clo n c) (chi n c) (w.1 n).1) (takeN n c (w.1 n)) w
    simp only at e
    rw [e]
    exact h1
