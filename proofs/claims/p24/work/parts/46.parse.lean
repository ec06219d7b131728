/-! orders are read -/
def csOk (cs : List Nat) : Prop := cs.length ≤ 60 ∧ ∀ c ∈ cs, 33 ≤ c ∧ c ≤ 126
def chA (cs : List Nat) (p : Nat) : Nat := cs.getD p 0
def rdG (cs : List Nat) (most : Nat) : Nat → Nat → Nat → Nat × Nat
  | 0, v, p => (v, p)
  | f + 1, v, p => if 0 < v ∧ (48 ≤ chA cs p ∧ chA cs p ≤ 57) ∧ 10 * v + (chA cs p - 48) ≤ most then rdG cs most f (10 * v + (chA cs p - 48)) (p + 1) else (v, p)
def rdN (cs : List Nat) (most p : Nat) : Option (Nat × Nat) := if 48 ≤ chA cs p ∧ chA cs p ≤ 57 then some (rdG cs most 59 (chA cs p - 48) (p + 1)) else none
def rdP (cs : List Nat) (f l q : Nat) : Option Stn × Nat := if l < f then (none, q) else if chA cs q = 43 then (match rdN cs 999 (q + 1) with
    | none => (none, q + 1)
    | some (v, r) => (some (1, f, l, v), r)) else (none, q)
def rdO (cs : List Nat) (p : Nat) : Option Stn × Nat := match rdN cs 26 p with
  | none => (none, p)
  | some (f, q) => if chA cs q = 120 then (some (2, f, f, 0), q + 1)
    else if chA cs q = 61 then (match rdN cs 999 (q + 1) with
      | none => (none, q + 1)
      | some (v, r) => (some (0, f, f, v), r))
    else if chA cs q = 45 then (match rdN cs 26 (q + 1) with
      | none => (none, q + 1)
      | some (l, r) => rdP cs f l r)
    else rdP cs f f q
def rdAll (cs : List Nat) : Nat → Nat → List Stn × Option Nat
  | 0, p => ([], some p)
  | f + 1, p => match rdO cs p with
    | (none, q) => ([], some q)
    | (some s, q) => if q = cs.length then ([s], none) else if chA cs q = 59 then (s :: (rdAll cs f (q + 1)).1, (rdAll cs f (q + 1)).2) else ([s], some q)
def fFault (F : FS) : Int32 := match (rdAll F.2.2.2 20 0).2 with
  | none => -6
  | some p => nI p
def dropA (l : List Stn) (t : TS) : TS := l.foldl (fun t s => dropT s t) t
def fCarry (F : FS) : Int32 × FS := match (rdAll F.2.2.2 20 0).2 with
  | none => (nI (rdAll F.2.2.2 20 0).1.length, dropA (rdAll F.2.2.2 20 0).1 F.1, (F.1 :: F.2.1).take 6, F.2.2.1, [])
  | some _ => (-3, F)
theorem chA_lt {cs : List Nat} (h : csOk cs) (p : Nat) : chA cs p < 127 := by
  unfold chA
  rcases Nat.lt_or_ge p cs.length with g | g
  · rw [List.getD_eq_getElem?_getD, List.getElem?_eq_getElem g]
    have := (h.2 _ (List.getElem_mem g)).2
    show cs[p] < 127
    omega
  · rw [List.getD_eq_getElem?_getD, List.getElem?_eq_none g]
    decide
theorem chA_in {cs : List Nat} {p : Nat} (h : chA cs p ≠ 0) : p < cs.length := by
  rcases Nat.lt_or_ge p cs.length with g | g
  · exact g
  · refine absurd ?_ h
    unfold chA
    rw [List.getD_eq_getElem?_getD, List.getElem?_eq_none g]
    rfl
theorem chA_get {cs : List Nat} {p : Nat} (h : p < cs.length) : cs[p]? = some (chA cs p) := by
  unfold chA
  rw [List.getD_eq_getElem?_getD, List.getElem?_eq_getElem h]
  rfl
theorem chA_out {cs : List Nat} {p : Nat} (h : cs.length ≤ p) : chA cs p = 0 := by
  unfold chA
  rw [List.getD_eq_getElem?_getD, List.getElem?_eq_none h]
  rfl
theorem rdG_ok {cs : List Nat} {most : Nat} : ∀ {f v p : Nat}, v ≤ most → p ≤ cs.length → (rdG cs most f v p).1 ≤ most ∧ p ≤ (rdG cs most f v p).2 ∧ (rdG cs most f v p).2 ≤ cs.length
  | 0, v, p, h, hp => ⟨h, Nat.le_refl p, hp⟩
  | f + 1, v, p, h, hp => by
    unfold rdG
    split
    · rename_i c
      have hin := chA_in (cs := cs) (p := p) (by omega)
      have := rdG_ok (cs := cs) (most := most) (f := f) (v := 10 * v + (chA cs p - 48)) (p := p + 1) c.2.2 (by omega)
      exact ⟨this.1, by omega, this.2.2⟩
    · exact ⟨h, Nat.le_refl p, hp⟩
theorem rdN_ok {cs : List Nat} {most p v q : Nat} (hm : 9 ≤ most) (h : rdN cs most p = some (v, q)) : v ≤ most ∧ p + 1 ≤ q ∧ q ≤ cs.length := by
  unfold rdN at h
  split at h
  · rename_i c
    have hin := chA_in (cs := cs) (p := p) (by omega)
    have := rdG_ok (cs := cs) (most := most) (f := 59) (v := chA cs p - 48) (p := p + 1) (by omega) (by omega)
    have e := Option.some.inj h
    rw [e] at this
    exact this
  · cases h
theorem rdP_ok {cs : List Nat} {f l q r : Nat} {s : Stn} (hl : l < 27) (h : rdP cs f l q = (some s, r)) : sOk s ∧ q + 2 ≤ r ∧ r ≤ cs.length := by
  unfold rdP at h
  split at h
  · cases h
  · split at h
    · cases hv : rdN cs 999 (q + 1) with
      | none => rw [hv] at h; cases h
      | some x =>
        obtain ⟨v, r'⟩ := x
        rw [hv] at h
        simp only [Prod.mk.injEq, Option.some.injEq] at h
        obtain ⟨rfl, rfl⟩ := h
        have := rdN_ok (by decide) hv
        exact ⟨sOk_mk (by decide) (by omega) hl (by omega), by omega, this.2.2⟩
    · cases h
theorem rdO_ok {cs : List Nat} {p q : Nat} {s : Stn} (h : rdO cs p = (some s, q)) : sOk s ∧ p + 2 ≤ q ∧ q ≤ cs.length := by
  unfold rdO at h
  cases hf : rdN cs 26 p with
  | none => rw [hf] at h; cases h
  | some x =>
    obtain ⟨f, q1⟩ := x
    rw [hf] at h
    have h1 := rdN_ok (by decide) hf
    simp only at h
    split at h
    · rename_i c
      have hin := chA_in (cs := cs) (p := q1) (by omega)
      simp only [Prod.mk.injEq, Option.some.injEq] at h
      obtain ⟨rfl, rfl⟩ := h
      exact ⟨sOk_mk (by decide) (Nat.le_refl f) (by omega) (by decide), by omega, by omega⟩
    · split at h
      · cases hv : rdN cs 999 (q1 + 1) with
        | none => rw [hv] at h; cases h
        | some x =>
          obtain ⟨v, r'⟩ := x
          rw [hv] at h
          simp only [Prod.mk.injEq, Option.some.injEq] at h
          obtain ⟨rfl, rfl⟩ := h
          have := rdN_ok (by decide) hv
          exact ⟨sOk_mk (by decide) (Nat.le_refl f) (by omega) (by omega), by omega, this.2.2⟩
      · split at h
        · cases hv : rdN cs 26 (q1 + 1) with
          | none => rw [hv] at h; cases h
          | some x =>
            obtain ⟨l, r'⟩ := x
            rw [hv] at h
            simp only at h
            have h2 := rdN_ok (by decide) hv
            have := rdP_ok (by omega) h
            exact ⟨this.1, by omega, this.2.2⟩
        · have := rdP_ok (by omega) h
          exact ⟨this.1, by omega, this.2.2⟩
theorem rdAll_ok {cs : List Nat} : ∀ (f p : Nat), ∀ s ∈ (rdAll cs f p).1, sOk s
  | 0, p, s, h => by cases h
  | f + 1, p, s, h => by
    unfold rdAll at h
    cases ho : rdO cs p with
    | mk o q =>
      rw [ho] at h
      cases o with
      | none => cases h
      | some t =>
        have ht := (rdO_ok ho).1
        simp only at h
        split at h
        · rw [List.mem_singleton.mp h]; exact ht
        · split at h
          · rcases List.mem_cons.mp h with e | e
            · rw [e]; exact ht
            · exact rdAll_ok f (q + 1) s e
          · rw [List.mem_singleton.mp h]; exact ht
theorem dropA_ok : ∀ (l : List Stn) (t : TS), (∀ s ∈ l, sOk s) → TOk t → TOk (dropA l t)
  | [], _, _, h => h
  | s :: l, t, hs, h => dropA_ok l (dropT s t) (fun u hu => hs u (List.mem_cons_of_mem _ hu)) (dropT_ok (hs s (List.mem_cons_self ..)) h)
theorem fCarry_ok {F : FS} (h : FOk F) : FOk (fCarry F).2 := by
  unfold fCarry
  split
  · have h1 := fGo_ok h (dropA_ok (rdAll F.2.2.2 20 0).1 F.1 (rdAll_ok 20 0) h.1)
    exact ⟨h1.1, h1.2.1, h1.2.2.1, h1.2.2.2.1, Nat.zero_le _, fun c hc => by cases hc⟩
  · exact h
/-! the class's reader -/
def PS (cs : List Nat) (p : Nat) (ol : List Stn) (μ : Mem) : Prop := PadX (μ 0 0) (μ 1) cs ∧ μ 0 2 = nI p ∧ μ 0 1 = nI ol.length ∧ ∀ j s, ol[j]? = some s → μ 2 j = encX s
theorem na_chr : ∀ c, c < 127 → narrow .char (.int (nI c)) = .int (nI c) := by decide +kernel
theorem PS_p {cs : List Nat} {p q : Nat} {ol : List Stn} {μ : Mem} (h : PS cs p ol μ) : PS cs q ol (mset μ 0 2 (nI q)) := by
  obtain ⟨⟨h1, h2⟩, h3, h4, h5⟩ := h
  refine ⟨⟨?_, fun i c hi => ?_⟩, ms_same _ _ _ _, ?_, fun j s hj => ?_⟩
  · rw [ms_place _ _ _ (by decide)]; exact h1
  · rw [ms_cell _ _ _ (by decide)]; exact h2 i c hi
  · rw [ms_place _ _ _ (by decide)]; exact h4
  · rw [ms_cell _ _ _ (by decide)]; exact h5 j s hj
theorem c_chr {cs : List Nat} (hcs : csOk cs) {p : Nat} (hp : p < 2 ^ 31) {ol : List Stn} {μ : Mem} (h : PS cs p ol μ) {Q : Int32 → Mem → Prop} (hQ : Q (nI (chA cs p)) μ) : wpX1_characterAtCursor μ Q := by
  have h60 := hcs.1
  have no : cs.length ≤ p → bkX1_characterAtCursor_34 Q μ := fun hl => by
    rw [chA_out hl] at hQ
    unfold bkX1_characterAtCursor_34 bkX1_characterAtCursor_35
    exact ⟨fun _ => ⟨na_chr 0 (by decide), hQ⟩, fun q => absurd rfl q⟩
  unfold wpX1_characterAtCursor
  rw [h.2.1, h.1.1, nI_leI (by omega) hp, li 60, nI_leI (by decide) hp]
  refine ⟨fun q => absurd q (nI_pos hp), fun _ => ⟨fun q => no q, fun q => ⟨fun q2 => no (by omega), fun q2 => ?_⟩⟩⟩
  have hin : p < cs.length := Nat.not_le.mp q
  unfold bkX1_characterAtCursor_35
  rw [h.2.1, nI_clamp hp, h.1.2 p _ (chA_get hin)]
  exact ⟨fun q => absurd q (by decide), fun _ => ⟨vinI (by omega) (by decide), na_chr _ (chA_lt hcs p), hQ⟩⟩
theorem c_dig {cs : List Nat} (hcs : csOk cs) {p : Nat} (hp : p < 2 ^ 31) {ol : List Stn} {μ : Mem} (h : PS cs p ol μ) {Q : Int32 → Mem → Prop} (h1 : 48 ≤ chA cs p ∧ chA cs p ≤ 57 → Q (nI (chA cs p - 48)) μ) (h2 : ¬ (48 ≤ chA cs p ∧ chA cs p ≤ 57) → Q (-1) μ) : wpX1_digitAtCursor μ Q := by
  have hc := chA_lt hcs p
  unfold wpX1_digitAtCursor
  refine c_chr hcs hp h ?_
  rw [li 48, nI_ltI (by omega) (by decide), li 57, nI_ltI (by decide) (by omega)]
  refine ⟨fun q => h2 (by omega), fun q => ⟨fun q2 => h2 (by omega), fun q2 => ?_⟩⟩
  rw [nI_sub (by omega)]
  exact h1 (by omega)
theorem c_take {cs : List Nat} (hcs : csOk cs) {p c : Nat} (hp : p < 2 ^ 30) (hc : c < 2 ^ 31) {ol : List Stn} {μ : Mem} (h : PS cs p ol μ) {Q : Int32 → Mem → Prop} (h1 : chA cs p = c → ∀ μ', PS cs (p + 1) ol μ' → Q 1 μ') (h2 : ¬ chA cs p = c → Q 0 μ) : wpX1_take (nI c) μ Q := by
  have hl := chA_lt hcs p
  unfold wpX1_take
  refine c_chr hcs (by omega) h ⟨fun q => ?_, fun q => h2 (fun e => q (by rw [e]))⟩
  rw [h.2.1, li 1, nI_add]
  rintro _ rfl
  exact h1 (nI_inj (by omega) hc q) _ (PS_p h)
theorem lc_num {cs : List Nat} (hcs : csOk cs) {most : Nat} (hm : most < 1000) {ol : List Stn} {Q : Int32 → Mem → Prop} : ∀ (f g v p : Nat) (μ : Mem), f < g → f ≤ 60 → v < 1000 → p ≤ 61 → 60 ≤ p + f → PS cs p ol μ → (∀ μ', PS cs (rdG cs most f v p).2 ol μ' → Q (nI (rdG cs most f v p).1) μ') → bkX1_readNumber_4 Q g (nI most) (nI v) (nI (60 - f)) μ
  | _, 0, _, _, _, hg, _, _, _, _, _, _ => absurd hg (Nat.not_lt_zero _)
  | 0, g + 1, v, p, μ, _, _, hv, hp61, hp, hS, hQ => by
    unfold bkX1_readNumber_4
    exact ⟨fun _ => hQ μ hS, fun q => absurd (nI_le (Nat.le_refl 60) (by decide)) q⟩
  | f + 1, g + 1, v, p, μ, hg, hf, hv, hp61, hp, hS, hQ => by
    unfold bkX1_readNumber_4
    unfold rdG at hQ
    refine ⟨fun q => absurd q (nI_ge (show 60 - (f + 1) < 60 by omega) (by decide)), fun _ => c_dig hcs (by omega) hS (fun hd => ?_) (fun hd => ?_)⟩
    · have hin := chA_in (cs := cs) (p := p) (by omega)
      have h60 := hcs.1
      refine ⟨fun q => absurd q (nI_pos (by omega)), fun _ => ⟨fun q => ?_, fun q => ?_⟩⟩
      · have hv0 : 0 < v := Nat.pos_of_ne_zero (fun e => q (by rw [e]; rfl))
        have e : (if nI v < 0 then (0 : Int32) else nI v) * 10 + nI (chA cs p - 48) = nI (10 * v + (chA cs p - 48)) := by
          rw [if_neg (nI_pos (by omega)), li 10, nI_mul, nI_add, Nat.mul_comm]
        rw [e]
        rintro _ rfl
        rw [nI_leI (by omega) (by omega)]
        by_cases hle : 10 * v + (chA cs p - 48) ≤ most
        · rw [if_pos ⟨hv0, hd, hle⟩] at hQ
          refine ⟨fun _ => ?_, fun q => absurd hle q⟩
          rw [hS.2.1, li 1, nI_add]
          rintro _ rfl _ rfl
          rw [nI_add, show 60 - (f + 1) + 1 = 60 - f by omega]
          exact lc_num hcs hm f g _ (p + 1) _ (by omega) (by omega) (by omega) (by omega) (by omega) (PS_p hS) hQ
        · rw [if_neg (fun z => hle z.2.2)] at hQ
          exact ⟨fun q => absurd q hle, fun _ => hQ μ hS⟩
      · have hv0 : v = 0 := nI_inj (b := 0) (by omega) (by decide) q
        rw [if_neg (fun z => by omega)] at hQ
        exact hQ μ hS
    · rw [if_neg (fun z => hd z.2.1)] at hQ
      exact ⟨fun _ => hQ μ hS, fun q => absurd (by decide) q⟩
theorem c_num {cs : List Nat} (hcs : csOk cs) {most : Nat} (h9 : 9 ≤ most) (hm : most < 1000) {ol : List Stn} {p : Nat} (hp : p ≤ 60) {μ : Mem} (hS : PS cs p ol μ) {Q : Int32 → Mem → Prop} (h0 : rdN cs most p = none → Q (-1) μ) (h1 : ∀ v q, rdN cs most p = some (v, q) → ∀ μ', PS cs q ol μ' → Q (nI v) μ') : wpX1_readNumber (nI most) μ Q := by
  unfold wpX1_readNumber
  refine ⟨61, ?_⟩
  unfold bkX1_readNumber_4
  refine ⟨fun q => absurd q (by decide), fun _ => c_dig hcs (by omega) hS (fun hd => ?_) (fun hd => ?_)⟩
  · have hN : rdN cs most p = some (rdG cs most 59 (chA cs p - 48) (p + 1)) := by unfold rdN; rw [if_pos hd]
    refine ⟨fun q => absurd q (nI_pos (by omega)), fun _ => ⟨fun _ => ?_, fun q => absurd q (by decide)⟩⟩
    have e : (if (-1 : Int32) < 0 then (0 : Int32) else -1) * 10 + nI (chA cs p - 48) = nI (chA cs p - 48) := by
      rw [if_pos (by decide)]
      show nI 0 * nI 10 + nI (chA cs p - 48) = _
      rw [nI_mul, nI_add, Nat.zero_mul, Nat.zero_add]
    rw [e]
    rintro _ rfl
    refine ⟨fun _ => ?_, fun q => absurd (nI_le (by omega) (by omega)) q⟩
    rw [hS.2.1, li 1, nI_add]
    rintro _ rfl _ rfl
    exact lc_num hcs hm 59 60 _ (p + 1) _ (by decide) (by decide) (by omega) (by omega) (by omega) (PS_p hS) (h1 _ _ hN)
  · exact ⟨fun _ => h0 (by unfold rdN; rw [if_neg hd]), fun q => absurd (by decide) q⟩
theorem c_keep {cs : List Nat} {p : Nat} {ol : List Stn} {μ : Mem} (hS : PS cs p ol μ) {K f l v : Nat} (hs : sOk (K, f, l, v)) (h20 : ol.length < 20) {Q : Int32 → Mem → Prop} (hQ : ∀ μ', PS cs p (ol ++ [(K, f, l, v)]) μ' → Q 1 μ') : wpX1_keep (nI K) (nI f) (nI l) (nI v) μ Q := by
  have hL : l < 27 := hs.2.2.1
  have hfl : f ≤ l := hs.2.1
  have hN : v < 1000 := hs.2.2.2
  obtain ⟨⟨h1, h2⟩, h3, h4, h5⟩ := hS
  unfold wpX1_keep
  rw [h4, nI_clamp (show ol.length < 2 ^ 31 by omega)]
  refine ⟨fun q => absurd q (nI_pos (by omega)), fun _ => ⟨fun q => absurd q (nI_pos (by omega)), fun _ => ⟨fun _ => r_of (by omega) (by omega) (by omega) ⟨vinI (by omega) (by decide), ?_⟩, fun q => absurd (nI_lt h20 (by decide)) q⟩⟩⟩
  rintro μ2 e2
  have f1 : μ2 0 1 = nI ol.length := by rw [e2, ms_cell _ _ _ (by decide)]; exact h4
  rw [f1, li 1, nI_add]
  rintro _ rfl
  refine hQ _ ⟨⟨?_, fun i c hi => ?_⟩, ?_, ?_, fun j s hj => ?_⟩
  · rw [ms_place _ _ _ (by decide), e2, ms_cell _ _ _ (by decide)]; exact h1
  · rw [ms_cell _ _ _ (by decide), e2, ms_cell _ _ _ (by decide)]; exact h2 i c hi
  · rw [ms_place _ _ _ (by decide), e2, ms_cell _ _ _ (by decide)]; exact h3
  · rw [ms_same, List.length_append]; rfl
  · rw [ms_cell _ _ _ (by decide), e2]
    rcases Nat.lt_or_ge j ol.length with g | g
    · rw [ms_place _ _ _ (by omega)]
      rw [List.getElem?_append_left g] at hj
      exact h5 j s hj
    · have hlt := getE_lt hj
      rw [List.length_append, List.length_singleton] at hlt
      have ej : j = ol.length := by omega
      subst ej
      rw [List.getElem?_append_right (Nat.le_refl _), Nat.sub_self] at hj
      cases hj
      rw [ms_same]
theorem c_keepN {a1 a2 a3 : Int32} {μ : Mem} {Q : Int32 → Mem → Prop} (hQ : Q 0 μ) : wpX1_keep a1 a2 a3 (-1) μ Q := by
  unfold wpX1_keep
  exact ⟨fun _ => hQ, fun q => absurd (by decide) q⟩
theorem c_piece {cs : List Nat} (hcs : csOk cs) {f l q : Nat} (hf : f < 27) (hl : l < 27) (hq : q ≤ 60) {ol : List Stn} {μ : Mem} (hS : PS cs q ol μ) (h20 : ol.length < 20) {Q : Int32 → Mem → Prop} (h0 : ∀ r, rdP cs f l q = (none, r) → ∀ μ', PS cs r ol μ' → Q 0 μ') (h1 : ∀ s r, rdP cs f l q = (some s, r) → ∀ μ', PS cs r (ol ++ [s]) μ' → Q 1 μ') : bkX1_readOrder_73 Q (nI f) (nI l) μ := by
  have h60 := hcs.1
  unfold rdP at h0 h1
  unfold bkX1_readOrder_73
  rw [nI_ltI (by omega) (by omega)]
  by_cases hlf : l < f
  · rw [if_pos hlf] at h0
    exact ⟨fun _ => h0 q rfl μ hS, fun z => absurd hlf z⟩
  · rw [if_neg hlf] at h0 h1
    refine ⟨fun z => absurd z hlf, fun _ => c_take (c := 43) hcs (by omega) (by decide) hS (fun hc μ2 hS2 => ?_) (fun hc => ?_)⟩
    · rw [if_pos hc] at h0 h1
      have hin := chA_in (cs := cs) (p := q) (by omega)
      refine ⟨fun _ => ?_, fun z => absurd z (by decide)⟩
      refine c_num (most := 999) hcs (by decide) (by decide) (p := q + 1) (by omega) hS2 (fun hn => ?_) (fun v r hn μ3 hS3 => ?_)
      · rw [hn] at h0
        exact c_keepN ⟨Or.inl rfl, h0 (q + 1) rfl μ2 hS2⟩
      · rw [hn] at h1
        have hv := rdN_ok (by decide) hn
        exact c_keep (K := 1) hS3 (sOk_mk (by decide) (Nat.not_lt.mp hlf) hl (by omega)) h20 (fun μ4 hS4 => ⟨Or.inr rfl, h1 _ r rfl μ4 hS4⟩)
    · rw [if_neg hc] at h0
      exact ⟨fun z => absurd rfl z, fun _ => h0 q rfl μ hS⟩
theorem c_order {cs : List Nat} (hcs : csOk cs) {p : Nat} (hp : p ≤ 60) {ol : List Stn} {μ : Mem} (hS : PS cs p ol μ) (h20 : ol.length < 20) {Q : Int32 → Mem → Prop} (h0 : ∀ r, rdO cs p = (none, r) → ∀ μ', PS cs r ol μ' → Q 0 μ') (h1 : ∀ s r, rdO cs p = (some s, r) → ∀ μ', PS cs r (ol ++ [s]) μ' → Q 1 μ') : wpX1_readOrder μ Q := by
  have h60 := hcs.1
  unfold rdO at h0 h1
  unfold wpX1_readOrder
  refine c_num (most := 26) hcs (by decide) (by decide) hp hS (fun hn => ?_) (fun f q hn μ2 hS2 => ?_)
  · rw [hn] at h0
    exact ⟨fun z => absurd z (by decide), fun _ => h0 p rfl μ hS⟩
  · rw [hn] at h0 h1
    simp only at h0 h1
    obtain ⟨hf, hpq, hql⟩ := rdN_ok (by decide) hn
    have hf27 : f < 27 := by omega
    refine ⟨fun _ => ?_, fun z => absurd (nI_pos' (by omega)) z⟩
    refine c_take (c := 120) hcs (by omega) (by decide) hS2 (fun hc μ3 hS3 => ?_) (fun hc => ?_)
    · rw [if_pos hc] at h1
      exact ⟨fun z => absurd z (by decide), fun _ => c_keep (K := 2) (v := 0) hS3 (sOk_mk (by decide) (Nat.le_refl f) hf27 (by decide)) h20 (fun μ4 hS4 => ⟨Or.inr rfl, h1 _ (q + 1) rfl μ4 hS4⟩)⟩
    · rw [if_neg hc] at h0 h1
      refine ⟨fun _ => ?_, fun z => absurd rfl z⟩
      refine c_take (c := 61) hcs (by omega) (by decide) hS2 (fun hc2 μ3 hS3 => ?_) (fun hc2 => ?_)
      · rw [if_pos hc2] at h0 h1
        have hin := chA_in (cs := cs) (p := q) (by omega)
        refine ⟨fun z => absurd z (by decide), fun _ => ?_⟩
        refine c_num (most := 999) hcs (by decide) (by decide) (p := q + 1) (by omega) hS3 (fun hn2 => ?_) (fun v r hn2 μ4 hS4 => ?_)
        · rw [hn2] at h0
          exact c_keepN ⟨Or.inl rfl, h0 (q + 1) rfl μ3 hS3⟩
        · rw [hn2] at h1
          have hv := rdN_ok (by decide) hn2
          exact c_keep (K := 0) hS4 (sOk_mk (by decide) (Nat.le_refl f) hf27 (by omega)) h20 (fun μ5 hS5 => ⟨Or.inr rfl, h1 _ r rfl μ5 hS5⟩)
      · rw [if_neg hc2] at h0 h1
        refine ⟨fun _ => ?_, fun z => absurd rfl z⟩
        refine c_take (c := 45) hcs (by omega) (by decide) hS2 (fun hc3 μ3 hS3 => ?_) (fun hc3 => ?_)
        · rw [if_pos hc3] at h0 h1
          have hin := chA_in (cs := cs) (p := q) (by omega)
          refine ⟨fun z => absurd z (by decide), fun _ => ?_⟩
          refine c_num (most := 26) hcs (by decide) (by decide) (p := q + 1) (by omega) hS3 (fun hn2 => ?_) (fun l r hn2 μ4 hS4 => ?_)
          · rw [hn2] at h0
            unfold bkX1_readOrder_73
            refine ⟨fun _ => h0 (q + 1) rfl μ3 hS3, fun z => absurd ?_ z⟩
            rw [Int32.lt_iff_toInt_lt, nI_toInt (by omega), m1_toInt]
            omega
          · rw [hn2] at h0 h1
            have hv := rdN_ok (by decide) hn2
            exact c_piece hcs hf27 (by omega) (by omega) hS4 h20 h0 h1
        · rw [if_neg hc3] at h0 h1
          exact ⟨fun _ => c_piece hcs hf27 hf27 (by omega) hS2 h20 h0 h1, fun z => absurd rfl z⟩
theorem lc_orders {cs : List Nat} (hcs : csOk cs) {Q : Int32 → Mem → Prop} : ∀ (f g i p : Nat) (ol : List Stn) (μ : Mem), f < g → i + f = 20 → ol.length = i → p ≤ 60 → PS cs p ol μ → ((rdAll cs f p).2 = none → ∀ q μ', PS cs q (ol ++ (rdAll cs f p).1) μ' → Q (-6) μ') → (∀ x, (rdAll cs f p).2 = some x → ∀ ol' μ', PS cs x ol' μ' → Q (nI x) μ') → bkX1_readOrders_12 Q g (nI i) μ
  | _, 0, _, _, _, _, hg, _, _, _, _, _, _ => absurd hg (Nat.not_lt_zero _)
  | 0, g + 1, i, p, ol, μ, _, hi, _, hp, hS, _, h1 => by
    unfold bkX1_readOrders_12
    refine ⟨fun _ => ?_, fun q => absurd (nI_le (show 20 ≤ i by omega) (by omega)) q⟩
    rw [hS.2.1]
    exact h1 p rfl ol μ hS
  | f + 1, g + 1, i, p, ol, μ, hg, hi, hol, hp, hS, h0, h1 => by
    have h60 := hcs.1
    unfold rdAll at h0 h1
    unfold bkX1_readOrders_12
    refine ⟨fun q => absurd q (nI_ge (show i < 20 by omega) (by decide)), fun _ => c_order hcs hp hS (by omega) (fun r ho μ2 hS2 => ?_) (fun s r ho μ2 hS2 => ?_)⟩
    · rw [ho] at h1
      refine ⟨fun z => absurd rfl z, fun _ => ?_⟩
      rw [hS2.2.1]
      exact h1 r rfl ol μ2 hS2
    · rw [ho] at h0 h1
      simp only at h0 h1
      obtain ⟨hs, hpr, hrl⟩ := rdO_ok ho
      refine ⟨fun _ => ?_, fun z => absurd z (by decide)⟩
      rw [hS2.2.1, hS2.1.1]
      by_cases he : r = cs.length
      · rw [if_pos he] at h0
        exact ⟨fun z => absurd (by rw [he]) z, fun _ => h0 rfl r μ2 hS2⟩
      · rw [if_neg he] at h0 h1
        refine ⟨fun _ => ?_, fun z => absurd (nI_inj (by omega) (by omega) z) he⟩
        refine c_take (c := 59) hcs (by omega) (by decide) hS2 (fun hc μ3 hS3 => ?_) (fun hc => ?_)
        · rw [if_pos hc] at h0 h1
          refine ⟨fun _ => ?_, fun z => absurd z (by decide)⟩
          rintro _ rfl
          rw [nI_1]
          refine lc_orders hcs f g (i + 1) (r + 1) (ol ++ [s]) μ3 (by omega) (by omega) (by rw [List.length_append, hol]; rfl) (by omega) hS3 (fun hn q μ' hS' => h0 hn q μ' ?_) (fun x hx ol' μ' hS' => h1 x hx ol' μ' hS')
          rw [List.append_assoc] at hS'
          exact hS'
        · rw [if_neg hc] at h1
          refine ⟨fun z => absurd rfl z, fun _ => ?_⟩
          rw [hS2.2.1]
          exact h1 r rfl _ μ2 hS2
theorem c_orders {cs : List Nat} (hcs : csOk cs) {μ : Mem} (hP : PadX (μ 0 0) (μ 1) cs) {Q : Int32 → Mem → Prop} (h0 : (rdAll cs 20 0).2 = none → ∀ q μ', PS cs q (rdAll cs 20 0).1 μ' → Q (-6) μ') (h1 : ∀ x, (rdAll cs 20 0).2 = some x → ∀ ol' μ', PS cs x ol' μ' → Q (nI x) μ') : wpX1_readOrders μ Q := by
  unfold wpX1_readOrders
  rintro μ1 e1 μ2 e2
  refine ⟨21, lc_orders hcs 20 21 0 0 [] μ2 (by decide) (by decide) rfl (by decide) ⟨⟨?_, fun i c hi => ?_⟩, ?_, ?_, fun j s hj => by cases hj⟩ h0 h1⟩
  · rw [e2, e1, ms_place _ _ _ (by decide), ms_place _ _ _ (by decide)]; exact hP.1
  · rw [e2, e1, ms_cell _ _ _ (by decide), ms_cell _ _ _ (by decide)]; exact hP.2 i c hi
  · rw [e2, ms_same]; rfl
  · rw [e2, e1, ms_place _ _ _ (by decide), ms_same]; rfl
theorem FOk_cs {F : FS} (h : FOk F) : csOk F.2.2.2 := ⟨h.2.2.2.2.1, h.2.2.2.2.2⟩
theorem x_reads {μ : Mem} {F : FS} (hF : RepF μ F) (hok : FOk F) {Q : Int32 → Mem → Prop} (h0 : (rdAll F.2.2.2 20 0).2 = none → ∀ μ', RepF μ' F → μ' 85 1 = nI (rdAll F.2.2.2 20 0).1.length → (∀ j s, (rdAll F.2.2.2 20 0).1[j]? = some s → μ' 87 j = encX s) → Q (-6) μ') (h1 : ∀ x, (rdAll F.2.2.2 20 0).2 = some x → ∀ μ', RepF μ' F → Q (nI x) μ') : wpX1_readOrders (fun k => μ (e1 85 k)) (fun r μ2 => ∀ μ3 : Mem, μ3 = glue (e1 85) 3 μ μ2 → Q r μ3) := by
  have fr : ∀ {p : Nat} {ol : List Stn} {τ : Mem}, PS F.2.2.2 p ol τ → RepF (glue (e1 85) 3 μ τ) F := fun {p ol τ} hS => by
    have h85 : glue (e1 85) 3 μ τ 85 = τ 0 := gl_in (b := 85) (k := 0) (by decide)
    have h86 : glue (e1 85) 3 μ τ 86 = τ 1 := gl_in (b := 85) (k := 1) (by decide)
    exact RepF_pad (cs := F.2.2.2) hF (fun k hk => gl_ne (by omega)) (by rw [h85, h86]; exact hS.1)
  refine c_orders (FOk_cs hok) hF.2.2.2 (fun hn q τ hS => ?_) (fun x hx ol' τ hS => ?_)
  · rintro _ rfl
    have h85 : glue (e1 85) 3 μ τ 85 = τ 0 := gl_in (b := 85) (k := 0) (by decide)
    have h87 : glue (e1 85) 3 μ τ 87 = τ 2 := gl_in (b := 85) (k := 2) (by decide)
    exact h0 hn _ (fr hS) (by rw [h85]; exact hS.2.2.1) (fun j s hj => by rw [h87]; exact hS.2.2.2 j s hj)
  · rintro _ rfl
    exact h1 x hx _ (fr hS)
theorem x_fault {μ : Mem} {F : FS} (hF : RepF μ F) (hok : FOk F) {Q : Int32 → Mem → Prop} (hQ : ∀ μ', RepF μ' F → Q (fFault F) μ') : wpX5_fault μ Q := by
  unfold fFault at hQ
  unfold wpX5_fault
  refine x_reads hF hok (fun hn μ' h _ _ => ?_) (fun x hx μ' h => ?_)
  · rw [hn] at hQ; exact hQ μ' h
  · rw [hx] at hQ; exact hQ μ' h
theorem lx_carry {l : List Stn} (hl : ∀ s ∈ l, sOk s) (h20 : l.length ≤ 20) {Q : Int32 → Mem → Prop} : ∀ (m i f : Nat) (μ : Mem) (F : FS), i + m = l.length → m < f → RepF μ F → TOk F.1 → (∀ j s, l[j]? = some s → μ 87 j = encX s) → (∀ μ', RepF μ' (dropA (l.drop i) F.1, F.2.1, F.2.2.1, []) → Q (nI l.length) μ') → bkX5_carryOut_36 Q f (nI l.length) (nI i) μ
  | _, _, 0, _, _, _, hf, _, _, _, _ => absurd hf (Nat.not_lt_zero _)
  | 0, i, f + 1, μ, F, hi, _, hF, _, _, hQ => by
    have e : i = l.length := by omega
    unfold bkX5_carryOut_36
    refine ⟨fun _ => ?_, fun q => absurd (nI_le (by omega) (by omega)) q⟩
    unfold wpX1_clear
    rintro _ rfl _ rfl
    rw [e, List.drop_eq_nil_of_le (Nat.le_refl _)] at hQ
    refine hQ _ (RepF_pad hF (fun k hk => gl_ne (by omega)) ⟨?_, fun i c hi => by cases hi⟩)
    show glue (e1 85) 3 μ _ (85 + 0) 0 = 0
    rw [gl_in (by decide), ms_same]
  | m + 1, i, f + 1, μ, F, hi, hf, hF, hT, ho, hQ => by
    have hlt : i < l.length := by omega
    have hg : l[i]? = some l[i] := List.getElem?_eq_getElem hlt
    have hs := hl _ (List.getElem_mem hlt)
    unfold bkX5_carryOut_36
    refine ⟨fun q => absurd q (nI_ge hlt (by omega)), fun _ => ?_⟩
    unfold wpX1_order
    refine ⟨fun q => absurd q (nI_pos (by omega)), fun _ => ⟨fun q => absurd q (nI_ge (show i < 20 by omega) (by decide)), fun _ => ⟨vinI (by omega) (by decide), ?_⟩⟩⟩
    rintro _ rfl
    rw [gl_id]
    have e : μ (e1 85 2) i = encX l[i] := ho i _ hg
    rw [nI_clamp (show i < 2 ^ 31 by omega)]
    show wpX4_drop (μ (e1 85 2) i) _ _
    rw [e]
    refine r_drop hs hT hF.1 (fun μ17 h17 => ?_)
    rintro μ18 e18
    rintro _ rfl
    rw [nI_1]
    have hF18 : RepF μ18 (dropT l[i] F.1, F.2) := by rw [e18]; exact RepF_glue hF h17
    refine lx_carry hl h20 m (i + 1) f μ18 (dropT l[i] F.1, F.2) (by omega) (by omega) hF18 (dropT_ok hs hT) (fun j s hj => ?_) (fun μ' h => hQ μ' ?_)
    · rw [e18, gl_ne (by omega)]
      exact ho j s hj
    · rw [List.drop_eq_getElem_cons hlt]
      exact h
theorem rdAll_len {cs : List Nat} : ∀ (f p : Nat), (rdAll cs f p).1.length ≤ f
  | 0, _ => Nat.le_refl 0
  | f + 1, p => by
    unfold rdAll
    split
    · exact Nat.zero_le _
    · split
      · show 1 ≤ f + 1
        omega
      · split
        · rename_i q _ _ _
          have := rdAll_len (cs := cs) f (q + 1)
          show (rdAll cs f (q + 1)).1.length + 1 ≤ f + 1
          omega
        · show 1 ≤ f + 1
          omega
theorem rdP_le {cs : List Nat} (h60 : cs.length ≤ 60) {f l q r : Nat} {o : Option Stn} (hq : q ≤ 60) (h : rdP cs f l q = (o, r)) : r ≤ 60 := by
  unfold rdP at h
  split at h
  · cases h; exact hq
  · split at h
    · rename_i c
      have hin := chA_in (cs := cs) (p := q) (by omega)
      cases hv : rdN cs 999 (q + 1) with
      | none => rw [hv] at h; cases h; omega
      | some x =>
        obtain ⟨v, r'⟩ := x
        rw [hv] at h
        have := rdN_ok (by decide) hv
        cases h
        omega
    · cases h; exact hq
theorem rdO_le {cs : List Nat} (h60 : cs.length ≤ 60) {p q : Nat} {o : Option Stn} (hp : p ≤ 60) (h : rdO cs p = (o, q)) : q ≤ 60 := by
  unfold rdO at h
  cases hf : rdN cs 26 p with
  | none => rw [hf] at h; cases h; exact hp
  | some x =>
    obtain ⟨f, q1⟩ := x
    rw [hf] at h
    have h1 := rdN_ok (by decide) hf
    simp only at h
    split at h
    · have hin := chA_in (cs := cs) (p := q1) (by omega)
      cases h
      omega
    · split at h
      · have hin := chA_in (cs := cs) (p := q1) (by omega)
        cases hv : rdN cs 999 (q1 + 1) with
        | none => rw [hv] at h; cases h; omega
        | some x =>
          obtain ⟨v, r'⟩ := x
          rw [hv] at h
          have := rdN_ok (by decide) hv
          cases h
          omega
      · split at h
        · have hin := chA_in (cs := cs) (p := q1) (by omega)
          cases hv : rdN cs 26 (q1 + 1) with
          | none => rw [hv] at h; cases h; omega
          | some x =>
            obtain ⟨l, r'⟩ := x
            rw [hv] at h
            have h2 := rdN_ok (by decide) hv
            exact rdP_le h60 (by omega) h
        · exact rdP_le h60 (by omega) h
theorem rdAll_le {cs : List Nat} (h60 : cs.length ≤ 60) : ∀ (f p x : Nat), p ≤ 60 → (rdAll cs f p).2 = some x → x ≤ 60
  | 0, p, x, hp, h => by cases h; exact hp
  | f + 1, p, x, hp, h => by
    unfold rdAll at h
    cases ho : rdO cs p with
    | mk o q =>
      have hq := rdO_le h60 hp ho
      rw [ho] at h
      cases o with
      | none => cases h; exact hq
      | some t =>
        simp only at h
        split at h
        · cases h
        · split at h
          · have hin := chA_in (cs := cs) (p := q) (by omega)
            exact rdAll_le h60 f (q + 1) x (by omega) h
          · cases h; exact hq
theorem x_carry {μ : Mem} {F : FS} (hF : RepF μ F) (hok : FOk F) {Q : Int32 → Mem → Prop} (hQ : ∀ μ', RepF μ' (fCarry F).2 → Q (fCarry F).1 μ') : wpX5_carryOut μ Q := by
  unfold fCarry at hQ
  unfold wpX5_carryOut
  refine x_reads hF hok (fun hn μ3 h3 hc ho => ?_) (fun x hx μ3 h3 => ?_)
  · rw [hn] at hQ
    simp only at hQ
    refine ⟨fun _ => ?_, fun q => absurd rfl q⟩
    refine x_record2 h3 hok (fun μ6 h6 hk => ?_)
    unfold wpX1_orders
    rintro _ rfl
    rw [gl_id]
    have e : μ6 (e1 85 0) 1 = nI (rdAll F.2.2.2 20 0).1.length := by
      show μ6 85 1 = _
      rw [hk 85 (by decide)]
      exact hc
    show ∃ n, bkX5_carryOut_36 Q n (μ6 (e1 85 0) 1) 0 μ6
    rw [e]
    have h20 := rdAll_len (cs := F.2.2.2) 20 0
    exact ⟨_, lx_carry (l := (rdAll F.2.2.2 20 0).1) (rdAll_ok 20 0) h20 (rdAll F.2.2.2 20 0).1.length 0 _ μ6 (fGo F F.1) (by omega) (Nat.lt_succ_self _) h6 hok.1 (fun j s hj => by rw [hk 87 (by decide)]; exact ho j s hj) hQ⟩
  · rw [hx] at hQ
    have hx60 := rdAll_le (FOk_cs hok).1 20 0 x (by decide) hx
    exact ⟨fun q => absurd q (nI_ne_m6 (by omega)), fun _ => hQ μ3 h3⟩
