/-! the reference: sinking and coming -/
def SetQ (τ : Mem) (B d : Nat) : Prop := τ 1 0 = nI B ∧ τ 1 1 = nI d
/-- what a sinking keeps: places of `down` below lo, the new stone, settings, sent, looked, all but row, down, left -/
def keepM (lo : Nat) (μ μ' : Mem) : Prop := (∀ k j, k ≠ 1 → k ≠ 6 → k ≠ 7 → (k = 0 → j ≠ 2) → μ' k j = μ k j) ∧ (∀ j, (j < lo ∨ 288 ≤ j) → μ' 6 j = μ 6 j) ∧ (∀ j, j = 0 ∨ j = 1 ∨ j = 2 ∨ j = 5 → μ' 1 j = μ 1 j)
theorem keepM_refl (lo : Nat) (μ : Mem) : keepM lo μ μ := ⟨fun _ _ _ _ _ _ => rfl, fun _ _ => rfl, fun _ _ => rfl⟩
theorem keepM_trans {lo : Nat} {a b c : Mem} (h1 : keepM lo a b) (h2 : keepM lo b c) : keepM lo a c :=
  ⟨fun k j q1 q2 q3 q4 => (h2.1 k j q1 q2 q3 q4).trans (h1.1 k j q1 q2 q3 q4), fun j hj => (h2.2.1 j hj).trans (h1.2.1 j hj), fun j hj => (h2.2.2 j hj).trans (h1.2.2 j hj)⟩
theorem keepM_le {lo lo' : Nat} (hle : lo ≤ lo') {a b : Mem} (h : keepM lo' a b) : keepM lo a b := ⟨h.1, fun j hj => h.2.1 j (by omega), h.2.2⟩
theorem keepM_set {lo B d : Nat} {a b : Mem} (h : keepM lo a b) (hS : SetQ a B d) : SetQ b B d := ⟨(h.2.2 0 (Or.inl rfl)).trans hS.1, (h.2.2 1 (Or.inr (Or.inl rfl))).trans hS.2⟩
theorem lvl_96 {n : Nat} : lvl n + 96 ≤ 288 := by
  have : lvl n ≤ 192 := lvl_le
  omega
theorem frT_keep {n : Nat} {a b : Mem} (h : frT n a b) : keepM (lvl n) a b := by
  have := lvl_96 (n := n)
  refine ⟨h.1, fun j hj => h.2.1 j (by omega), fun j hj => h.2.2 j (by omega) ?_⟩
  unfold inM
  omega
theorem offQ_keep {n lo : Nat} {a b : Mem} (h : offQ n a b) : keepM lo a b := by
  refine ⟨fun k j q1 _ _ _ => ?_, fun j _ => ?_, fun j hj => ?_⟩
  · rcases h k j with g | g
    · exact absurd g.1 q1
    · exact g
  · rcases h 6 j with g | g
    · exact absurd g.1 (by decide)
    · exact g
  · rcases h 1 j with g | g
    · have := g.2
      unfold inM at this
      omega
    · exact g
theorem lq_sinks {n c lo' B d : Nat} {ch : Stn → WT → WT} {I : WT → Prop} (hI : ∀ s w, sOk s → clo n c ≤ sF s → sL s ≤ chi n c → lenW w → I w → lenW (ch s w) ∧ I (ch s w)) {g : List Stn} (hlo : lvl n + 4 * g.length ≤ lo') (hP : ∀ s ∈ g, sOk s ∧ clo n c ≤ sF s ∧ sL s ≤ chi n c) {Q : Mem → Prop} {bk : Nat → Int32 → Mem → Prop} (hend : ∀ f μ, Q μ → bk (f + 1) (nI g.length) μ)
    (hst : ∀ i s f μ w, g[i]? = some s → RowW (μ 1) w → SetQ μ B d → lenW w → I w → StM (μ 6) (lvl n + 4 * i) s → (∀ μ', RowW (μ' 1) (ch s w) → keepM lo' μ μ' → bk f (nI (i + 1)) μ') → bk (f + 1) (nI i) μ) :
    ∀ (m i f : Nat) (μ : Mem) (w : WT), i + m = g.length → m < f → RowW (μ 1) w → SetQ μ B d → lenW w → I w → RawL (μ 6) (lvl n) g → (∀ μ', RowW (μ' 1) ((g.drop i).foldl (fun w s => ch s w) w) → keepM lo' μ μ' → Q μ') → bk f (nI i) μ
  | _, _, 0, _, _, _, hf, _, _, _, _, _, _ => absurd hf (Nat.not_lt_zero _)
  | 0, i, f + 1, μ, w, hi, _, hw, _, _, _, _, hQ => by
    have e : i = g.length := by omega
    subst e
    refine hend f μ (hQ μ ?_ (keepM_refl _ _))
    rw [List.drop_eq_nil_of_le (Nat.le_refl _)]
    exact hw
  | m + 1, i, f + 1, μ, w, hi, hf, hw, hS, hl, hIw, hr, hQ => by
    have hlt : i < g.length := by omega
    have hg : g[i]? = some g[i] := List.getElem?_eq_getElem hlt
    obtain ⟨p1, p2, p3⟩ := hP g[i] (List.getElem_mem hlt)
    obtain ⟨i1, i2⟩ := hI g[i] w p1 p2 p3 hl hIw
    refine hst i g[i] f μ w hg hw hS hl hIw (hr i _ hg) (fun μ1 hw1 hk => ?_)
    refine lq_sinks hI hlo hP hend hst m (i + 1) f μ1 _ (by omega) (by omega) hw1 (keepM_set hk hS) i1 i2 (RawL_congr (fun j h1 h2 => hk.2.1 j (by omega)) hr) (fun μ' a b => hQ μ' ?_ (keepM_trans hk b))
    rw [List.drop_eq_getElem_cons hlt]
    exact a
/-- what a come asks of a sinking at its node -/
def SinkQ (WS : Int32 → Mem → (Mem → Prop) → Prop) (n lo B d : Nat) (sink : Nat → WT → WT) (I : WT → Prop) : Prop :=
  ∀ (c : Nat) (w : WT) (τ : Mem) (Q : Mem → Prop), c < 3 → bIn n (w.1 n).1 → capB n (w.1 n).1 ≤ 22 → RowW (τ 1) w → SetQ τ B d → lenW w → I w → (∀ τ', RowW (τ' 1) (sink c w) → keepM lo τ τ' → Q τ') → WS (nI c) τ Q
theorem lq_rounds {WS : Int32 → Mem → (Mem → Prop) → Prop} {n lo B d : Nat} {sink : Nat → WT → WT} {I : WT → Prop} (hn : n < 13) (hB : B < 2 ^ 31) (hsx : SinkQ WS n lo B d sink I) (hsi : SinkI n sink I) {Q : Mem → Prop} {bk : Nat → Mem → Prop}
    (hbk : ∀ f μ, wpX6_isTooFull (nI n) μ (fun r μ' => ((r = 0) → (Q μ')) ∧ ((¬ r = 0) → (wpX6_chosen (nI n) μ' (fun r5 μ6 => WS r5 μ6 (fun μ8 => bk f μ8))))) → bk (f + 1) μ) : ∀ (k f : Nat) (w : WT) (μ : Mem), k < f → 3 ≤ zc n (w.1 n).1 + k →
    bIn n (w.1 n).1 → capB n (w.1 n).1 ≤ 22 → lenW w → I w → SetQ μ B d → RowW (μ 1) w → (∀ μ', RowW (μ' 1) (roundsG B n sink k w) → keepM lo μ μ' → Q μ') → bk f μ
  | _, 0, _, _, hf, _, _, _, _, _, _, _, _ => absurd hf (Nat.not_lt_zero _)
  | 0, f + 1, w, μ, _, hz, hb, hcap, hl, hI, hS, hR, hQ => by
    have hN := (hR.1 n hn).1
    have e := zc_3 hb hz
    refine hbk f μ (q_isTooFull hn hB (hl n hn) hN hS.1 ?_)
    rw [e, if_neg (show ¬ B < ([] : List Stn).length from Nat.not_lt_zero B)]
    exact ⟨fun _ => hQ μ hR (keepM_refl _ _), fun q => absurd rfl q⟩
  | k + 1, f + 1, w, μ, hf, hz, hb, hcap, hl, hI, hS, hR, hQ => by
    have hlen := hl n hn
    have hN := (hR.1 n hn).1
    refine hbk f μ (q_isTooFull hn hB hlen hN hS.1 ?_)
    by_cases hlB : B < (w.1 n).1.length
    · rw [if_pos hlB]
      refine ⟨fun q => absurd q (by decide), fun _ => ?_⟩
      have hne : (w.1 n).1 ≠ [] := fun e => by rw [e] at hlB; exact absurd hlB (Nat.not_lt_zero _)
      refine q_chosen hn (bIn_ok hb) hlen hN ?_
      have hc := heav_lt n (w.1 n).1
      obtain ⟨h1, h2, h3⟩ := hsi _ w hc hb hcap hl hI
      have hu := zc_up hn hb hne
      have hr' := rst_cap hc hb
      refine hsx _ w μ _ hc hb hcap hR hS hl hI (fun μ1 hR1 hk1 => ?_)
      refine lq_rounds hn hB hsx hsi hbk k f _ μ1 (by omega) (by rw [h3]; omega) (by rw [h3]; exact rst_in hn hc hb) (by rw [h3]; omega) h1 h2 (keepM_set hk1 hS) hR1 (fun μ' a b => hQ μ' ?_ (keepM_trans hk1 b))
      unfold roundsG
      rw [if_pos hlB]
      exact a
    · rw [if_neg hlB]
      refine ⟨fun _ => hQ μ ?_ (keepM_refl _ _), fun q => absurd rfl q⟩
      unfold roundsG
      rw [if_neg hlB]
      exact hR
theorem q_come {WS : Int32 → Mem → (Mem → Prop) → Prop} {n lo p B d : Nat} {sink : Nat → WT → WT} {I : WT → Prop} (hn : n < 13) (hB : B < 2 ^ 31) (hd : d < 2) (hp : p + 3 < 292) (hsx : SinkQ WS n lo B d sink I) (hsi : SinkI n sink I) (hIs : ∀ x w, I w → I (setN n x w)) {w : WT} {s : Stn} (hs : sIn n s) (hno : nOk n (w.1 n)) (hl : lenW w) (hI : I w) {μ : Mem} (hS : SetQ μ B d) (hst : StM (μ 6) p s) (hR : RowW (μ 1) w) {Q : Mem → Prop} {bk : Nat → Mem → Prop}
    (hbk : ∀ f μ, wpX6_isTooFull (nI n) μ (fun r μ' => ((r = 0) → (Q μ')) ∧ ((¬ r = 0) → (wpX6_chosen (nI n) μ' (fun r5 μ6 => WS r5 μ6 (fun μ8 => bk f μ8))))) → bk (f + 1) μ)
    (hQ : ∀ μ', RowW (μ' 1) (comeG B d n sink s w) → keepM lo μ μ' → Q μ') : wpX6_puts (nI n) (nI p) μ (fun μ2 => ∃ f, bk f μ2) := by
  have hN := hR.1 n hn
  have hpi := putN_in (d := d) hno.2 hs
  have h10 := hno.1
  have hcapP : capB n (putN d (w.1 n) s).1 ≤ 22 := Nat.le_trans (cap_len _ _) (by omega)
  have hlP := lenW_set (n := n) (x := putN d (w.1 n) s) (by omega) hl
  refine q_puts hn hd hs.1 hp (bIn_ok hno.2) (by omega) hS.2 hN hst (fun μ1 h1 ho => ⟨4, ?_⟩)
  have hk1 : keepM lo μ μ1 := offQ_keep ho
  have e0 : (putN d (w.1 n) s).2.2.1 = (w.1 n).2.2.1 + 0 := by
    rw [Int32.add_zero]
    unfold putN
    split
    · split <;> rfl
    · rfl
  have hR1 : RowW (μ1 1) (setN n (putN d (w.1 n) s) w) := RowW_set (v := 0) hn hl hR (fun j hj => by
    rcases ho 1 j with g | g
    · exact Or.inl g.2
    · exact Or.inr g) h1 e0 (by
    rw [Int32.add_zero]
    rcases ho 1 3 with g | g
    · have := g.2
      unfold inM at this
      omega
    · exact g)
  refine lq_rounds hn hB hsx hsi hbk 3 4 _ μ1 (by omega) (by omega) ?_ ?_ hlP (hIs _ _ hI) (keepM_set hk1 hS) hR1 (fun μ' a b => hQ μ' a (keepM_trans hk1 b))
  · rw [setN_at]; exact hpi.1
  · rw [setN_at]; exact hcapP
/-! low nodes -/
theorem RowW_lfA {f g : Nat → Int32} {k : Nat} {s : Stn} {w : WT} (hk : k < 27) (hw : RowW f w) (ho : ∀ j, j ≠ 6 + k → j ≠ 4 → g j = f j) (h1 : g (6 + k) = encV (apl s (w.2.1 k))) (h2 : g 4 = f 4 + 1) (hl : lenW w) : RowW g (lfA k s w) := by
  refine ⟨fun n hn => ?_, fun j hj => ?_, ?_, ?_⟩
  · exact NodeM_congr (hl n hn) (fun j hj => ho j (by have := inM_low hn hj; omega) (by have := inM_low hn hj; omega)) (hw.1 n hn)
  · show _ = encV (up w.2.1 k _ j)
    by_cases h : j = k
    · subst h
      rw [up_same]
      exact h1
    · rw [up_ne _ _ h, ho _ (by omega) (by omega)]
      exact hw.2.1 j hj
  · rw [h2, hw.2.2.1]
    rfl
  · rw [ho 3 (by omega) (by decide)]
    exact hw.2.2.2
theorem sinkQ_L {n B d : Nat} (hn : n < 13) (h4 : 4 ≤ n) : SinkQ (wpX6_sinksLow (nI n)) n 192 B d (sinkL n) Ilf := fun c w τ Q hc hb hcap hR hS hl hI hQ => by
  have hlv : lvl n = 192 := by unfold lvl; rw [if_neg (by omega), if_neg (by omega)]
  have hck : chK n c = clo n c := by unfold chK; rw [if_neg (by omega)]
  have h27 := clo_27 n hn c hc
  have hg22 : (gon (clo n c) (chi n c) (w.1 n).1).length ≤ 22 := by rw [gon_len]; exact Nat.le_trans (wgt_le _ _ _) (hl n hn)
  have hr22 := cap_22 hc hb hcap
  unfold wpX6_sinksLow
  refine q_takes hn hc hl hR (bIn_ok hb) hr22 (fun μ1 hR1 hr hfr => q_childOf hn ?_)
  rw [hck]
  have hk1 := frT_keep hfr
  rw [hlv] at hk1
  have hlT : lenW (setN n (takeN n c (w.1 n)) w) := lenW_set (by
    have := hr22 (w.1 n).1 [] (List.append_nil _).symm
    exact this) hl
  refine ⟨_, lq_sinks (n := n) (c := c) (lo' := 288) (B := B) (d := d) (ch := lfA (clo n c)) (I := Ilf) (g := gon (clo n c) (chi n c) (w.1 n).1) (Q := Q) (bk := fun f i μ => bkX6_sinksLow_17 Q f (nI (gon (clo n c) (chi n c) (w.1 n).1).length) (nI (clo n c)) i μ) invL (by omega) (fun s hs => gon_mem hn hc hb hs) (fun f μ h => ?_) (fun i s f μ w' hi hw' hS' hl' hI' hst hh => ?_) (gon (clo n c) (chi n c) (w.1 n).1).length 0 _ μ1 _ (by omega) (Nat.lt_succ_self _) hR1 (keepM_set hk1 hS) hlT hI hr (fun μ' a b => hQ μ' a (keepM_trans hk1 (keepM_le (by decide) b)))⟩
  · unfold bkX6_sinksLow_17
    exact ⟨fun _ => h, fun q => absurd (nI_le (Nat.le_refl _) (by omega)) q⟩
  · have hlt := getE_lt hi
    have hmem := List.mem_of_getElem? hi
    have hs := (gon_mem hn hc hb hmem).1
    rw [hlv] at hst
    show bkX6_sinksLow_17 _ _ _ _ _ _
    unfold bkX6_sinksLow_17
    refine ⟨fun q => absurd q (nI_ge hlt (by omega)), fun _ => ?_⟩
    rintro _ rfl
    rw [li 192, li 4, li 6, nI_mul, nI_add, nI_add, nI_clamp (show 6 + clo n c < 2 ^ 31 by omega), nI_clamp (show 192 + 4 * i < 2 ^ 31 by omega), li 3, nI_add, nI_clamp (show 192 + 4 * i + 3 < 2 ^ 31 by omega), hst.1, hst.2.2.2, hw'.2.1 _ h27]
    refine ⟨vinI (by omega) (by decide), vinI (by omega) (by decide), vinI (by omega) (by decide), q_applied hs (hI' _ h27) ⟨vinI (by omega) (by decide), ?_⟩⟩
    rintro μ6 e6
    have f4 : μ6 1 4 = μ 1 4 := by rw [e6, ms_place _ _ _ (by omega)]
    refine ⟨vinI (n := 1333) (a := 4) (by decide) (by decide), vinI (n := 1333) (a := 4) (by decide) (by decide), ?_⟩
    show ∀ μ7 : Mem, μ7 = mset μ6 1 4 (μ6 1 4 + 1) → _
    rw [f4, e6]
    rintro _ rfl _ rfl
    rw [nI_1]
    refine hh _ (RowW_lfA h27 hw' (fun j q1 q2 => ?_) ?_ (ms_same _ _ _ _) hl') ⟨fun k j q1 q2 q3 q4 => ?_, fun j hj => ?_, fun j hj => ?_⟩
    · rw [ms_place _ _ _ q2, ms_place _ _ _ q1]
    · rw [ms_place _ _ _ (by omega), ms_same]
    · rw [ms_cell _ _ _ q1, ms_cell _ _ _ q1]
    · rw [ms_cell _ _ _ (by decide), ms_cell _ _ _ (by decide)]
    · rw [ms_place _ _ _ (by omega), ms_place _ _ _ (by omega)]
theorem q_comeL {n p B d : Nat} (hn : n < 13) (h4 : 4 ≤ n) (hB : B ≤ 10) (hd : d < 2) (hp : p + 3 < 292) {w : WT} {s : Stn} (hs : sIn n s) (hno : nOk n (w.1 n)) (hl : lenW w) (hI : Ilf w) {μ : Mem} (hS : SetQ μ B d) (hst : StM (μ 6) p s) (hR : RowW (μ 1) w) {Q : Mem → Prop}
    (hQ : ∀ μ', RowW (μ' 1) (comeL B d n s w) → keepM 192 μ μ' → Q μ') : wpX6_comesLow (nI n) (nI p) μ Q := by
  unfold wpX6_comesLow
  exact q_come (bk := fun f μ => bkX6_comesLow_6 Q f (nI n) μ) hn (by omega) hd hp (sinkQ_L hn h4) (sinkI_L hn) (fun _ _ h => h) hs hno hl hI hS hst hR (fun f μ h => h) hQ
/-! middle nodes -/
theorem sinkQ_M {n B d : Nat} (hn1 : 1 ≤ n) (hn : n < 4) (hB : B ≤ 10) (hd : d < 2) : SinkQ (wpX6_sinksMiddle (nI n)) n 96 B d (sinkM B d n) (IM n) := fun c w τ Q hc hb hcap hR hS hl hI hQ => by
  have hlv : lvl n = 96 := by unfold lvl; rw [if_neg (by omega), if_pos (by omega)]
  have hck : chK n c = chN n c := by unfold chK; rw [if_pos (by omega)]
  have hn13 : n < 13 := by omega
  have hg22 : (gon (clo n c) (chi n c) (w.1 n).1).length ≤ 22 := by rw [gon_len]; exact Nat.le_trans (wgt_le _ _ _) (hl n hn13)
  have hr22 := cap_22 hc hb hcap
  unfold wpX6_sinksMiddle
  refine q_takes hn13 hc hl hR (bIn_ok hb) hr22 (fun μ1 hR1 hr hfr => ?_)
  have hk1 := frT_keep hfr
  rw [hlv] at hk1
  have hlT : lenW (setN n (takeN n c (w.1 n)) w) := lenW_set (hr22 (w.1 n).1 [] (List.append_nil _).symm) hl
  refine ⟨_, lq_sinks (n := n) (c := c) (lo' := 192) (B := B) (d := d) (ch := comeL B d (chN n c)) (I := IM n) (g := gon (clo n c) (chi n c) (w.1 n).1) (Q := Q) (bk := fun f i μ => bkX6_sinksMiddle_10 Q f (nI n) (nI c) (nI (gon (clo n c) (chi n c) (w.1 n).1).length) i μ) (invM hn hc hB) (by omega) (fun s hs => gon_mem hn13 hc hb hs) (fun f μ h => ?_) (fun i s f μ w' hi hw' hS' hl' hI' hst hh => ?_) (gon (clo n c) (chi n c) (w.1 n).1).length 0 _ μ1 _ (by omega) (Nat.lt_succ_self _) hR1 (keepM_set hk1 hS) hlT (IM_set _ _ hI) hr (fun μ' a b => hQ μ' a (keepM_trans hk1 (keepM_le (by decide) b)))⟩
  · unfold bkX6_sinksMiddle_10
    exact ⟨fun _ => h, fun q => absurd (nI_le (Nat.le_refl _) (by omega)) q⟩
  · have hlt := getE_lt hi
    have hmem := List.mem_of_getElem? hi
    obtain ⟨hs, h1, h2⟩ := gon_mem hn13 hc hb hmem
    rw [hlv] at hst
    show bkX6_sinksMiddle_10 _ _ _ _ _ _ _
    unfold bkX6_sinksMiddle_10
    refine ⟨fun q => absurd q (nI_ge hlt (by omega)), fun _ => q_childOf hn13 ?_⟩
    rw [hck, li 96, li 4, nI_mul, nI_add]
    refine q_comeL (by unfold chN; omega) (by unfold chN; omega) hB hd (by omega) (sIn_child hn hc hs h1 h2) (hI'.2 c hc) hl' hI'.1 hS' hst hw' (fun μ2 hR2 hk2 => ?_)
    rintro _ rfl
    rw [nI_1]
    exact hh μ2 hR2 hk2
theorem q_comeM {n p B d : Nat} (hn1 : 1 ≤ n) (hn : n < 4) (hB : B ≤ 10) (hd : d < 2) (hp : p + 3 < 292) {w : WT} {s : Stn} (hs : sIn n s) (hno : nOk n (w.1 n)) (hl : lenW w) (hI : IM n w) {μ : Mem} (hS : SetQ μ B d) (hst : StM (μ 6) p s) (hR : RowW (μ 1) w) {Q : Mem → Prop}
    (hQ : ∀ μ', RowW (μ' 1) (comeM B d n s w) → keepM 96 μ μ' → Q μ') : wpX6_comesMiddle (nI n) (nI p) μ Q := by
  unfold wpX6_comesMiddle
  exact q_come (bk := fun f μ => bkX6_comesMiddle_6 Q f (nI n) μ) (by omega) (by omega) hd hp (sinkQ_M hn1 hn hB hd) (sinkI_M hn hB) IM_set hs hno hl hI hS hst hR (fun f μ h => h) hQ
/-! the root -/
theorem sinkQ_R {B d : Nat} (hB : B ≤ 10) (hd : d < 2) : SinkQ wpX6_sinksRoot 0 0 B d (sinkR B d) IR := fun c w τ Q hc hb hcap hR hS hl hI hQ => by
  have hlv : lvl 0 = 0 := rfl
  have hck : chK 0 c = chN 0 c := rfl
  have hg22 : (gon (clo 0 c) (chi 0 c) (w.1 0).1).length ≤ 22 := by rw [gon_len]; exact Nat.le_trans (wgt_le _ _ _) (hl 0 (by decide))
  have hr22 := cap_22 hc hb hcap
  unfold wpX6_sinksRoot
  refine q_takes (n := 0) (by decide) hc hl hR (bIn_ok hb) hr22 (fun μ1 hR1 hr hfr => ?_)
  have hk1 := frT_keep hfr
  rw [hlv] at hk1
  have hlT : lenW (setN 0 (takeN 0 c (w.1 0)) w) := lenW_set (hr22 (w.1 0).1 [] (List.append_nil _).symm) hl
  refine ⟨_, lq_sinks (n := 0) (c := c) (lo' := 96) (B := B) (d := d) (ch := comeM B d (chN 0 c)) (I := IR) (g := gon (clo 0 c) (chi 0 c) (w.1 0).1) (Q := Q) (bk := fun f i μ => bkX6_sinksRoot_9 Q f (nI c) (nI (gon (clo 0 c) (chi 0 c) (w.1 0).1).length) i μ) (invR hc hB) (by omega) (fun s hs => gon_mem (by decide) hc hb hs) (fun f μ h => ?_) (fun i s f μ w' hi hw' hS' hl' hI' hst hh => ?_) (gon (clo 0 c) (chi 0 c) (w.1 0).1).length 0 _ μ1 _ (by omega) (Nat.lt_succ_self _) hR1 (keepM_set hk1 hS) hlT (IR_set _ _ hI) hr (fun μ' a b => hQ μ' a (keepM_trans hk1 (keepM_le (by decide) b)))⟩
  · unfold bkX6_sinksRoot_9
    exact ⟨fun _ => h, fun q => absurd (nI_le (Nat.le_refl _) (by omega)) q⟩
  · have hlt := getE_lt hi
    have hmem := List.mem_of_getElem? hi
    obtain ⟨hs, h1, h2⟩ := gon_mem (by decide) hc hb hmem
    rw [hlv, Nat.zero_add] at hst
    show bkX6_sinksRoot_9 _ _ _ _ _ _
    unfold bkX6_sinksRoot_9
    refine ⟨fun q => absurd q (nI_ge hlt (by omega)), fun _ => q_childOf (n := 0) (by decide) ?_⟩
    rw [hck, li 4, nI_mul]
    refine q_comeM (by unfold chN; omega) (by unfold chN; omega) hB hd (by omega) (sIn_child (by decide) hc hs h1 h2) (hI'.2 _ (by unfold chN; omega) (by unfold chN; omega)) hl' (IR_M hc hI') hS' hst hw' (fun μ2 hR2 hk2 => ?_)
    rintro _ rfl
    rw [nI_1]
    exact hh μ2 hR2 hk2
/-- what the reference's other parts keep -/
def keepR (μ μ' : Mem) : Prop := ∀ k j, k ≠ 1 → k ≠ 6 → k ≠ 7 → (k = 0 → j ≠ 2) → μ' k j = μ k j
theorem keepR_refl (μ : Mem) : keepR μ μ := fun _ _ _ _ _ _ => rfl
theorem keepR_trans {a b c : Mem} (h1 : keepR a b) (h2 : keepR b c) : keepR a c := fun k j q1 q2 q3 q4 => (h2 k j q1 q2 q3 q4).trans (h1 k j q1 q2 q3 q4)
theorem RowW_congr {f g : Nat → Int32} {w : WT} (hl : lenW w) (h : ∀ j, 3 ≤ j → j ≠ 5 → g j = f j) (hw : RowW f w) : RowW g w := by
  refine ⟨fun n hn => NodeM_congr (hl n hn) (fun j hj => h j (by have := inM_low hn hj; omega) (by have := inM_low hn hj; omega)) (hw.1 n hn), fun k hk => ?_, ?_, ?_⟩
  · rw [h _ (by omega) (by omega)]
    exact hw.2.1 k hk
  · rw [h 4 (by decide) (by decide)]
    exact hw.2.2.1
  · rw [h 3 (by decide) (by decide)]
    exact hw.2.2.2
theorem q_drop {s : Stn} (hs : sOk s) {t : TS} (ht : TOk t) {μ : Mem} (hR : RowT (μ 1) t) {Q : Mem → Prop} (hQ : ∀ μ', RowT (μ' 1) (dropT s t) → keepR μ μ' → Q μ') : wpX6_comesRoot (nI (sK s)) (nI (sF s)) (nI (sL s)) (nI (sN s)) μ Q := by
  obtain ⟨r0, r1, r2, r5, rW⟩ := hR
  have hB := ht.2.1
  have hd := ht.2.2.1
  have hW := ht.2.2.2
  have hl := WOk_len hW
  have hL := hs.2.2.1
  unfold wpX6_comesRoot
  refine ⟨vinI (n := 292) (a := 288) (by decide) (by decide), ?_⟩
  rintro μ1 e1
  refine ⟨vinI (n := 292) (a := 289) (by decide) (by decide), ?_⟩
  rintro μ2 e2
  refine ⟨vinI (n := 292) (a := 290) (by decide) (by decide), ?_⟩
  rintro μ3 e3
  refine ⟨vinI (n := 292) (a := 291) (by decide) (by decide), ?_⟩
  rintro μ4 e4
  refine ⟨vinI (n := 1333) (a := 2) (by decide) (by decide), vinI (n := 1333) (a := 2) (by decide) (by decide), ?_⟩
  have c1 : μ4 1 = μ 1 := by rw [e4, e3, e2, e1, ms_cell _ _ _ (by decide), ms_cell _ _ _ (by decide), ms_cell _ _ _ (by decide), ms_cell _ _ _ (by decide)]
  show ∀ μ5 : Mem, μ5 = mset μ4 1 2 (μ4 1 2 + 1) → _
  rintro μ5 e5
  have hst : StM (μ5 6) 288 s := by
    rw [e5, ms_cell _ _ _ (by decide), e4, e3, e2, e1]
    refine ⟨?_, ?_, ?_, ?_⟩
    · exact ((ms_place _ _ _ (by decide)).trans ((ms_place _ _ _ (by decide)).trans (ms_place _ _ _ (by decide)))).trans (ms_same _ _ _ _)
    · exact ((ms_place _ _ _ (by decide)).trans (ms_place _ _ _ (by decide))).trans (ms_same _ _ _ _)
    · exact (ms_place _ _ _ (by decide)).trans (ms_same _ _ _ _)
    · exact ms_same _ _ _ _
  have hkR : keepR μ μ5 := fun k j q1 q2 q3 q4 => by
    rw [e5, ms_cell _ _ _ q1, e4, e3, e2, e1, ms_cell _ _ _ q2, ms_cell _ _ _ q2, ms_cell _ _ _ q2, ms_cell _ _ _ q2]
  have hrow : ∀ j, j ≠ 2 → μ5 1 j = μ 1 j := fun j hj => by rw [e5, ms_place _ _ _ hj, c1]
  have hS : SetQ μ5 t.1 t.2.1 := ⟨(hrow 0 (by decide)).trans r0, (hrow 1 (by decide)).trans r1⟩
  have hW5 : RowW (μ5 1) t.2.2.2.2 := RowW_congr hl (fun j h _ => hrow j (by omega)) rW
  refine q_come (n := 0) (p := 288) (bk := fun f μ => bkX6_comesRoot_55 Q f μ) (by decide) (by omega) hd (by decide) (sinkQ_R hB hd) (sinkI_R hB) IR_set ⟨hs, Nat.zero_le _, (by show sL s ≤ 26; omega)⟩ (hW.2 0 (by decide)) hl (WOk_IR hW) hS hst hW5 (fun f μ h => h) (fun μ' a b => hQ μ' ⟨?_, ?_, ?_, ?_, a⟩ (keepR_trans hkR b.1))
  · rw [b.2.2 0 (by decide)]; exact hS.1
  · rw [b.2.2 1 (by decide)]; exact hS.2
  · rw [b.2.2 2 (by decide), e5, ms_same, c1, r2]
    rfl
  · rw [b.2.2 5 (by decide), hrow 5 (by decide)]; exact r5
