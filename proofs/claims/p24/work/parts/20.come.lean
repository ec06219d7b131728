/-! coming and sinking, from the leaves up -/
/-- what a come asks of a sinking at its node -/
def SinkX (WS : Int32 → Int32 → Int32 → Mem → (Mem → Prop) → Prop) (n lv B d : Nat) (sink : Nat → WT → WT) (I : WT → Prop) : Prop :=
  ∀ (c : Nat) (w : WT) (τ : Mem) (Q : Mem → Prop), c < 3 → bIn n (w.1 n).1 → capB n (w.1 n).1 ≤ 22 → RepW τ w → SetX τ B d → lenW w → I w → (∀ τ', RepW τ' (sink c w) → keepX τ τ' → Q τ') → WS (nI n) (nI c) (nI lv) τ Q
/-- what a sinking keeps -/
def SinkI (n : Nat) (sink : Nat → WT → WT) (I : WT → Prop) : Prop :=
  ∀ (c : Nat) (w : WT), c < 3 → bIn n (w.1 n).1 → capB n (w.1 n).1 ≤ 22 → lenW w → I w → lenW (sink c w) ∧ I (sink c w) ∧ ((sink c w).1 n).1 = rst (clo n c) (chi n c) (w.1 n).1
theorem rounds_inv {n B : Nat} {sink : Nat → WT → WT} {I : WT → Prop} (hn : n < 13) (hsi : SinkI n sink I) : ∀ (k : Nat) (w : WT), bIn n (w.1 n).1 → capB n (w.1 n).1 ≤ 22 → lenW w → I w → 3 ≤ zc n (w.1 n).1 + k →
    lenW (roundsG B n sink k w) ∧ I (roundsG B n sink k w) ∧ bIn n ((roundsG B n sink k w).1 n).1 ∧ ((roundsG B n sink k w).1 n).1.length ≤ B
  | 0, w, hb, hcap, hl, hI, hz => by
    refine ⟨hl, hI, hb, ?_⟩
    show (w.1 n).1.length ≤ B
    rw [zc_3 hb hz]
    exact Nat.zero_le _
  | k + 1, w, hb, hcap, hl, hI, hz => by
    unfold roundsG
    by_cases hB : B < (w.1 n).1.length
    · rw [if_pos hB]
      have hc := heav_lt n (w.1 n).1
      obtain ⟨h1, h2, h3⟩ := hsi _ w hc hb hcap hl hI
      have hne : (w.1 n).1 ≠ [] := fun e => by rw [e] at hB; exact absurd hB (Nat.not_lt_zero _)
      have hu := zc_up hn hb hne
      have hr := rst_cap hc hb
      exact rounds_inv hn hsi k _ (by rw [h3]; exact rst_in hn hc hb) (by rw [h3]; omega) h1 h2 (by rw [h3]; omega)
    · rw [if_neg hB]
      exact ⟨hl, hI, hb, Nat.not_lt.mp hB⟩
theorem l_rounds {WS : Int32 → Int32 → Int32 → Mem → (Mem → Prop) → Prop} {n lv B d : Nat} {sink : Nat → WT → WT} {I : WT → Prop} (hn : n < 13) (hB : B < 2 ^ 31) (hsx : SinkX WS n lv B d sink I) (hsi : SinkI n sink I) : ∀ (k r f : Nat) (w : WT) (μ : Mem) (Q : Mem → Prop), r + k = 3 → k < f →
    bIn n (w.1 n).1 → capB n (w.1 n).1 ≤ 22 → lenW w → I w → SetX μ B d → RepW μ w → (∀ μ', RepW μ' (roundsG B n sink k w) → keepX μ μ' → Q μ') → bkX4_come_34 WS Q f (nI n) (nI lv) (nI r) μ
  | 0, _, 0, _, _, _, _, hf, _, _, _, _, _, _, _ => absurd hf (Nat.lt_irrefl 0)
  | 0, r, f + 1, w, μ, Q, hr, hf, hb, hcap, hl, hI, hS, hR, hQ => by
    have e : r = 3 := by omega
    subst e
    unfold bkX4_come_34
    exact ⟨fun _ => hQ μ hR (keepX_refl μ), fun q => absurd (nI_le (Nat.le_refl 3) (by decide)) q⟩
  | k + 1, _, 0, _, _, _, _, hf, _, _, _, _, _, _, _ => absurd hf (Nat.not_lt_zero _)
  | k + 1, r, f + 1, w, μ, Q, hr, hf, hb, hcap, hl, hI, hS, hR, hQ => by
    have hlen := hl n hn
    have hN := hR.1 n hn
    unfold bkX4_come_34
    refine ⟨fun q => absurd q (nI_ge (show r < 3 by omega) (by decide)), fun _ => r_stonesIn hn ?_⟩
    rw [hN.1.1]
    refine r_setting (i := 0) (by decide) ?_
    rw [hS.1]
    by_cases hlB : B < (w.1 n).1.length
    · refine ⟨fun q => absurd q (nI_ge hlB (by omega)), fun _ => ?_⟩
      have hne : (w.1 n).1 ≠ [] := fun e => by rw [e] at hlB; exact absurd hlB (Nat.not_lt_zero _)
      have hws := wg_some hb hne
      refine r_heaviest hn (bIn_ok hb) hlen hN.1 (fun _ => ?_) (fun h0 => ?_)
      · have hc := heav_lt n (w.1 n).1
        obtain ⟨h1, h2, h3⟩ := hsi _ w hc hb hcap hl hI
        have hr' := rst_cap hc hb
        refine hsx _ w μ _ hc hb hcap hR hS hl hI (fun μ1 hR1 hk1 => ?_)
        rintro _ rfl
        rw [nI_1]
        refine l_rounds hn hB hsx hsi k (r + 1) f _ μ1 Q (by omega) (by omega) (by rw [h3]; exact rst_in hn hc hb) (by rw [h3]; omega) h1 h2 ⟨(hk1.1 0).trans hS.1, (hk1.1 1).trans hS.2⟩ hR1 (fun μ' a b => hQ μ' ?_ (keepX_trans hk1 b))
        unfold roundsG
        rw [if_pos hlB]
        exact a
      · obtain ⟨c, hc, hp⟩ := hws
        have := h0 c hc
        omega
    · refine ⟨fun _ => hQ μ ?_ (keepX_refl μ), fun q => absurd (nI_le (Nat.not_lt.mp hlB) hB) q⟩
      unfold roundsG
      rw [if_neg hlB]
      exact hR
theorem r_come {WS : Int32 → Int32 → Int32 → Mem → (Mem → Prop) → Prop} {n lv B d : Nat} {sink : Nat → WT → WT} {I : WT → Prop} (hn : n < 13) (hlv : lv < 3) (hB : B < 2 ^ 31) (hd : d < 2) (hsx : SinkX WS n lv B d sink I) (hsi : SinkI n sink I) (hIs : ∀ x w, I w → I (setN n x w)) {w : WT} {s : Stn} (hs : sIn n s) (hno : nOk n (w.1 n)) (hl : lenW w) (hI : I w) {μ : Mem} (hS : SetX μ B d) (hR : RepW μ w) {Q : Mem → Prop}
    (hQ : ∀ μ', RepW μ' (comeG B d n sink s w) → keepX μ μ' → Q μ') : wpbX4_come WS (nI n) (encX s) (nI lv) μ Q := by
  have hN := hR.1 n hn
  have hp := putN_in (d := d) hno.2 hs
  have h10 := hno.1
  have hcapP : capB n (putN d (w.1 n) s).1 ≤ 22 := Nat.le_trans (cap_len _ _) (by omega)
  have hlP := lenW_set (n := n) (x := putN d (w.1 n) s) (by omega) hl
  -- behind the stone's coming
  have key : ∀ μ1, RepW μ1 (setN n (putN d (w.1 n) s) w) → keepX μ μ1 → ∃ f, bkX4_come_34 WS Q f (nI n) (nI lv) 0 μ1 := fun μ1 hR1 hk1 => by
    refine ⟨4, l_rounds hn hB hsx hsi 3 0 4 _ μ1 Q (by omega) (by omega) ?_ ?_ hlP (hIs _ _ hI) ⟨(hk1.1 0).trans hS.1, (hk1.1 1).trans hS.2⟩ hR1 (fun μ' a b => hQ μ' a (keepX_trans hk1 b))⟩
    · rw [setN_at]; exact hp.1
    · rw [setN_at]; exact hcapP
  unfold wpbX4_come
  refine ⟨fun _ => r_stonesIn hn ?_, fun q => absurd (nI_lt hlv (by decide)) q⟩
  rw [hN.1.1]
  have hB0 : BufX μ n ((w.1 n).1 ++ []) := by rw [List.append_nil]; exact hN.1
  refine r_putInL hn hB0 (by rw [List.append_nil]; omega) (fun μ1 hB1 ho1 => r_setting (i := 1) (by decide) ?_)
  have hk1 := offN_keep (offB_N ho1)
  have hN1 := NodeX_buf hN ho1 hB1
  rw [hk1.1 1, hS.2]
  have happ : (w.1 n).1 ++ s :: [] = (w.1 n).1 ++ [s] := rfl
  have hlA := lenW_set (n := n) (x := ((w.1 n).1 ++ [s], (w.1 n).2)) (by show ((w.1 n).1 ++ [s]).length ≤ 22; rw [List.length_append]; show _ + 1 ≤ 22; omega) hl
  have hR1 := RepW_set hn hl hR (offB_N ho1) hN1
  refine ⟨fun hd0 => ?_, fun hd1 => ?_⟩
  · have hdn : ¬ d = 1 := fun e => hd0 (by rw [e]; rfl)
    have e : putN d (w.1 n) s = ((w.1 n).1 ++ [s], (w.1 n).2) := by unfold putN; rw [if_neg hdn]
    refine key μ1 ?_ hk1
    rw [e]
    exact hR1
  · have hdn : d = 1 := nI_inj (by omega) (by decide) hd1
    subst hdn
    refine r_joinLast hn (bIn_ok hno.2) hs.1 (by omega) hN1 (fun μ2 hN2 ho2 => key μ2 ?_ (keepX_trans hk1 (offN_keep ho2)))
    have hR2 := RepW_set hn hlA hR1 ho2 hN2
    rw [setN_setN] at hR2
    exact hR2
/-- the whole of a come: what it keeps -/
theorem come_inv {n B d : Nat} {sink : Nat → WT → WT} {I : WT → Prop} (hn : n < 13) (hB : B ≤ 10) (hsi : SinkI n sink I) (hIs : ∀ x w, I w → I (setN n x w)) {w : WT} {s : Stn} (hs : sIn n s) (hno : nOk n (w.1 n)) (hl : lenW w) (hI : I w) :
    lenW (comeG B d n sink s w) ∧ I (comeG B d n sink s w) ∧ nOk n ((comeG B d n sink s w).1 n) := by
  have hp := putN_in (d := d) hno.2 hs
  have h10 := hno.1
  have hcapP : capB n (putN d (w.1 n) s).1 ≤ 22 := Nat.le_trans (cap_len _ _) (by omega)
  have h := rounds_inv (B := B) hn hsi 3 (setN n (putN d (w.1 n) s) w) (by rw [setN_at]; exact hp.1) (by rw [setN_at]; exact hcapP) (lenW_set (by omega) hl) (hIs _ _ hI) (by omega)
  exact ⟨h.1, h.2.1, Nat.le_trans h.2.2.2 hB, h.2.2.1⟩
/-- a sinking at node n, out of what its child does -/
theorem sink_inv {n c : Nat} {ch : Stn → WT → WT} {I : WT → Prop} (hn : n < 13) (hc : c < 3) (hcm : ∀ s, Comm n (ch s)) (hI : ∀ s w, sOk s → clo n c ≤ sF s → sL s ≤ chi n c → lenW w → I w → lenW (ch s w) ∧ I (ch s w)) (hIs : ∀ x w, I w → I (setN n x w)) {w : WT} (hb : bIn n (w.1 n).1) (hcap : capB n (w.1 n).1 ≤ 22) (hl : lenW w) (hIw : I w) :
    lenW (sinkG n c ch w) ∧ I (sinkG n c ch w) ∧ ((sinkG n c ch w).1 n).1 = rst (clo n c) (chi n c) (w.1 n).1 := by
  have h22 := cap_22 hc hb hcap (w.1 n).1 [] (List.append_nil _).symm
  have h := foldl_inv (P := fun s => sOk s ∧ clo n c ≤ sF s ∧ sL s ≤ chi n c) (J := fun w => lenW w ∧ I w) (ch := ch) (fun s w hs hw => hI s w hs.1 hs.2.1 hs.2.2 hw.1 hw.2) (gon (clo n c) (chi n c) (w.1 n).1) (setN n (takeN n c (w.1 n)) w) (fun s hs => gon_mem hn hc hb hs) ⟨lenW_set (by show (rst _ _ _).length ≤ 22; exact h22) hl, hIs _ _ hIw⟩
  refine ⟨h.1, h.2, ?_⟩
  rw [sinkG_at hcm]
  rfl
/-! low nodes -/
def IL (n : Nat) (w : WT) : Prop := Ilf w ∧ nOk n (w.1 n)
theorem lfA_ok {k : Nat} {s : Stn} {w : WT} (hs : sOk s) (h : Ilf w) : Ilf (lfA k s w) := fun j hj => by
  show vOk (up w.2.1 k _ j)
  by_cases e : j = k
  · subst e
    rw [up_same]
    exact apl_ok hs (h j hj)
  · rw [up_ne _ _ e]
    exact h j hj
theorem kc_low {n : Nat} (h : 4 ≤ n) : kc n = 1 := by unfold kc; rw [if_neg (by omega), if_neg (by omega)]
theorem low_chi {n c : Nat} (h : 4 ≤ n) : chi n c = clo n c := by unfold chi; rw [kc_low h]; omega
theorem clo_27 : ∀ n, n < 13 → ∀ c, c < 3 → clo n c < 27 := by decide
theorem stepL {WC : Int32 → Int32 → Int32 → Mem → (Mem → Prop) → Prop} {n c lv B d : Nat} (hn : n < 13) (h4 : 4 ≤ n) (hc : c < 3) : StepX WC n c lv B d (lfA (clo n c)) Ilf := fun s w τ Q hs _ _ hR _ _ hI hQ => by
  refine r_isLow hn ?_
  rw [if_neg (by omega)]
  exact ⟨fun q => absurd q (by decide), fun _ => r_applyToLeaf (clo_27 n hn c hc) hs hR (hI _ (clo_27 n hn c hc)) hQ⟩
theorem invL {n c : Nat} : ∀ s w, sOk s → clo n c ≤ sF s → sL s ≤ chi n c → lenW w → Ilf w → lenW (lfA (clo n c) s w) ∧ Ilf (lfA (clo n c) s w) := fun _ _ hs _ _ hl hI => ⟨hl, lfA_ok hs hI⟩
theorem sinkI_L {n : Nat} (hn : n < 13) : SinkI n (sinkL n) Ilf := fun _ _ hc hb hcap hl hI => sink_inv hn hc (fun s => comm_lfA n _ s) invL (fun _ _ h => h) hb hcap hl hI
theorem sinkX_L {WC : Int32 → Int32 → Int32 → Mem → (Mem → Prop) → Prop} {n lv B d : Nat} (hn : n < 13) (h4 : 4 ≤ n) : SinkX (wpbX4_sinkInto WC) n lv B d (sinkL n) Ilf := fun c w τ Q hc hb hcap hR hS hl hI hQ =>
  r_sinkInto hn hc (stepL hn h4 hc) (fun s => comm_lfA n _ s) invL (fun _ _ h => h) (bIn_ok hb) (cap_22 hc hb hcap) hl hI hS hR hQ
theorem r_comeL {WC : Int32 → Int32 → Int32 → Mem → (Mem → Prop) → Prop} {n lv B d : Nat} (hn : n < 13) (h4 : 4 ≤ n) (hlv : lv < 3) (hB : B ≤ 10) (hd : d < 2) {w : WT} {s : Stn} (hs : sIn n s) (hno : nOk n (w.1 n)) (hl : lenW w) (hI : Ilf w) {μ : Mem} (hS : SetX μ B d) (hR : RepW μ w) {Q : Mem → Prop}
    (hQ : ∀ μ', RepW μ' (comeL B d n s w) → keepX μ μ' → Q μ') : wpbX4_come (wpbX4_sinkInto WC) (nI n) (encX s) (nI lv) μ Q :=
  r_come hn hlv (by omega) hd (sinkX_L hn h4) (sinkI_L hn) (fun _ _ h => h) hs hno hl hI hS hR hQ
theorem inv_comeL {n B d : Nat} (hn : n < 13) (hB : B ≤ 10) {w : WT} {s : Stn} (hs : sIn n s) (hno : nOk n (w.1 n)) (hl : lenW w) (hI : Ilf w) : lenW (comeL B d n s w) ∧ Ilf (comeL B d n s w) ∧ nOk n ((comeL B d n s w).1 n) :=
  come_inv hn hB (sinkI_L hn) (fun _ _ h => h) hs hno hl hI
/-! middle nodes -/
def IM (n : Nat) (w : WT) : Prop := Ilf w ∧ ∀ c, c < 3 → nOk (chN n c) (w.1 (chN n c))
theorem chN_inj {n m c e : Nat} (hc : c < 3) (he : e < 3) (h : chN n c = chN m e) : n = m ∧ c = e := by
  unfold chN at h
  omega
theorem chN_gt (n c : Nat) : n < chN n c := by unfold chN; omega
theorem IM_set {n : Nat} : ∀ x w, IM n w → IM n (setN n x w) := fun x w h => ⟨h.1, fun c hc => by
  rw [setN_ne x w (Nat.ne_of_gt (chN_gt n c))]
  exact h.2 c hc⟩
theorem sIn_child {n c : Nat} (hn : n < 4) (hc : c < 3) {s : Stn} (hs : sOk s) (h1 : clo n c ≤ sF s) (h2 : sL s ≤ chi n c) : sIn (chN n c) s := by
  obtain ⟨a, b, -, -⟩ := ch_fk n hn c hc
  exact ⟨hs, by rw [a]; exact h1, by rw [b]; exact h2⟩
theorem invM {n c B d : Nat} (hn : n < 4) (hc : c < 3) (hB : B ≤ 10) : ∀ s w, sOk s → clo n c ≤ sF s → sL s ≤ chi n c → lenW w → IM n w → lenW (comeL B d (chN n c) s w) ∧ IM n (comeL B d (chN n c) s w) := fun s w hs h1 h2 hl hI => by
  obtain ⟨-, -, h13, -⟩ := ch_fk n hn c hc
  have h := inv_comeL (d := d) h13 hB (sIn_child hn hc hs h1 h2) (hI.2 c hc) hl hI.1
  refine ⟨h.1, h.2.1, fun e he => ?_⟩
  by_cases q : e = c
  · subst q
    exact h.2.2
  · have hne : chN n c ≠ chN n e := fun z => q (chN_inj hc he z).2.symm
    rw [(comm_comeL hne s).at]
    exact hI.2 e he
theorem comm_chL {n c B d : Nat} (s : Stn) : Comm n (comeL B d (chN n c) s) := comm_comeL (Nat.ne_of_gt (chN_gt n c)) s
theorem sinkI_M {n B d : Nat} (hn : n < 4) (hB : B ≤ 10) : SinkI n (sinkM B d n) (IM n) := fun _ _ hc hb hcap hl hI => sink_inv (by omega) hc comm_chL (invM hn hc hB) IM_set hb hcap hl hI
theorem stepM {WC : Int32 → Int32 → Int32 → Mem → (Mem → Prop) → Prop} {n c lv B d : Nat} (hn1 : 1 ≤ n) (hn : n < 4) (hc : c < 3) (hlv : lv + 1 < 3) (hB : B ≤ 10) (hd : d < 2) : StepX (wpbX4_come (wpbX4_sinkInto WC)) n c lv B d (comeL B d (chN n c)) (IM n) := fun s w τ Q hs h1 h2 hR hS hl hI hQ => by
  obtain ⟨-, -, h13, -⟩ := ch_fk n hn c hc
  refine r_isLow (by omega) ?_
  rw [if_pos hn]
  refine ⟨fun _ => r_childNode ?_, fun q => absurd rfl q⟩
  rw [nI_1]
  exact r_comeL h13 (by unfold chN; omega) hlv hB hd (sIn_child hn hc hs h1 h2) (hI.2 c hc) hl hI.1 hS hR hQ
theorem sinkX_M {WC : Int32 → Int32 → Int32 → Mem → (Mem → Prop) → Prop} {n lv B d : Nat} (hn1 : 1 ≤ n) (hn : n < 4) (hlv : lv + 1 < 3) (hB : B ≤ 10) (hd : d < 2) : SinkX (wpbX4_sinkInto (wpbX4_come (wpbX4_sinkInto WC))) n lv B d (sinkM B d n) (IM n) := fun c w τ Q hc hb hcap hR hS hl hI hQ =>
  r_sinkInto (by omega) hc (stepM hn1 hn hc hlv hB hd) comm_chL (invM hn hc hB) IM_set (bIn_ok hb) (cap_22 hc hb hcap) hl hI hS hR hQ
theorem r_comeM {WC : Int32 → Int32 → Int32 → Mem → (Mem → Prop) → Prop} {n lv B d : Nat} (hn1 : 1 ≤ n) (hn : n < 4) (hlv : lv + 1 < 3) (hB : B ≤ 10) (hd : d < 2) {w : WT} {s : Stn} (hs : sIn n s) (hno : nOk n (w.1 n)) (hl : lenW w) (hI : IM n w) {μ : Mem} (hS : SetX μ B d) (hR : RepW μ w) {Q : Mem → Prop}
    (hQ : ∀ μ', RepW μ' (comeM B d n s w) → keepX μ μ' → Q μ') : wpbX4_come (wpbX4_sinkInto (wpbX4_come (wpbX4_sinkInto WC))) (nI n) (encX s) (nI lv) μ Q :=
  r_come (by omega) (by omega) (by omega) hd (sinkX_M hn1 hn hlv hB hd) (sinkI_M hn hB) IM_set hs hno hl hI hS hR hQ
theorem inv_comeM {n B d : Nat} (hn : n < 4) (hB : B ≤ 10) {w : WT} {s : Stn} (hs : sIn n s) (hno : nOk n (w.1 n)) (hl : lenW w) (hI : IM n w) : lenW (comeM B d n s w) ∧ IM n (comeM B d n s w) ∧ nOk n ((comeM B d n s w).1 n) :=
  come_inv (by omega) hB (sinkI_M hn hB) IM_set hs hno hl hI
/-! the root -/
def IR (w : WT) : Prop := Ilf w ∧ ∀ n, 1 ≤ n → n < 13 → nOk n (w.1 n)
theorem IR_set : ∀ x w, IR w → IR (setN 0 x w) := fun x w h => ⟨h.1, fun n h1 hn => by
  rw [setN_ne x w (by omega)]
  exact h.2 n h1 hn⟩
/-- a come at middle node m leaves the nodes outside it alone -/
theorem comm_comeM {n m B d : Nat} (hnm : m ≠ n) (hch : ∀ c, chN m c ≠ n) (s : Stn) : Comm n (comeM B d m s) := comm_comeG hnm (fun c => comm_sinkG hnm (fun s => comm_comeL (hch c) s)) s
/-- only children 0, 1, 2 are ever chosen -/
theorem rounds_at {n m B : Nat} {sink : Nat → WT → WT} (hnm : m ≠ n) (h : ∀ c w, c < 3 → (sink c w).1 n = w.1 n) : ∀ k w, (roundsG B m sink k w).1 n = w.1 n
  | 0, _ => rfl
  | k + 1, w => by
    unfold roundsG
    by_cases hB : B < (w.1 m).1.length
    · rw [if_pos hB, rounds_at hnm h k, h _ _ (heav_lt m _)]
    · rw [if_neg hB]
theorem comeM_at {n m B d : Nat} (hnm : m ≠ n) (hch : ∀ c, c < 3 → chN m c ≠ n) (s : Stn) (w : WT) : (comeM B d m s w).1 n = w.1 n := by
  unfold comeM comeG
  rw [rounds_at (sink := sinkM B d m) hnm (fun c w hc => (comm_sinkM hnm hch hc).at w), setN_ne _ _ (Ne.symm hnm)]
theorem IR_M {c : Nat} (hc : c < 3) {w : WT} (h : IR w) : IM (chN 0 c) w := ⟨h.1, fun e he => h.2 _ (by unfold chN; omega) (by unfold chN; omega)⟩
theorem invR {c B d : Nat} (hc : c < 3) (hB : B ≤ 10) : ∀ s w, sOk s → clo 0 c ≤ sF s → sL s ≤ chi 0 c → lenW w → IR w → lenW (comeM B d (chN 0 c) s w) ∧ IR (comeM B d (chN 0 c) s w) := fun s w hs h1 h2 hl hI => by
  have h4 : chN 0 c < 4 := by unfold chN; omega
  have h := inv_comeM (d := d) h4 hB (sIn_child (by decide) hc hs h1 h2) (hI.2 _ (by unfold chN; omega) (by omega)) hl (IR_M hc hI)
  refine ⟨h.1, h.2.1.1, fun n hn1 hn => ?_⟩
  by_cases q : n = chN 0 c
  · rw [q]; exact h.2.2
  · by_cases q2 : ∃ e, e < 3 ∧ n = chN (chN 0 c) e
    · obtain ⟨e, he, rfl⟩ := q2
      exact h.2.1.2 e he
    · rw [comeM_at (Ne.symm q) (fun e he z => q2 ⟨e, he, z.symm⟩)]
      exact hI.2 n hn1 hn
theorem comm_chM {c B d : Nat} (s : Stn) : Comm 0 (comeM B d (chN 0 c) s) := comm_comeM (by unfold chN; omega) (fun e => by unfold chN; omega) s
theorem sinkI_R {B d : Nat} (hB : B ≤ 10) : SinkI 0 (sinkR B d) IR := fun _ _ hc hb hcap hl hI => sink_inv (by decide) hc comm_chM (invR hc hB) IR_set hb hcap hl hI
theorem stepR {WC : Int32 → Int32 → Int32 → Mem → (Mem → Prop) → Prop} {c B d : Nat} (hc : c < 3) (hB : B ≤ 10) (hd : d < 2) : StepX (wpbX4_come (wpbX4_sinkInto (wpbX4_come (wpbX4_sinkInto WC)))) 0 c 0 B d (comeM B d (chN 0 c)) IR := fun s w τ Q hs h1 h2 hR hS hl hI hQ => by
  refine r_isLow (by decide) ?_
  rw [if_pos (by decide)]
  refine ⟨fun _ => r_childNode ?_, fun q => absurd rfl q⟩
  rw [nI_1]
  exact r_comeM (by unfold chN; omega) (by unfold chN; omega) (by decide) hB hd (sIn_child (by decide) hc hs h1 h2) (hI.2 _ (by unfold chN; omega) (by unfold chN; omega)) hl (IR_M hc hI) hS hR hQ
theorem sinkX_R {WC : Int32 → Int32 → Int32 → Mem → (Mem → Prop) → Prop} {B d : Nat} (hB : B ≤ 10) (hd : d < 2) : SinkX (wpbX4_sinkInto (wpbX4_come (wpbX4_sinkInto (wpbX4_come (wpbX4_sinkInto WC))))) 0 0 B d (sinkR B d) IR := fun c w τ Q hc hb hcap hR hS hl hI hQ =>
  r_sinkInto (by decide) hc (stepR hc hB hd) comm_chM (invR hc hB) IR_set (bIn_ok hb) (cap_22 hc hb hcap) hl hI hS hR hQ
/-- a tree at rest -/
def WOk (w : WT) : Prop := Ilf w ∧ ∀ n, n < 13 → nOk n (w.1 n)
theorem WOk_IR {w : WT} (h : WOk w) : IR w := ⟨h.1, fun n _ hn => h.2 n hn⟩
theorem WOk_len {w : WT} (h : WOk w) : lenW w := fun n hn => Nat.le_trans (h.2 n hn).1 (by decide)
theorem comeR_ok {B d : Nat} (hB : B ≤ 10) {w : WT} {s : Stn} (hs : sOk s) (hw : WOk w) : WOk (comeR B d s w) := by
  have h := come_inv (d := d) (by decide) hB (sinkI_R (d := d) hB) IR_set (s := s) ⟨hs, Nat.zero_le _, (by have := hs.2.2.1; show sL s ≤ 26; omega)⟩ (hw.2 0 (by decide)) (WOk_len hw) (WOk_IR hw)
  refine ⟨h.2.1.1, fun n hn => ?_⟩
  by_cases q : n = 0
  · subst q; exact h.2.2
  · exact h.2.1.2 n (by omega) hn
