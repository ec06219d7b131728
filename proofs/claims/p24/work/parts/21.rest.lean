/-! the rest of the class's Tree -/
theorem come_3 : wpX4_come 3 = wpbX4_come (wpbX4_sinkInto (wpX4_come 2)) := by funext a1 a2 a3 μ Q; rfl
theorem come_2 : wpX4_come 2 = wpbX4_come (wpbX4_sinkInto (wpX4_come 1)) := by funext a1 a2 a3 μ Q; rfl
theorem come_1 : wpX4_come 1 = wpbX4_come (wpbX4_sinkInto (wpX4_come 0)) := by funext a1 a2 a3 μ Q; rfl
theorem r_comeR {B d : Nat} (hB : B ≤ 10) (hd : d < 2) {w : WT} {s : Stn} (hs : sOk s) (hw : WOk w) {μ : Mem} (hS : SetX μ B d) (hR : RepW μ w) {Q : Mem → Prop} (hQ : ∀ μ', RepW μ' (comeR B d s w) → keepX μ μ' → Q μ') : wpX4_come 3 (nI 0) (encX s) (nI 0) μ Q := by
  rw [come_3, come_2, come_1]
  exact r_come (I := IR) (by decide) (by decide) (by omega) hd (sinkX_R hB hd) (sinkI_R hB) IR_set ⟨hs, Nat.zero_le _, by have := hs.2.2.1; show sL s ≤ 26; omega⟩ (hw.2 0 (by decide)) (WOk_len hw) (WOk_IR hw) hS hR hQ
/-- a sound state of the tree -/
def TOk (t : TS) : Prop := 1 ≤ t.1 ∧ t.1 ≤ 10 ∧ t.2.1 < 2 ∧ WOk t.2.2.2.2
def dropT (s : Stn) (t : TS) : TS := (t.1, t.2.1, t.2.2.1 + 1, t.2.2.2.1, comeR t.1 t.2.1 s t.2.2.2.2)
theorem dropT_ok {s : Stn} {t : TS} (hs : sOk s) (h : TOk t) : TOk (dropT s t) := ⟨h.1, h.2.1, h.2.2.1, comeR_ok h.2.1 hs h.2.2.2⟩
theorem RepT_set {τ : Mem} {t : TS} (h : RepT τ t) : SetX τ t.1 t.2.1 := ⟨h.1, h.2.1⟩
theorem RepW_sent {τ : Mem} {w : WT} {v : Int32} {j : Nat} (hj : j = 0 ∨ j = 2) (h : RepW τ w) : RepW (mset τ 0 j v) w := by
  refine ⟨fun n hn => ?_, fun k hk => ?_, ?_⟩
  · obtain ⟨⟨h1, h2⟩, h3, h4, h5⟩ := h.1 n hn
    exact ⟨⟨h1, h2⟩, h3, h4, h5⟩
  · exact h.2.1 k hk
  · rw [ms_place _ _ _ (by omega)]
    exact h.2.2
theorem r_drop {s : Stn} (hs : sOk s) {t : TS} (ht : TOk t) {μ : Mem} (hR : RepT μ t) {Q : Mem → Prop} (hQ : ∀ μ', RepT μ' (dropT s t) → Q μ') : wpX4_drop (encX s) μ Q := by
  unfold wpX4_drop
  rintro _ rfl
  obtain ⟨h1, h2, h3, h4, h5⟩ := hR
  refine r_comeR ht.2.1 ht.2.2.1 hs ht.2.2.2 (μ := mset μ 0 0 (μ 0 0 + 1)) ⟨?_, ?_⟩ (RepW_sent (Or.inl rfl) h5) (fun μ' hR' hk => hQ μ' ⟨?_, ?_, ?_, ?_, hR'⟩)
  · rw [ms_cell _ _ _ (by decide)]; exact h1
  · rw [ms_cell _ _ _ (by decide)]; exact h2
  · rw [hk.1 0, ms_cell _ _ _ (by decide)]; exact h1
  · rw [hk.1 1, ms_cell _ _ _ (by decide)]; exact h2
  · rw [hk.2.1, ms_same, h3]; rfl
  · rw [hk.2.2, ms_place _ _ _ (by decide)]; exact h4
/-! emptying -/
/-- what a sinking at node n, of whichever kind, may ask and keeps -/
def IN (n : Nat) : WT → Prop := if n = 0 then IR else if n < 4 then IM n else Ilf
theorem sinkX_N {n B d : Nat} (hn : n < 13) (hB : B ≤ 10) (hd : d < 2) : SinkX (wpX4_sinkInto 2) n (lev n) B d (sinkN B d n) (IN n) := by
  unfold IN
  have e : wpX4_sinkInto 2 = wpbX4_sinkInto (wpX4_come 2) := rfl
  rw [e]
  by_cases h0 : n = 0
  · subst h0
    intro c w τ Q
    rw [if_pos rfl, come_2, come_1]
    exact sinkX_R hB hd c w τ Q
  · rw [if_neg h0]
    by_cases h4 : n < 4
    · rw [if_pos h4]
      intro c w τ Q
      have e1 : lev n = 1 := by unfold lev; rw [if_neg h0, if_pos h4]
      have e2 : sinkN B d n c w = sinkM B d n c w := by unfold sinkN; rw [if_neg h0, if_pos h4]
      rw [e1, e2, come_2]
      exact sinkX_M (by omega) h4 (by decide) hB hd c w τ Q
    · rw [if_neg h4]
      intro c w τ Q
      have e2 : sinkN B d n c w = sinkL n c w := by unfold sinkN; rw [if_neg h0, if_neg h4]
      rw [e2]
      exact sinkX_L hn (by omega) c w τ Q
theorem sinkI_N {n B d : Nat} (hn : n < 13) (hB : B ≤ 10) : SinkI n (sinkN B d n) (IN n) := by
  unfold IN
  by_cases h0 : n = 0
  · subst h0
    rw [if_pos rfl]
    exact fun c w => sinkI_R hB c w
  · rw [if_neg h0]
    by_cases h4 : n < 4
    · rw [if_pos h4]
      intro c w
      have e2 : sinkN B d n c w = sinkM B d n c w := by unfold sinkN; rw [if_neg h0, if_pos h4]
      rw [e2]
      exact sinkI_M h4 hB c w
    · rw [if_neg h4]
      intro c w
      have e2 : sinkN B d n c w = sinkL n c w := by unfold sinkN; rw [if_neg h0, if_neg h4]
      rw [e2]
      exact sinkI_L hn c w
theorem IN_of {n : Nat} (hn : n < 13) {w : WT} (h : WOk w) : IN n w := by
  unfold IN
  by_cases h0 : n = 0
  · rw [if_pos h0]; exact WOk_IR h
  · rw [if_neg h0]
    by_cases h4 : n < 4
    · rw [if_pos h4]; exact ⟨h.1, fun c hc => h.2 _ (ch_fk n h4 c hc).2.2.1⟩
    · rw [if_neg h4]; exact h.1
/-- sinking at node n leaves all nodes alone that aren't in its part of the tree -/
theorem sinkN_at {n B d c m : Nat} (hc : c < 3) (h0 : ¬ n = 0) (hm : m ≠ n) (hch : n < 4 → ∀ c, c < 3 → chN n c ≠ m) (w : WT) : (sinkN B d n c w).1 m = w.1 m := by
  unfold sinkN
  rw [if_neg h0]
  by_cases h4 : n < 4
  · rw [if_pos h4]
    exact (comm_sinkG (Ne.symm hm) (fun s => comm_comeL (hch h4 c hc) s)).at w
  · rw [if_neg h4]
    exact (comm_sinkL (Ne.symm hm) c).at w
theorem IN_back {n : Nat} {w : WT} (hI : IN n w) (hno : nOk n (w.1 n)) (hoth : ¬ n = 0 → ∀ m, m < 13 → m ≠ n → (n < 4 → ∀ c, c < 3 → chN n c ≠ m) → nOk m (w.1 m)) : WOk w := by
  unfold IN at hI
  by_cases h0 : n = 0
  · rw [if_pos h0] at hI
    refine ⟨hI.1, fun m hm => ?_⟩
    by_cases e : m = 0
    · rw [e, ← h0]; exact hno
    · exact hI.2 m (by omega) hm
  · rw [if_neg h0] at hI
    by_cases h4 : n < 4
    · rw [if_pos h4] at hI
      refine ⟨hI.1, fun m hm => ?_⟩
      by_cases e : m = n
      · rw [e]; exact hno
      · by_cases q : ∃ c, c < 3 ∧ chN n c = m
        · obtain ⟨c, hc, rfl⟩ := q
          exact hI.2 c hc
        · exact hoth h0 m hm e (fun _ c hc z => q ⟨c, hc, z⟩)
    · rw [if_neg h4] at hI
      refine ⟨hI, fun m hm => ?_⟩
      by_cases e : m = n
      · rw [e]; exact hno
      · exact hoth h0 m hm e (fun z => absurd z h4)
/-- what holds between the children's turns -/
def Bet (n : Nat) (w0 w : WT) : Prop := bIn n (w.1 n).1 ∧ capB n (w.1 n).1 ≤ 22 ∧ lenW w ∧ IN n w ∧ (¬ n = 0 → ∀ m, m ≠ n → (n < 4 → ∀ c, c < 3 → chN n c ≠ m) → w.1 m = w0.1 m)
theorem Bet_0 {n : Nat} (hn : n < 13) {w : WT} (h : WOk w) : Bet n w w := ⟨(h.2 n hn).2, Nat.le_trans (cap_len _ _) (by have := (h.2 n hn).1; omega), WOk_len h, IN_of hn h, fun _ _ _ _ => rfl⟩
theorem Bet_s {n B d c : Nat} (hn : n < 13) (hB : B ≤ 10) (hc : c < 3) {w0 w : WT} (h : Bet n w0 w) : Bet n w0 (sinkN B d n c w) ∧ ((sinkN B d n c w).1 n).1 = rst (clo n c) (chi n c) (w.1 n).1 := by
  obtain ⟨h1, h2, h3, h4, h5⟩ := h
  obtain ⟨g1, g2, g3⟩ := sinkI_N (d := d) hn hB c w hc h1 h2 h3 h4
  have hr := rst_cap hc h1
  refine ⟨⟨by rw [g3]; exact rst_in hn hc h1, by rw [g3]; omega, g1, g2, fun h0 m hm hch => ?_⟩, g3⟩
  rw [sinkN_at hc h0 hm hch]
  exact h5 h0 m hm hch
theorem empN_ok {n B d : Nat} (hn : n < 13) (hB : B ≤ 10) {w : WT} (h : WOk w) : WOk (empN B d n w) ∧ ((empN B d n w).1 n).1 = [] := by
  have b0 := Bet_0 hn h
  obtain ⟨b1, e1⟩ := Bet_s (d := d) hn hB (by decide : 0 < 3) b0
  obtain ⟨b2, e2⟩ := Bet_s (d := d) hn hB (by decide : 1 < 3) b1
  obtain ⟨b3, e3⟩ := Bet_s (d := d) hn hB (by decide : 2 < 3) b2
  have z0 : wg n 0 ((sinkN B d n 0 w).1 n).1 = 0 := by rw [e1]; exact wg_sunk hn (by decide) b0.1
  have z1 : wg n 0 ((sinkN B d n 1 (sinkN B d n 0 w)).1 n).1 = 0 ∧ wg n 1 ((sinkN B d n 1 (sinkN B d n 0 w)).1 n).1 = 0 := by
    rw [e2]; exact ⟨wg_stays hn (by decide) b1.1 z0, wg_sunk hn (by decide) b1.1⟩
  have hnil : ((empN B d n w).1 n).1 = [] := by
    refine zc_3 b3.1 ?_
    show 3 ≤ zc n ((sinkN B d n 2 (sinkN B d n 1 (sinkN B d n 0 w))).1 n).1
    rw [e3]
    unfold zc
    rw [if_pos (wg_stays hn (by decide) b2.1 z1.1), if_pos (wg_stays hn (by decide) b2.1 z1.2), if_pos (wg_sunk hn (by decide) b2.1)]
    exact Nat.le_refl 3
  refine ⟨IN_back b3.2.2.2.1 ?_ (fun h0 m hm hmn hch => ?_), hnil⟩
  · refine ⟨?_, b3.1⟩
    show ((empN B d n w).1 n).1.length ≤ 10
    rw [hnil]
    exact Nat.zero_le _
  · have : (empN B d n w).1 m = w.1 m := b3.2.2.2.2 h0 m hmn hch
    rw [this]
    exact h.2 m hm
theorem r_emptyBuffer {n B d : Nat} (hn : n < 13) (hB : B ≤ 10) (hd : d < 2) {w : WT} (hw : WOk w) {μ : Mem} (hS : SetX μ B d) (hR : RepW μ w) {Q : Mem → Prop} (hQ : ∀ μ', RepW μ' (empN B d n w) → keepX μ μ' → Q μ') : wpX4_emptyBuffer (nI n) μ Q := by
  have step : ∀ (c : Nat) (w' : WT) (μ1 : Mem) (f : Nat), c < 3 → Bet n w w' → SetX μ1 B d → RepW μ1 w' → (∀ μ2, RepW μ2 (sinkN B d n c w') → keepX μ1 μ2 → bkX4_emptyBuffer_2 Q f (nI n) (nI (c + 1)) μ2) → bkX4_emptyBuffer_2 Q (f + 1) (nI n) (nI c) μ1 := by
    intro c w' μ1 f hc hb hS1 hR1 hk
    unfold bkX4_emptyBuffer_2
    refine ⟨fun q => absurd q (nI_ge hc (by decide)), fun _ => r_level hn ?_⟩
    refine sinkX_N hn hB hd c w' μ1 _ hc hb.1 hb.2.1 hR1 hS1 hb.2.2.1 hb.2.2.2.1 (fun μ2 hR2 hk2 => ?_)
    rintro _ rfl
    rw [nI_1]
    exact hk μ2 hR2 hk2
  have b0 := Bet_0 hn hw
  have b1 := (Bet_s (d := d) hn hB (by decide : 0 < 3) b0).1
  have b2 := (Bet_s (d := d) hn hB (by decide : 1 < 3) b1).1
  unfold wpX4_emptyBuffer
  refine ⟨4, step 0 w μ 3 (by decide) b0 hS hR (fun μ1 hR1 k1 => ?_)⟩
  refine step 1 _ μ1 2 (by decide) b1 ⟨(k1.1 0).trans hS.1, (k1.1 1).trans hS.2⟩ hR1 (fun μ2 hR2 k2 => ?_)
  have k12 := keepX_trans k1 k2
  refine step 2 _ μ2 1 (by decide) b2 ⟨(k12.1 0).trans hS.1, (k12.1 1).trans hS.2⟩ hR2 (fun μ3 hR3 k3 => ?_)
  unfold bkX4_emptyBuffer_2
  exact ⟨fun _ => hQ μ3 hR3 (keepX_trans k12 k3), fun q => absurd (nI_le (Nat.le_refl 3) (by decide)) q⟩
/-! totals -/
theorem sumN_congr {f g : Nat → Int32} : ∀ {m : Nat}, (∀ n, n < m → f n = g n) → sumN f m = sumN g m
  | 0, _ => rfl
  | m + 1, h => by
    unfold sumN
    rw [sumN_congr (fun n hn => h n (by omega)), h m (by omega)]
theorem r_stones {μ : Mem} {w : WT} (hR : RepW μ w) {Q : Int32 → Mem → Prop} (hQ : Q (allSt w) μ) : wpX4_stones μ Q := by
  unfold wpX4_stones
  refine r_total (by decide) ?_
  rw [show sumN (μ 3) 13 = allSt w from sumN_congr (fun n hn => (hR.1 n hn).1.1)]
  exact hQ
theorem r_allSunk {μ : Mem} {w : WT} (hR : RepW μ w) {Q : Int32 → Mem → Prop} (hQ : Q (allSk w) μ) : wpX4_allStonesSunk μ Q := by
  unfold wpX4_allStonesSunk
  refine r_total (by decide) ?_
  rw [show sumN (μ 6) 13 = allSk w from sumN_congr (fun n hn => (hR.1 n hn).2.2.1)]
  exact hQ
/-! reading -/
theorem thr_ok {k : Nat} : ∀ {b : List Stn} {v : Option Nat}, bOk b → vOk v → vOk (thr b k v)
  | [], _, _, hv => hv
  | s :: b, v, hb, hv => by
    unfold thr
    rw [List.foldl_cons]
    refine thr_ok (fun z hz => hb z (List.mem_cons_of_mem _ hz)) ?_
    split
    · exact apl_ok (hb s List.mem_cons_self) hv
    · exact hv
theorem thr_take {k : Nat} {b : List Stn} {v : Option Nat} {i : Nat} (h : i < b.length) : thr (b.take (i + 1)) k v = if tou k k (b.getD i s0) = true then apl (b.getD i s0) (thr (b.take i) k v) else thr (b.take i) k v := by
  unfold thr
  rw [List.take_succ, getD_of h, Option.toList_some, List.foldl_append]
  rfl
theorem l_above {n k : Nat} {b : List Stn} {v0 : Option Nat} (hn : n < 13) (hk : k < 2 ^ 31) (hok : bOk b) (hlen : b.length ≤ 22) (hv : vOk v0) {μ : Mem} (hB : BufX μ n b) {Q : Int32 → Mem → Prop} (hQ : Q (encV (thr b k v0)) μ) : ∀ (m i f : Nat), i + m = b.length → m < f → bkX4_valueAbove_13 Q f (nI n) (nI k) (nI b.length) (encV (thr (b.take i) k v0)) (nI i) μ
  | 0, _, 0, _, hf => absurd hf (Nat.lt_irrefl 0)
  | 0, i, f + 1, hi', _ => by
    unfold bkX4_valueAbove_13
    refine ⟨fun _ => ?_, fun c => absurd (nI_le (by omega) (by omega)) c⟩
    rw [List.take_of_length_le (by omega)]
    exact hQ
  | m + 1, _, 0, _, hf => absurd hf (Nat.not_lt_zero _)
  | m + 1, i, f + 1, hi', hf => by
    unfold bkX4_valueAbove_13
    refine ⟨fun c => absurd c (nI_ge (by omega) (by omega)), fun _ => ?_⟩
    have hg := getD_of (b := b) (i := i) (by omega)
    have hok' : bOk (b.take i) := fun z hz => hok z (List.mem_of_mem_take hz)
    refine r_stoneAtL hn hB hg hlen (r_touches (bOk_at hok hg) hk hk ?_)
    have ht' := thr_take (k := k) (v := v0) (b := b) (i := i) (by omega)
    by_cases ht : tou k k (b.getD i s0) = true
    · rw [if_pos ht] at ht' ⊢
      refine ⟨fun c => absurd c (by decide), fun _ => r_valueAfter (bOk_at hok hg) (thr_ok hok' hv) ?_⟩
      rintro _ rfl
      rw [nI_1, ← ht']
      exact l_above hn hk hok hlen hv hB hQ m (i + 1) f (by omega) (by omega)
    · rw [if_neg ht] at ht' ⊢
      refine ⟨fun _ => ?_, fun c => absurd rfl c⟩
      rintro _ rfl
      rw [nI_1, ← ht']
      exact l_above hn hk hok hlen hv hB hQ m (i + 1) f (by omega) (by omega)
theorem r_above {n k : Nat} {b : List Stn} {v0 : Option Nat} (hn : n < 13) (hk : k < 2 ^ 31) (hok : bOk b) (hlen : b.length ≤ 22) (hv : vOk v0) {μ : Mem} (hB : BufX μ n b) {Q : Int32 → Mem → Prop} (hQ : Q (encV (thr b k v0)) μ) : wpX4_valueAbove (nI n) (nI k) (encV v0) μ Q := by
  unfold wpX4_valueAbove
  refine r_stonesIn hn ⟨b.length + 1, ?_⟩
  rw [hB.1]
  exact l_above hn hk hok hlen hv hB hQ b.length 0 (b.length + 1) (by omega) (by omega)
theorem r_inLeaf {k : Nat} (hk : k < 27) {μ : Mem} {w : WT} (hR : RepW μ w) {Q : Int32 → Mem → Prop} (hQ : Q (encV (w.2.1 k)) μ) : wpX4_valueInLeaf (nI k) μ Q := by
  unfold wpX4_valueInLeaf
  refine ⟨fun c => absurd c (nI_pos (by omega)), fun _ => ⟨fun c => absurd c (nI_ge hk (by decide)), fun _ => ⟨vinI hk (by decide), ?_⟩⟩⟩
  rw [nI_clamp (by omega), hR.2.1 k hk]
  exact hQ
theorem lowN_lt {k : Nat} (hk : k < 27) : lowN k < 13 := by unfold lowN; omega
theorem midN_lt {k : Nat} (hk : k < 27) : midN k < 13 := by unfold midN; omega
theorem par_low {k : Nat} : (lowN k - 1) / 3 = midN k := by unfold lowN midN; omega
theorem par_mid {k : Nat} (hk : k < 27) : (midN k - 1) / 3 = 0 := by unfold midN; omega
theorem rdK_ok {w : WT} (h : WOk w) {k : Nat} (hk : k < 27) : vOk (rdK w k) := by
  unfold rdK
  exact thr_ok (bIn_ok (h.2 0 (by decide)).2) (thr_ok (bIn_ok (h.2 _ (midN_lt hk)).2) (thr_ok (bIn_ok (h.2 _ (lowN_lt hk)).2) (h.1 k hk)))
theorem r_asRead {k : Nat} (hk : k < 27) {μ : Mem} {w : WT} (hw : WOk w) (hR : RepW μ w) {Q : Int32 → Mem → Prop} (hQ : Q (encV (rdK w k)) μ) : wpX4_valueAsRead (nI k) μ Q := by
  have hl := WOk_len hw
  have o0 := bIn_ok (hw.2 0 (by decide)).2
  have o1 := bIn_ok (hw.2 _ (midN_lt hk)).2
  have o2 := bIn_ok (hw.2 _ (lowN_lt hk)).2
  have v1 := thr_ok (k := k) o2 (hw.1 k hk)
  have v2 := thr_ok (k := k) o1 v1
  unfold wpX4_valueAsRead
  refine r_inLeaf hk hR (r_lowNodeOf hk ⟨4, ?_⟩)
  unfold bkX4_valueAsRead_14
  refine ⟨fun c => absurd c (by decide), fun _ => r_above (lowN_lt hk) (by omega) o2 (hl _ (lowN_lt hk)) (hw.1 k hk) (hR.1 _ (lowN_lt hk)).1 (r_parent (lowN_lt hk) ?_)⟩
  rintro _ rfl
  rw [par_low]
  unfold bkX4_valueAsRead_14
  refine ⟨fun c => absurd c (by decide), fun _ => r_above (midN_lt hk) (by omega) o1 (hl _ (midN_lt hk)) v1 (hR.1 _ (midN_lt hk)).1 (r_parent (midN_lt hk) ?_)⟩
  rintro _ rfl
  rw [par_mid hk]
  unfold bkX4_valueAsRead_14
  refine ⟨fun c => absurd c (by decide), fun _ => r_above (n := 0) (by decide) (by omega) o0 (hl 0 (by decide)) v2 (hR.1 0 (by decide)).1 (r_parent (n := 0) (by decide) ?_)⟩
  rintro _ rfl
  unfold bkX4_valueAsRead_14
  exact ⟨fun _ => hQ, fun c => absurd (by decide) c⟩
def wiK (w : WT) (k n : Nat) : Nat := wgt k k (w.1 n).1
theorem r_stonesWith {k : Nat} (hk : k < 27) {μ : Mem} {w : WT} (hw : WOk w) (hR : RepW μ w) {Q : Int32 → Mem → Prop} (hQ : Q (nI (wiK w k (lowN k) + wiK w k (midN k) + wiK w k 0)) μ) : wpX4_stonesWith (nI k) μ Q := by
  have hl := WOk_len hw
  have o0 := bIn_ok (hw.2 0 (by decide)).2
  have o1 := bIn_ok (hw.2 _ (midN_lt hk)).2
  have o2 := bIn_ok (hw.2 _ (lowN_lt hk)).2
  unfold wpX4_stonesWith
  refine r_lowNodeOf hk ⟨4, ?_⟩
  unfold bkX4_stonesWith_10
  refine ⟨fun c => absurd c (by decide), fun _ => r_touching (lowN_lt hk) (by omega) (by omega) o2 (hl _ (lowN_lt hk)) (hR.1 _ (lowN_lt hk)).1 ?_⟩
  rintro _ rfl
  refine r_parent (lowN_lt hk) ?_
  rintro _ rfl
  rw [par_low]
  unfold bkX4_stonesWith_10
  refine ⟨fun c => absurd c (by decide), fun _ => r_touching (midN_lt hk) (by omega) (by omega) o1 (hl _ (midN_lt hk)) (hR.1 _ (midN_lt hk)).1 ?_⟩
  rintro _ rfl
  refine r_parent (midN_lt hk) ?_
  rintro _ rfl
  rw [par_mid hk]
  unfold bkX4_stonesWith_10
  refine ⟨fun c => absurd c (by decide), fun _ => r_touching (n := 0) (by decide) (by omega) (by omega) o0 (hl 0 (by decide)) (hR.1 0 (by decide)).1 ?_⟩
  rintro _ rfl
  refine r_parent (n := 0) (by decide) ?_
  rintro _ rfl
  unfold bkX4_stonesWith_10
  refine ⟨fun _ => ?_, fun c => absurd (by decide) c⟩
  show Q (nI 0 + nI (wiK w k (lowN k)) + nI (wiK w k (midN k)) + nI (wiK w k 0)) μ
  rw [nI_add, nI_add, nI_add, Nat.zero_add]
  exact hQ
def deepK (w : WT) (k : Nat) : Int32 := if 0 < wiK w k (lowN k) then nI (lowN k) else if 0 < wiK w k (midN k) then nI (midN k) else if 0 < wiK w k 0 then nI 0 else -6
theorem r_deepest {k : Nat} (hk : k < 27) {μ : Mem} {w : WT} (hw : WOk w) (hR : RepW μ w) {Q : Int32 → Mem → Prop} (hQ : Q (deepK w k) μ) : wpX4_deepestWith (nI k) μ Q := by
  have hl := WOk_len hw
  have o0 := bIn_ok (hw.2 0 (by decide)).2
  have o1 := bIn_ok (hw.2 _ (midN_lt hk)).2
  have o2 := bIn_ok (hw.2 _ (lowN_lt hk)).2
  have b0 := Nat.le_trans (wgt_le k k (w.1 0).1) (hl 0 (by decide))
  have b1 := Nat.le_trans (wgt_le k k (w.1 (midN k)).1) (hl _ (midN_lt hk))
  have b2 := Nat.le_trans (wgt_le k k (w.1 (lowN k)).1) (hl _ (lowN_lt hk))
  have le0 : ∀ x, x ≤ 22 → (nI x ≤ 0 ↔ ¬ 0 < x) := fun x hx => by
    have := nI_leI (a := x) (b := 0) (by omega) (by decide)
    rw [show (0 : Int32) = nI 0 from rfl, this]
    omega
  unfold deepK wiK at hQ
  unfold wpX4_deepestWith
  refine r_lowNodeOf hk ⟨4, ?_⟩
  unfold bkX4_deepestWith_7
  refine ⟨fun c => absurd c (by decide), fun _ => r_touching (lowN_lt hk) (by omega) (by omega) o2 (hl _ (lowN_lt hk)) (hR.1 _ (lowN_lt hk)).1 ⟨fun q => ?_, fun q => ?_⟩⟩
  · rw [le0 _ b2] at q
    rw [if_neg q] at hQ
    refine r_parent (lowN_lt hk) ?_
    rintro _ rfl
    rw [par_low]
    unfold bkX4_deepestWith_7
    refine ⟨fun c => absurd c (by decide), fun _ => r_touching (midN_lt hk) (by omega) (by omega) o1 (hl _ (midN_lt hk)) (hR.1 _ (midN_lt hk)).1 ⟨fun q => ?_, fun q => ?_⟩⟩
    · rw [le0 _ b1] at q
      rw [if_neg q] at hQ
      refine r_parent (midN_lt hk) ?_
      rintro _ rfl
      rw [par_mid hk]
      unfold bkX4_deepestWith_7
      refine ⟨fun c => absurd c (by decide), fun _ => r_touching (n := 0) (by decide) (by omega) (by omega) o0 (hl 0 (by decide)) (hR.1 0 (by decide)).1 ⟨fun q => ?_, fun q => ?_⟩⟩
      · rw [le0 _ b0] at q
        rw [if_neg q] at hQ
        refine r_parent (n := 0) (by decide) ?_
        rintro _ rfl
        unfold bkX4_deepestWith_7
        exact ⟨fun _ => hQ, fun c => absurd (by decide) c⟩
      · rw [le0 _ b0] at q
        rw [if_pos (Decidable.not_not.mp q)] at hQ
        exact hQ
    · rw [le0 _ b1] at q
      rw [if_pos (Decidable.not_not.mp q)] at hQ
      exact hQ
  · rw [le0 _ b2] at q
    rw [if_pos (Decidable.not_not.mp q)] at hQ
    exact hQ
