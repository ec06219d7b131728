/-! the reference's methods, over its whole state -/
def SlotM (μ : Mem) (i : Nat) : Option TS → Prop
  | none => μ 4 i = 0
  | some t => μ 4 i = 1 ∧ RowT (fun q => μ 3 (1333 * i + q)) t
def RepM (μ : Mem) (F : FS) : Prop := RowT (μ 1) F.1 ∧ RowP μ F.2.1 ∧ (∀ i, i < 2 → SlotM μ i (F.2.2.1 i)) ∧ PadX (μ 0 1) (μ 8) F.2.2.2
theorem RowP_congr {μ μ' : Mem} {hs : List TS} (h0 : μ' 0 0 = μ 0 0) (h2 : μ' 2 = μ 2) (h : RowP μ hs) : RowP μ' hs := by
  obtain ⟨a, b, c⟩ := h
  refine ⟨a, h0.trans b, fun j t hj => ?_⟩
  rw [h2]
  exact c j t hj
theorem SlotM_congr {μ μ' : Mem} {i : Nat} {o : Option TS} (h3 : μ' 3 = μ 3) (h4 : μ' 4 = μ 4) (h : SlotM μ i o) : SlotM μ' i o := by
  cases o with
  | none =>
    show μ' 4 i = 0
    rw [h4]
    exact h
  | some t =>
    refine ⟨by rw [h4]; exact h.1, ?_⟩
    rw [h3]
    exact h.2
/-- the row changed, the rest stays -/
theorem RepM_tree {μ μ' : Mem} {F : FS} {t : TS} (h : RepM μ F) (hk : keepR μ μ') (hR : RowT (μ' 1) t) : RepM μ' (t, F.2) := by
  have hc : ∀ k, k ≠ 0 → k ≠ 1 → k ≠ 6 → k ≠ 7 → μ' k = μ k := fun k q0 q1 q2 q3 => by funext j; exact hk k j q1 q2 q3 (fun q => absurd q q0)
  refine ⟨hR, RowP_congr (hk 0 0 (by decide) (by decide) (by decide) (fun _ => by decide)) (hc 2 (by decide) (by decide) (by decide) (by decide)) h.2.1, fun i hi => SlotM_congr (hc 3 (by decide) (by decide) (by decide) (by decide)) (hc 4 (by decide) (by decide) (by decide) (by decide)) (h.2.2.1 i hi), ?_⟩
  rw [hk 0 1 (by decide) (by decide) (by decide) (fun _ => by decide), hc 8 (by decide) (by decide) (by decide) (by decide)]
  exact h.2.2.2
theorem m_record {μ : Mem} {F : FS} (hF : RepM μ F) (hok : FOk F) {Q : Mem → Prop} (hQ : ∀ μ', RepM μ' (fGo F F.1) → (∀ k j, k ≠ 2 → (k = 0 → j ≠ 0) → μ' k j = μ k j) → Q μ') : wpX6_record μ Q := by
  refine q_record (WOk_len hok.1.2.2.2) (fun u hu => WOk_len (hok.2.1 u hu).2.2.2) hF.2.1 hF.1 (fun μ' hP ho => ?_)
  have hc : ∀ k, k ≠ 0 → k ≠ 2 → μ' k = μ k := fun k q0 q2 => by funext j; exact ho k j q2 (fun q => absurd q q0)
  refine hQ μ' ⟨?_, hP, fun i hi => SlotM_congr (hc 3 (by decide) (by decide)) (hc 4 (by decide) (by decide)) (hF.2.2.1 i hi), ?_⟩ ho
  · rw [hc 1 (by decide) (by decide)]
    exact hF.1
  · rw [ho 0 1 (by decide) (fun _ => by decide), hc 8 (by decide) (by decide)]
    exact hF.2.2.2
theorem q_inY {j lo hi : Nat} (h1 : lo ≤ j) (h2 : j ≤ hi) (hb : hi < 2 ^ 31) {Q : Int32 → Prop} (hQ : Q 1) : wpX6_in (nI j) (nI lo) (nI hi) Q := by
  unfold wpX6_in
  exact ⟨fun q => absurd q (nI_nlt h1 (by omega)), fun _ => ⟨fun q => absurd q (nI_nlt h2 hb), fun _ => hQ⟩⟩
theorem q_inX {j lo hi : Nat} (hj : j < 2 ^ 31) (hlo : lo < 2 ^ 31) (hb : hi < 2 ^ 31) (h : j < lo ∨ hi < j) {Q : Int32 → Prop} (hQ : Q 0) : wpX6_in (nI j) (nI lo) (nI hi) Q := by
  unfold wpX6_in
  refine ⟨fun _ => hQ, fun q => ⟨fun _ => hQ, fun q2 => ?_⟩⟩
  rcases h with h | h
  · exact absurd (nI_lt h hlo) q
  · exact absurd (nI_lt h hj) q2
theorem q_inN {a hi : Int32} {lo : Nat} (h : a < 0) (hlo : lo < 2 ^ 31) {Q : Int32 → Prop} (hQ : Q 0) : wpX6_in a (nI lo) hi Q := by
  unfold wpX6_in
  refine ⟨fun _ => hQ, fun q => absurd ?_ q⟩
  rw [Int32.lt_iff_toInt_lt] at h ⊢
  rw [nI_toInt hlo]
  have : (0 : Int32).toInt = 0 := by decide
  omega
theorem q_in0 {m : Nat} {a : Int32} (hm : 0 < m) (hb : m < 2 ^ 31) (h : idx m a = none) {Q : Int32 → Prop} (hQ : Q 0) : wpX6_in a (nI 0) (nI (m - 1)) Q := by
  rcases idx_none hb h with h1 | ⟨-, j, hj, hmj, rfl⟩
  · exact q_inN h1 (by decide) hQ
  · exact q_inX hj (by decide) (by omega) (Or.inr (by omega)) hQ
theorem q_isKey {k : Nat} (hk : k < 27) {Q : Int32 → Prop} (hQ : Q 1) : wpX6_isKey (nI k) Q := by
  unfold wpX6_isKey
  exact q_inY (lo := 0) (hi := 26) (Nat.zero_le _) (by omega) (by decide) ⟨Or.inr rfl, hQ⟩
theorem q_isKeyN {a : Int32} (h : idx 27 a = none) {Q : Int32 → Prop} (hQ : Q 0) : wpX6_isKey a Q := by
  unfold wpX6_isKey
  exact q_in0 (m := 27) (by decide) (by decide) h ⟨Or.inl rfl, hQ⟩
theorem q_isNode {k : Nat} (hk : k < 13) {Q : Int32 → Prop} (hQ : Q 1) : wpX6_isNode (nI k) Q := by
  unfold wpX6_isNode
  exact q_inY (lo := 0) (hi := 12) (Nat.zero_le _) (by omega) (by decide) ⟨Or.inr rfl, hQ⟩
theorem q_isNodeN {a : Int32} (h : idx 13 a = none) {Q : Int32 → Prop} (hQ : Q 0) : wpX6_isNode a Q := by
  unfold wpX6_isNode
  exact q_in0 (m := 13) (by decide) (by decide) h ⟨Or.inl rfl, hQ⟩
theorem m_set {a b : Int32} {μ : Mem} {F : FS} (hF : RepM μ F) (hok : FOk F) {Q : Int32 → Mem → Prop} (hQ : ∀ μ', RepM μ' (fSet a b F).2 → Q (fSet a b F).1 μ') : wpX6_set a b μ Q := by
  have hl := WOk_len hok.1.2.2.2
  have bad : (fSet a b F) = (-2, F) → bkX6_set_33 Q a b 0 μ := fun e => by
    unfold bkX6_set_33
    refine ⟨fun q => absurd rfl q, fun _ => ?_⟩
    have h := hQ μ
    rw [e] at h
    exact h hF
  have good : ∀ (s : Nat) (v : Nat) (t : TS), s < 2 → a = nI s → b = nI v → (fSet a b F) = ((if s = 0 then nI F.1.1 else nI F.1.2.1), fGo F t) → (t = if s = 0 then (v, F.1.2) else (F.1.1, v, F.1.2.2)) → bkX6_set_33 Q a b 1 μ := fun s v t hs ea eb e et => by
    unfold bkX6_set_33
    refine ⟨fun _ => m_record hF hok (fun μ4 h4 ho => ?_), fun q => absurd q (by decide)⟩
    have h := hQ (mset μ4 1 s b)
    rw [e] at h
    rw [ea, nI_clamp (show s < 2 ^ 31 by omega)]
    refine ⟨vinI (by omega) (by decide), ?_⟩
    rintro _ rfl
    refine ⟨vinI (by omega) (by decide), ?_⟩
    rintro _ rfl
    obtain ⟨r0, r1, r2, r3, rw'⟩ := h4.1
    have hW : RowW (mset μ4 1 s b 1) F.1.2.2.2.2 := RowW_congr hl (fun j h3 _ => ms_place _ _ _ (by omega)) rw'
    have hk : keepR μ4 (mset μ4 1 s b) := fun k j q1 _ _ _ => by rw [ms_cell _ _ _ q1]
    rcases (show s = 0 ∨ s = 1 by omega) with e0 | e0
    · subst e0
      rw [if_pos rfl] at et
      subst et
      rw [if_pos rfl] at h
      rw [show μ4 1 0 = nI F.1.1 from r0]
      exact h (RepM_tree (t := (v, F.1.2)) h4 hk ⟨(ms_same _ _ _ _).trans eb, (ms_place _ _ _ (by decide)).trans r1, (ms_place _ _ _ (by decide)).trans r2, (ms_place _ _ _ (by decide)).trans r3, hW⟩)
    · subst e0
      rw [if_neg (by decide)] at et
      subst et
      rw [if_neg (by decide)] at h
      rw [show μ4 1 1 = nI F.1.2.1 from r1]
      exact h (RepM_tree (t := (F.1.1, v, F.1.2.2)) h4 hk ⟨(ms_place _ _ _ (by decide)).trans r0, (ms_same _ _ _ _).trans eb, (ms_place _ _ _ (by decide)).trans r2, (ms_place _ _ _ (by decide)).trans r3, hW⟩)
  unfold wpX6_set
  refine ⟨fun c => ⟨fun c1 => ?_, fun c1 => ?_⟩, fun c => ?_⟩
  · unfold bkX6_set_32
    exact bad (fSet_bad (fun v e _ _ _ => c e) (fun v e _ _ => c1 e))
  · cases hb : idx 2 b with
    | none =>
      refine q_in0 (m := 2) (by decide) (by decide) hb ⟨fun _ => ?_, fun q => absurd rfl q⟩
      unfold bkX6_set_32
      refine bad (fSet_bad (fun v e _ _ _ => c e) (fun v e eb hv => ?_))
      rw [eb, idx_nI (by decide) hv] at hb
      cases hb
    | some v =>
      obtain ⟨eb, hv⟩ := idx_some (by decide) hb
      rw [eb]
      refine q_inY (lo := 0) (hi := 1) (Nat.zero_le _) (by omega) (by decide) ⟨fun q => absurd q (by decide), fun _ => ?_⟩
      have h := good 1 v _ (by decide) c1 eb (by rw [c1, eb]; exact fSet_1 hv) rfl
      rw [eb] at h
      exact h
  · have bad' : (∀ v, b = nI v → 1 ≤ v → v < 11 → False) → bkX6_set_33 Q a b 0 μ := fun hb => bad (fSet_bad (fun v _ eb h1 h2 => hb v eb h1 h2) (fun v e _ _ => absurd (c.symm.trans e) (by decide)))
    cases hb : idx 11 b with
    | none =>
      have hno : ∀ v, b = nI v → 1 ≤ v → v < 11 → False := fun v eb _ h2 => by
        rw [eb, idx_nI (by decide) h2] at hb
        cases hb
      rcases idx_none (by decide) hb with h1 | ⟨-, j, hj, hmj, e⟩
      · exact q_inN (lo := 1) h1 (by decide) (bad' hno)
      · have h := bad' hno
        rw [e] at h ⊢
        exact q_inX (lo := 1) (hi := 10) hj (by decide) (by decide) (Or.inr (by omega)) h
    | some v =>
      obtain ⟨eb, hv⟩ := idx_some (by decide) hb
      by_cases hv0 : v = 0
      · have h := bad' (fun u eu h1 h2 => by
          have := nI_inj (by omega) (by omega) (eb.symm.trans eu)
          omega)
        rw [eb] at h ⊢
        exact q_inX (lo := 1) (hi := 10) (by omega) (by decide) (by decide) (Or.inl (by omega)) h
      · have h := good 0 v _ (by decide) c eb (by rw [c, eb]; exact fSet_0 (by omega) hv) rfl
        rw [eb] at h ⊢
        exact q_inY (lo := 1) (hi := 10) (by omega) (by omega) (by decide) h
/-! emptying -/
theorem sinkQ_N {n B d : Nat} (hn : n < 13) (hB : B ≤ 10) (hd : d < 2) {c : Nat} {w : WT} {τ : Mem} {Q : Mem → Prop} (hc : c < 3) (hb : bIn n (w.1 n).1) (hcap : capB n (w.1 n).1 ≤ 22) (hR : RowW (τ 1) w) (hS : SetQ τ B d) (hl : lenW w) (hI : IN n w) (hQ : ∀ τ', RowW (τ' 1) (sinkN B d n c w) → keepM 0 τ τ' → Q τ') :
    ((¬ nI n = 0) → ((((4 : Int32) ≤ nI n) → (wpX6_sinksLow (nI n) (nI c) τ Q)) ∧ ((¬ (4 : Int32) ≤ nI n) → (wpX6_sinksMiddle (nI n) (nI c) τ Q)))) ∧ ((nI n = 0) → (wpX6_sinksRoot (nI c) τ Q)) := by
  unfold IN at hI
  unfold sinkN at hQ
  refine ⟨fun q => ⟨fun q1 => ?_, fun q1 => ?_⟩, fun q => ?_⟩
  · rw [li 4, nI_leI (by decide) (by omega)] at q1
    rw [if_neg (by omega), if_neg (by omega)] at hQ hI
    exact sinkQ_L hn q1 c w τ Q hc hb hcap hR hS hl hI (fun τ' a b => hQ τ' a (keepM_le (Nat.zero_le _) b))
  · rw [li 4, nI_leI (by decide) (by omega)] at q1
    have h0 : n ≠ 0 := fun e => q (by rw [e]; rfl)
    rw [if_neg h0, if_pos (by omega)] at hQ hI
    exact sinkQ_M (by omega) (by omega) hB hd c w τ Q hc hb hcap hR hS hl hI (fun τ' a b => hQ τ' a (keepM_le (Nat.zero_le _) b))
  · have h0 : n = 0 := nI_inj (by omega) (by decide) q
    subst h0
    rw [if_pos rfl] at hQ hI
    exact sinkQ_R hB hd c w τ Q hc hb hcap hR hS hl hI hQ
theorem q_empties {n B d : Nat} (hn : n < 13) (hB : B ≤ 10) (hd : d < 2) {w : WT} (hw : WOk w) {μ : Mem} (hS : SetQ μ B d) (hR : RowW (μ 1) w) {Q : Mem → Prop} (hQ : ∀ μ', RowW (μ' 1) (empN B d n w) → keepM 0 μ μ' → Q μ') : wpX6_empties (nI n) μ Q := by
  have step : ∀ (c : Nat) (w' : WT) (μ1 : Mem) (f : Nat), c < 3 → Bet n w w' → SetQ μ1 B d → RowW (μ1 1) w' → (∀ μ2, RowW (μ2 1) (sinkN B d n c w') → keepM 0 μ1 μ2 → bkX6_empties_2 Q f (nI n) (nI (c + 1)) μ2) → bkX6_empties_2 Q (f + 1) (nI n) (nI c) μ1 := by
    intro c w' μ1 f hc hb hS1 hR1 hh
    unfold bkX6_empties_2
    refine ⟨fun q => absurd q (nI_ge hc (by decide)), fun _ => ?_⟩
    have h := sinkQ_N (Q := fun μ2 => ∀ v3 : Int32, v3 = nI c + (1 : Int32) → bkX6_empties_2 Q f (nI n) v3 μ2) hn hB hd hc hb.1 hb.2.1 hR1 hS1 hb.2.2.1 hb.2.2.2.1 (fun τ' a b => by
      rintro _ rfl
      rw [nI_1]
      exact hh τ' a b)
    exact h
  have b0 := Bet_0 hn hw
  have b1 := (Bet_s (d := d) hn hB (show 0 < 3 by decide) b0).1
  have b2 := (Bet_s (d := d) hn hB (show 1 < 3 by decide) b1).1
  unfold wpX6_empties
  refine ⟨4, step 0 w μ 3 (by decide) b0 hS hR (fun μ1 r1 k1 => step 1 _ μ1 2 (by decide) b1 (keepM_set k1 hS) r1 (fun μ2 r2 k2 => step 2 _ μ2 1 (by decide) b2 (keepM_set (keepM_trans k1 k2) hS) r2 (fun μ3 r3 k3 => ?_)))⟩
  unfold bkX6_empties_2
  exact ⟨fun _ => hQ μ3 r3 (keepM_trans (keepM_trans k1 k2) k3), fun q => absurd (nI_le (Nat.le_refl 3) (by decide)) q⟩
theorem m_setW {μ μ' : Mem} {t : TS} {w : WT} (hR : RowT (μ 1) t) (hW : RowW (μ' 1) w) (hk : keepM 0 μ μ') : RowT (μ' 1) (setW t w) := by
  obtain ⟨r0, r1, r2, r3, -⟩ := hR
  exact ⟨(hk.2.2 0 (by decide)).trans r0, (hk.2.2 1 (by decide)).trans r1, (hk.2.2 2 (by decide)).trans r2, (hk.2.2 5 (by decide)).trans r3, hW⟩
theorem m_empty {n : Int32} {μ : Mem} {F : FS} (hF : RepM μ F) (hok : FOk F) {Q : Int32 → Mem → Prop} (hQ : ∀ μ', RepM μ' (fEmpty n F).2 → Q (fEmpty n F).1 μ') : wpX6_empty n μ Q := by
  unfold fEmpty at hQ
  unfold wpX6_empty
  cases h : idx 13 n with
  | none =>
    rw [h] at hQ
    exact q_isNodeN h ⟨fun q => absurd rfl q, fun _ => hQ μ hF⟩
  | some m =>
    rw [h] at hQ
    obtain ⟨rfl, hm⟩ := idx_some (by decide) h
    refine q_isNode hm ⟨fun _ => m_record hF hok (fun μ4 h4 _ => ?_), fun q => absurd q (by decide)⟩
    refine q_empties hm hok.1.2.1 hok.1.2.2.1 hok.1.2.2.2 ⟨h4.1.1, h4.1.2.1⟩ h4.1.2.2.2.2 (fun μ6 hW hk => ?_)
    have h7 : RepM μ6 (fGo F (setW F.1 (empN F.1.1 F.1.2.1 m (sWT F)))) := RepM_tree (t := setW F.1 (empN F.1.1 F.1.2.1 m (sWT F))) h4 hk.1 (m_setW h4.1 hW hk)
    exact q_allStones h7.1.2.2.2.2 (hQ _ h7)
theorem m_read {k : Int32} {μ : Mem} {F : FS} (hF : RepM μ F) (hok : FOk F) {Q : Int32 → Mem → Prop} (hQ : ∀ μ', RepM μ' (fRead k F).2 → Q (fRead k F).1 μ') : wpX6_read k μ Q := by
  have hl := WOk_len hok.1.2.2.2
  unfold fRead at hQ
  unfold wpX6_read
  cases h : idx 27 k with
  | none =>
    rw [h] at hQ
    exact q_isKeyN h ⟨fun q => absurd rfl q, fun _ => hQ μ hF⟩
  | some m =>
    rw [h] at hQ
    obtain ⟨rfl, hm⟩ := idx_some (by decide) h
    refine q_isKey hm ⟨fun _ => m_record hF hok (fun μ4 h4 _ => ?_), fun q => absurd q (by decide)⟩
    refine ⟨vinI (n := 1333) (a := 5) (by decide) (by decide), vinI (n := 1333) (a := 5) (by decide) (by decide), ?_⟩
    show ∀ μ5 : Mem, μ5 = mset μ4 1 5 (μ4 1 5 + 3) → _
    rintro _ rfl
    obtain ⟨r0, r1, r2, r3, rw'⟩ := h4.1
    have h7 : RepM (mset μ4 1 5 (μ4 1 5 + 3)) (fGo F (F.1.1, F.1.2.1, F.1.2.2.1, F.1.2.2.2.1 + 3, sWT F)) := RepM_tree (t := (F.1.1, F.1.2.1, F.1.2.2.1, F.1.2.2.2.1 + 3, sWT F)) h4 (fun k j q1 _ _ _ => by rw [ms_cell _ _ _ q1]) ⟨(ms_place _ _ _ (by decide)).trans r0, (ms_place _ _ _ (by decide)).trans r1, (ms_place _ _ _ (by decide)).trans r2, (ms_same _ _ _ _).trans (by rw [r3]; rfl), RowW_congr hl (fun j _ h5 => ms_place _ _ _ h5) rw'⟩
    exact q_readOf hm hok.1.2.2.2 h7.1.2.2.2.2 (hQ _ h7)
theorem m_sendGo {K f l N : Nat} (hs : sOk (K, f, l, N)) {μ : Mem} {F : FS} (hF : RepM μ F) (hok : FOk F) {Q : Int32 → Mem → Prop} (hQ : ∀ μ', RepM μ' (fGo F (dropT (K, f, l, N) F.1)) → Q (allSt (comeR F.1.1 F.1.2.1 (K, f, l, N) (sWT F))) μ') : bkX6_send_64 Q (nI K) (nI f) (nI l) (nI N) μ := by
  unfold bkX6_send_64
  refine m_record hF hok (fun μ4 h4 _ => ?_)
  refine q_drop hs hok.1 h4.1 (fun μ8 h8 hk => ?_)
  have h9 := RepM_tree h4 hk h8
  exact q_allStones h9.1.2.2.2.2 (hQ _ h9)
theorem m_send {k a b n : Int32} {μ : Mem} {F : FS} (hF : RepM μ F) (hok : FOk F) {Q : Int32 → Mem → Prop} (hQ : ∀ μ', RepM μ' (fSend k a b n F).2 → Q (fSend k a b n F).1 μ') : wpX6_send k a b n μ Q := by
  unfold fSend at hQ
  unfold wpX6_send
  cases hk : idx 3 k with
  | none =>
    rw [hk] at hQ
    exact q_in0 (m := 3) (by decide) (by decide) hk ⟨fun _ => hQ μ hF, fun q => absurd rfl q⟩
  | some K =>
    rw [hk] at hQ
    simp only at hQ
    obtain ⟨rfl, hK⟩ := idx_some (by decide) hk
    refine q_inY (lo := 0) (hi := 2) (Nat.zero_le _) (by omega) (by decide) ⟨fun q => absurd q (by decide), fun _ => ?_⟩
    have hB : (if K = 2 then 1 else 1000) < 2 ^ 31 := by split <;> decide
    have hB0 : 0 < (if K = 2 then 1 else 1000) := by split <;> decide
    have main : ∀ m, m = (if K = 2 then 1 else 1000) → bkX6_send_24 Q (nI K) a b n (nI (m - 1)) (nI 0) n μ := fun m hm => by
      subst hm
      unfold bkX6_send_24
      cases hn : idx (if K = 2 then 1 else 1000) n with
      | none =>
        rw [hn] at hQ
        exact q_in0 hB0 hB hn ⟨fun q => absurd rfl q, fun _ => hQ μ hF⟩
      | some N =>
        rw [hn] at hQ
        simp only at hQ
        obtain ⟨rfl, hN⟩ := idx_some hB hn
        have hN1 : N < 1000 := by split at hN <;> omega
        refine q_inY (Nat.zero_le _) (by omega) (by omega) ⟨fun _ => ?_, fun q => absurd q (by decide)⟩
        cases ha : idx 27 a with
        | none =>
          rw [ha] at hQ
          exact q_isKeyN ha ⟨fun _ => hQ μ hF, fun q => absurd rfl q⟩
        | some f =>
          rw [ha] at hQ
          simp only at hQ
          obtain ⟨rfl, hf⟩ := idx_some (by decide) ha
          refine q_isKey hf ⟨fun q => absurd q (by decide), fun _ => ?_⟩
          cases hb : idx 27 b with
          | none =>
            rw [hb] at hQ
            exact q_isKeyN hb ⟨fun _ => hQ μ hF, fun q => absurd rfl q⟩
          | some l =>
            rw [hb] at hQ
            simp only at hQ
            obtain ⟨rfl, hl⟩ := idx_some (by decide) hb
            refine q_isKey hl ⟨fun q => absurd q (by decide), fun _ => ?_⟩
            rw [nI_ltI (by omega) (by omega)]
            by_cases hlf : l < f
            · rw [if_pos hlf] at hQ
              exact ⟨fun _ => hQ μ hF, fun q => absurd hlf q⟩
            · rw [if_neg hlf] at hQ
              refine ⟨fun q => absurd q hlf, fun _ => ?_⟩
              have hs := sOk_mk hK (Nat.not_lt.mp hlf) hl hN1
              refine ⟨fun c => ?_, fun c => ⟨fun c2 => ?_, fun c2 => ?_⟩⟩
              · have : K = 1 := nI_inj (by omega) (by decide) c
                rw [if_neg (fun z => z.1 this)] at hQ
                exact m_sendGo hs hF hok hQ
              · have : l = f := nI_inj (by omega) (by omega) c2
                rw [if_neg (fun z => z.2 this)] at hQ
                exact m_sendGo hs hF hok hQ
              · rw [if_pos ⟨fun e => c (by rw [e]; rfl), fun e => c2 (by rw [e])⟩] at hQ
                exact hQ μ hF
    refine ⟨fun c => ?_, fun c => ?_⟩
    · exact main 1000 (by rw [if_neg (fun e => c (by rw [e]; rfl))])
    · exact main 1 (by rw [if_pos (nI_inj (by omega) (by decide) c)])
