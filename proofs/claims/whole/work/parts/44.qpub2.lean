/-! how many stones move: never below 0 -/
def Mv (b : Nat) (w w' : WT) : Prop := ∃ m, m ≤ b ∧ allSk w' = allSk w + nI m
theorem Mv_trans {a b : Nat} {u v w : WT} (h1 : Mv a u v) (h2 : Mv b v w) : Mv (a + b) u w := by
  obtain ⟨m, hm, e⟩ := h1
  obtain ⟨k, hk, e2⟩ := h2
  exact ⟨m + k, by omega, by rw [e2, e, Int32.add_assoc, nI_add]⟩
theorem Mv_le {a b : Nat} (h : a ≤ b) {u v : WT} (h1 : Mv a u v) : Mv b u v := by
  obtain ⟨m, hm, e⟩ := h1
  exact ⟨m, by omega, e⟩
theorem Mv_0 {u v : WT} (h : allSk v = allSk u) : Mv 0 u v := ⟨0, Nat.le_refl 0, by rw [h]; exact (Int32.add_zero _).symm⟩
theorem mv_fold {n c b : Nat} {ch : Stn → WT → WT} {I : WT → Prop} (hI : ∀ s w, sOk s → clo n c ≤ sF s → sL s ≤ chi n c → lenW w → I w → lenW (ch s w) ∧ I (ch s w)) (hm : ∀ s w, sOk s → clo n c ≤ sF s → sL s ≤ chi n c → lenW w → I w → Mv b w (ch s w)) : ∀ (g : List Stn) (w : WT), (∀ s ∈ g, sOk s ∧ clo n c ≤ sF s ∧ sL s ≤ chi n c) → lenW w → I w → Mv (g.length * b) w (g.foldl (fun w s => ch s w) w)
  | [], w, _, _, _ => Mv_le (Nat.zero_le _) (Mv_0 rfl)
  | s :: g, w, hP, hl, hw => by
    obtain ⟨p1, p2, p3⟩ := hP s (List.mem_cons_self ..)
    obtain ⟨i1, i2⟩ := hI s w p1 p2 p3 hl hw
    have h := Mv_trans (hm s w p1 p2 p3 hl hw) (mv_fold hI hm g (ch s w) (fun t ht => hP t (List.mem_cons_of_mem _ ht)) i1 i2)
    refine Mv_le ?_ h
    rw [List.length_cons, Nat.add_mul, Nat.one_mul]
    omega
theorem mv_sink {n c b : Nat} {ch : Stn → WT → WT} {I : WT → Prop} (hn : n < 13) (hc : c < 3) (hI : ∀ s w, sOk s → clo n c ≤ sF s → sL s ≤ chi n c → lenW w → I w → lenW (ch s w) ∧ I (ch s w)) (hIs : ∀ x w, I w → I (setN n x w)) (hm : ∀ s w, sOk s → clo n c ≤ sF s → sL s ≤ chi n c → lenW w → I w → Mv b w (ch s w)) {w : WT} (hb : bIn n (w.1 n).1) (hcap : capB n (w.1 n).1 ≤ 22) (hl : lenW w) (hw : I w) : Mv (22 + 22 * b) w (sinkG n c ch w) := by
  have hg22 : (gon (clo n c) (chi n c) (w.1 n).1).length ≤ 22 := by rw [gon_len]; exact Nat.le_trans (wgt_le _ _ _) (hl n hn)
  have hr22 := cap_22 hc hb hcap (w.1 n).1 [] (List.append_nil _).symm
  have h1 : Mv 22 w (setN n (takeN n c (w.1 n)) w) := ⟨_, hg22, allSk_set hn rfl⟩
  have h2 := mv_fold hI hm (gon (clo n c) (chi n c) (w.1 n).1) (setN n (takeN n c (w.1 n)) w) (fun s hs => gon_mem hn hc hb hs) (lenW_set hr22 hl) (hIs _ _ hw)
  unfold sinkG
  exact Mv_le (Nat.add_le_add_left (Nat.mul_le_mul_right b hg22) 22) (Mv_trans h1 h2)
theorem mv_rounds {n B b : Nat} {sink : Nat → WT → WT} {I : WT → Prop} (hn : n < 13) (hsi : SinkI n sink I) (hm : ∀ c w, c < 3 → bIn n (w.1 n).1 → capB n (w.1 n).1 ≤ 22 → lenW w → I w → Mv b w (sink c w)) : ∀ (k : Nat) (w : WT), bIn n (w.1 n).1 → capB n (w.1 n).1 ≤ 22 → lenW w → I w → Mv (k * b) w (roundsG B n sink k w)
  | 0, w, _, _, _, _ => Mv_le (Nat.zero_le _) (Mv_0 rfl)
  | k + 1, w, hb, hcap, hl, hI => by
    unfold roundsG
    by_cases hB : B < (w.1 n).1.length
    · rw [if_pos hB]
      have hc := heav_lt n (w.1 n).1
      obtain ⟨h1, h2, h3⟩ := hsi _ w hc hb hcap hl hI
      have hr := rst_cap hc hb
      have h := Mv_trans (hm _ w hc hb hcap hl hI) (mv_rounds (B := B) hn hsi hm k _ (by rw [h3]; exact rst_in hn hc hb) (by rw [h3]; omega) h1 h2)
      refine Mv_le ?_ h
      rw [Nat.add_mul, Nat.one_mul]
      omega
    · rw [if_neg hB]
      exact Mv_le (Nat.zero_le _) (Mv_0 rfl)
theorem mv_come {n B d b : Nat} {sink : Nat → WT → WT} {I : WT → Prop} (hn : n < 13) (hsi : SinkI n sink I) (hIs : ∀ x w, I w → I (setN n x w)) (hm : ∀ c w, c < 3 → bIn n (w.1 n).1 → capB n (w.1 n).1 ≤ 22 → lenW w → I w → Mv b w (sink c w)) {w : WT} {s : Stn} (hs : sIn n s) (hno : nOk n (w.1 n)) (hl : lenW w) (hI : I w) : Mv (3 * b) w (comeG B d n sink s w) := by
  have hpi := putN_in (d := d) hno.2 hs
  have h10 := hno.1
  have hcapP : capB n (putN d (w.1 n) s).1 ≤ 22 := Nat.le_trans (cap_len _ _) (by omega)
  have hlP := lenW_set (n := n) (x := putN d (w.1 n) s) (by omega) hl
  have e0 : (putN d (w.1 n) s).2.2.1 = (w.1 n).2.2.1 + 0 := by
    rw [Int32.add_zero]
    unfold putN
    split
    · split <;> rfl
    · rfl
  have h1 : Mv 0 w (setN n (putN d (w.1 n) s) w) := ⟨0, Nat.le_refl 0, allSk_set hn e0⟩
  have h2 := mv_rounds (B := B) hn hsi hm 3 (setN n (putN d (w.1 n) s) w) (by rw [setN_at]; exact hpi.1) (by rw [setN_at]; exact hcapP) hlP (hIs _ _ hI)
  unfold comeG
  exact Mv_le (by omega) (Mv_trans h1 h2)
theorem mv_sinkL {n : Nat} (hn : n < 13) : ∀ c w, c < 3 → bIn n (w.1 n).1 → capB n (w.1 n).1 ≤ 22 → lenW w → Ilf w → Mv 22 w (sinkL n c w) := fun c w hc hb hcap hl hI => Mv_le (by decide) (mv_sink (b := 0) hn hc invL (fun _ _ h => h) (fun s w _ _ _ _ _ => Mv_0 rfl) hb hcap hl hI)
theorem mv_comeL {n B d : Nat} (hn : n < 13) {w : WT} {s : Stn} (hs : sIn n s) (hno : nOk n (w.1 n)) (hl : lenW w) (hI : Ilf w) : Mv 66 w (comeL B d n s w) := mv_come (b := 22) hn (sinkI_L hn) (fun _ _ h => h) (mv_sinkL hn) hs hno hl hI
theorem mv_sinkM {n B d : Nat} (hn : n < 4) (hB : B ≤ 10) : ∀ c w, c < 3 → bIn n (w.1 n).1 → capB n (w.1 n).1 ≤ 22 → lenW w → IM n w → Mv 1474 w (sinkM B d n c w) := fun c w hc hb hcap hl hI => mv_sink (b := 66) (by omega) hc (invM hn hc hB) IM_set (fun s w' hs h1 h2 hl' hI' => mv_comeL (by unfold chN; omega) (sIn_child hn hc hs h1 h2) (hI'.2 c hc) hl' hI'.1) hb hcap hl hI
theorem mv_comeM {n B d : Nat} (hn : n < 4) (hB : B ≤ 10) {w : WT} {s : Stn} (hs : sIn n s) (hno : nOk n (w.1 n)) (hl : lenW w) (hI : IM n w) : Mv 4422 w (comeM B d n s w) := mv_come (b := 1474) (by omega) (sinkI_M hn hB) IM_set (mv_sinkM hn hB) hs hno hl hI
theorem mv_sinkR {B d : Nat} (hB : B ≤ 10) : ∀ c w, c < 3 → bIn 0 (w.1 0).1 → capB 0 (w.1 0).1 ≤ 22 → lenW w → IR w → Mv 97306 w (sinkR B d c w) := fun c w hc hb hcap hl hI => mv_sink (b := 4422) (by decide) hc (invR hc hB) IR_set (fun s w' hs h1 h2 hl' hI' => mv_comeM (by unfold chN; omega) hB (sIn_child (by decide) hc hs h1 h2) (hI'.2 _ (by unfold chN; omega) (by unfold chN; omega)) hl' (IR_M hc hI')) hb hcap hl hI
theorem mv_comeR {B d : Nat} (hB : B ≤ 10) {w : WT} {s : Stn} (hs : sOk s) (hw : WOk w) : Mv 291918 w (comeR B d s w) := by
  have hL := hs.2.2.1
  exact mv_come (b := 97306) (by decide) (sinkI_R hB) IR_set (mv_sinkR hB) ⟨hs, Nat.zero_le _, (by show sL s ≤ 26; omega)⟩ (hw.2 0 (by decide)) (WOk_len hw) (WOk_IR hw)
theorem sunk_nI {t : TS} (ht : TOk t) {k : Nat} (hk : k < 27) : ∃ m, m < 2 ^ 31 ∧ sunk t k = nI m := by
  obtain ⟨m, hm, e⟩ := mv_comeR (B := t.1) (d := t.2.1) ht.2.1 (sOk_set hk) ht.2.2.2
  refine ⟨m, by omega, ?_⟩
  have e' : allSk (dropT (0, k, k, 0) t).2.2.2.2 = allSk t.2.2.2.2 + nI m := e
  unfold sunk
  rw [e', Int32.add_comm, Int32.add_sub_cancel]
/-! the reference's other methods -/
theorem m_stone {n p w : Int32} {μ : Mem} {F : FS} (hF : RepM μ F) (hok : FOk F) {Q : Int32 → Mem → Prop} (hQ : Q (fStone n p w F) μ) : wpX6_stone n p w μ Q := by
  unfold fStone at hQ
  unfold wpX6_stone
  cases h : idx 13 n with
  | none =>
    rw [h] at hQ
    exact q_isNodeN h ⟨fun _ => hQ, fun q => absurd rfl q⟩
  | some m =>
    rw [h] at hQ
    simp only at hQ
    obtain ⟨rfl, hm⟩ := idx_some (by decide) h
    have hN := hF.1.2.2.2.2.1 m hm
    have hlen : ((sWT F).1 m).1.length ≤ 22 := WOk_len hok.1.2.2.2 m hm
    have e3 : μ 1 (72 + m) = nI ((sWT F).1 m).1.length := hN.1.1
    refine q_isNode hm ⟨fun q => absurd q (by decide), fun _ => ?_⟩
    rw [li 72, nI_add, nI_clamp (show 72 + m < 2 ^ 31 by omega), e3]
    refine ⟨vinI (by omega) (by decide), ?_⟩
    cases hp : idx ((sWT F).1 m).1.length p with
    | none =>
      rw [hp] at hQ
      have hfin : ∀ X : Prop, ((¬ (0 : Int32) = 0) → X) ∧ (((0 : Int32) = 0) → Q (-1) μ) := fun _ => ⟨fun q => absurd rfl q, fun _ => hQ⟩
      by_cases hl0 : ((sWT F).1 m).1.length = 0
      · rw [hl0]
        unfold wpX6_in
        refine ⟨fun _ => hfin _, fun q => ⟨fun _ => hfin _, fun q2 => ?_⟩⟩
        obtain ⟨j, hj, rfl⟩ := nI_of q
        exact absurd (show (nI 0 - 1 : Int32) < nI j by
          rw [Int32.lt_iff_toInt_lt, nI_toInt hj]
          have : (nI 0 - 1 : Int32).toInt = -1 := by decide
          omega) q2
      · rw [li 1, nI_sub (by omega)]
        exact q_in0 (by omega) (by omega) hp (hfin _)
    | some i =>
      rw [hp] at hQ
      simp only at hQ
      obtain ⟨rfl, hi⟩ := idx_some (by omega) hp
      rw [li 1, nI_sub (by omega)]
      refine q_inY (Nat.zero_le _) (by omega) (by omega) ⟨fun _ => ?_, fun q => absurd q (by decide)⟩
      have hg := getD_of hi
      have hst := hN.1.2 i _ hg
      have hpl := pl_lt (n := m) (i := i) hm (by omega)
      cases hw : idx 4 w with
      | none =>
        rw [hw] at hQ
        exact q_in0 (m := 4) (by decide) (by decide) hw ⟨fun _ => hQ, fun q => absurd rfl q⟩
      | some j =>
        rw [hw] at hQ
        simp only at hQ
        obtain ⟨rfl, hj⟩ := idx_some (by decide) hw
        refine q_inY (lo := 0) (hi := 3) (Nat.zero_le _) (by omega) (by decide) ⟨fun q => absurd q (by decide), fun _ => ?_⟩
        have e : ((((85 : Int32)) + (((96 : Int32)) * nI m)) + (((4 : Int32)) * nI i)) + nI j = nI (pl m i + j) := by
          rw [li 85, li 96, li 4, nI_mul, nI_mul, nI_add, nI_add, nI_add]
          rfl
        rw [e, nI_clamp (by omega)]
        refine ⟨vinI (by omega) (by decide), ?_⟩
        rcases (show j = 0 ∨ j = 1 ∨ j = 2 ∨ j = 3 by omega) with rfl | rfl | rfl | rfl
        · rw [show μ 1 (pl m i + 0) = _ from hst.1]; exact hQ
        · rw [hst.2.1]; exact hQ
        · rw [hst.2.2.1]; exact hQ
        · rw [hst.2.2.2]; exact hQ
theorem m_node {n w : Int32} {μ : Mem} {F : FS} (hF : RepM μ F) {Q : Int32 → Mem → Prop} (hQ : Q (fNode n w F) μ) : wpX6_ofNode n w μ Q := by
  unfold fNode at hQ
  unfold wpX6_ofNode
  cases h : idx 13 n with
  | none =>
    rw [h] at hQ
    exact q_isNodeN h ⟨fun q => absurd rfl q, fun _ => hQ⟩
  | some m =>
    rw [h] at hQ
    simp only at hQ
    obtain ⟨rfl, hm⟩ := idx_some (by decide) h
    obtain ⟨⟨g1, g2⟩, g3, g4, g5⟩ := hF.1.2.2.2.2.1 m hm
    refine q_isNode hm ⟨fun _ => ?_, fun q => absurd q (by decide)⟩
    refine lad6 (fun hw => ?_) (fun hw => ?_) (fun hw => ?_) (fun hw => ?_) (fun hw => ?_) (fun hw => ?_) (fun hw => ?_)
    · rw [hw] at hQ
      rw [li 72, nI_add, nI_clamp (show 72 + m < 2 ^ 31 by omega), g1]
      exact ⟨vinI (by omega) (by decide), hQ⟩
    · rw [hw] at hQ; exact q_firstOf hm hQ
    · rw [hw] at hQ
      refine q_firstOf hm (q_part hm ?_)
      have := kc_pos m
      rw [li 3, nI_mul, nI_add, li 1, nI_sub (by omega)]
      exact hQ
    · rw [hw] at hQ
      rw [li 33, nI_add, nI_clamp (show 33 + m < 2 ^ 31 by omega), g3]
      exact ⟨vinI (by omega) (by decide), hQ⟩
    · rw [hw] at hQ
      rw [li 46, nI_add, nI_clamp (show 46 + m < 2 ^ 31 by omega), g4]
      exact ⟨vinI (by omega) (by decide), hQ⟩
    · rw [hw] at hQ
      rw [li 59, nI_add, nI_clamp (show 59 + m < 2 ^ 31 by omega), g5]
      exact ⟨vinI (by omega) (by decide), hQ⟩
    · rw [hw] at hQ; exact hQ
theorem m_key {k w : Int32} {μ : Mem} {F : FS} (hF : RepM μ F) (hok : FOk F) {Q : Int32 → Mem → Prop} (hQ : Q (fKey k w F) μ) : wpX6_ofKey k w μ Q := by
  unfold fKey at hQ
  unfold wpX6_ofKey
  cases h : idx 27 k with
  | none =>
    rw [h] at hQ
    exact q_isKeyN h ⟨fun q => absurd rfl q, fun _ => hQ⟩
  | some m =>
    rw [h] at hQ
    simp only at hQ
    obtain ⟨rfl, hm⟩ := idx_some (by decide) h
    have hW := hF.1.2.2.2.2
    have ho := hok.1.2.2.2
    have hl := WOk_len ho
    have o0 := bIn_ok (ho.2 0 (by decide)).2
    have o1 := bIn_ok (ho.2 _ (midN_lt hm)).2
    have o2 := bIn_ok (ho.2 _ (lowN_lt hm)).2
    have b0 := Nat.le_trans (wgt_le m m ((sWT F).1 0).1) (hl 0 (by decide))
    have b1 := Nat.le_trans (wgt_le m m ((sWT F).1 (midN m)).1) (hl _ (midN_lt hm))
    have b2 := Nat.le_trans (wgt_le m m ((sWT F).1 (lowN m)).1) (hl _ (lowN_lt hm))
    have w2 : ∀ {P : Int32 → Mem → Prop}, P (nI (wiK (sWT F) m (lowN m))) μ → wpX6_with (nI (lowN m)) (nI m) μ P := fun {P} hp => q_with (lowN_lt hm) (by omega) o2 (hl _ (lowN_lt hm)) (hW.1 _ (lowN_lt hm)).1 hp
    have w1 : ∀ {P : Int32 → Mem → Prop}, P (nI (wiK (sWT F) m (midN m))) μ → wpX6_with (nI (midN m)) (nI m) μ P := fun {P} hp => q_with (midN_lt hm) (by omega) o1 (hl _ (midN_lt hm)) (hW.1 _ (midN_lt hm)).1 hp
    have w0 : ∀ {P : Int32 → Mem → Prop}, P (nI (wiK (sWT F) m 0)) μ → wpX6_with (0 : Int32) (nI m) μ P := fun {P} hp => q_with (n := 0) (by decide) (by omega) o0 (hl 0 (by decide)) (hW.1 0 (by decide)).1 hp
    refine q_isKey hm ⟨fun _ => ?_, fun q => absurd q (by decide)⟩
    rintro v2 e2 v3 e3
    have e2' : v2 = nI (lowN m) := by rw [e2, li 4, li 3, nI_div (by omega) (by decide), nI_add]; rfl
    have e3' : v3 = nI (midN m) := by rw [e3, li 1, li 9, nI_div (by omega) (by decide), nI_add]; rfl
    subst e2' e3'
    clear e2 e3
    refine lad4 (fun hw => ?_) (fun hw => ?_) (fun hw => ?_) (fun hw => ?_) (fun hw => ?_)
    · rw [hw] at hQ
      rw [li 6, nI_add, nI_clamp (show 6 + m < 2 ^ 31 by omega), hW.2.1 m hm]
      exact ⟨vinI (by omega) (by decide), hQ⟩
    · rw [hw] at hQ; exact q_readOf hm ho hW hQ
    · rw [hw] at hQ
      refine w2 (w1 (w0 ?_))
      rw [nI_add, nI_add]
      exact hQ
    · rw [hw] at hQ
      have le0 : ∀ x, x ≤ 22 → (nI x ≤ 0 ↔ ¬ 0 < x) := fun x hx => by
        have := nI_leI (a := x) (b := 0) (by omega) (by decide)
        rw [show (0 : Int32) = nI 0 from rfl, this]
        omega
      have hD : Q (deepK (sWT F) m) μ := hQ
      unfold deepK at hD
      have b0' : wiK (sWT F) m 0 ≤ 22 := b0
      have b1' : wiK (sWT F) m (midN m) ≤ 22 := b1
      have b2' : wiK (sWT F) m (lowN m) ≤ 22 := b2
      refine w2 ?_
      rw [le0 _ b2']
      refine ⟨fun q => w1 ?_, fun q => ?_⟩
      · rw [if_neg q] at hD
        rw [le0 _ b1']
        refine ⟨fun q => w0 ?_, fun q => ?_⟩
        · rw [if_neg q] at hD
          rw [le0 _ b0']
          refine ⟨fun q => ?_, fun q => ?_⟩
          · rw [if_neg q] at hD; exact hD
          · rw [if_pos (Decidable.not_not.mp q)] at hD; exact hD
        · rw [if_pos (Decidable.not_not.mp q)] at hD; exact hD
      · rw [if_pos (Decidable.not_not.mp q)] at hD; exact hD
    · rw [hw] at hQ; exact hQ
theorem q_present {μ : Mem} {w : WT} (hw : WOk w) (hR : RowW (μ 1) w) {Q : Int32 → Mem → Prop} (hQ : Q (preK w) μ) : wpX6_present μ Q := by
  have go : ∀ (m i f : Nat), i + m = 27 → m < f → bkX6_present_4 Q f (sumN (fun k => if rdK w k = none then 0 else 1) i) (nI i) μ := by
    intro m
    induction m with
    | zero =>
      intro i f hi hf
      cases f with
      | zero => omega
      | succ f =>
        unfold bkX6_present_4
        have e : i = 27 := by omega
        subst e
        exact ⟨fun _ => hQ, fun c => absurd (nI_le (Nat.le_refl 27) (by decide)) c⟩
    | succ m ih =>
      intro i f hi hf
      cases f with
      | zero => omega
      | succ f =>
        have hi27 : i < 27 := by omega
        unfold bkX6_present_4
        refine ⟨fun c => absurd c (nI_ge hi27 (by decide)), fun _ => q_readOf hi27 hw hR ⟨fun c => ?_, fun c => ?_⟩⟩
        · rintro _ rfl _ rfl
          have h := ih (i + 1) f (by omega) (by omega)
          unfold sumN at h
          rw [if_neg (fun q => c ((encV_m6 (rdK_ok hw hi27)).mpr q))] at h
          rw [nI_1]
          exact h
        · rintro _ rfl _ rfl
          have h := ih (i + 1) f (by omega) (by omega)
          unfold sumN at h
          rw [if_pos ((encV_m6 (rdK_ok hw hi27)).mp c)] at h
          rw [nI_1]
          exact h
  unfold wpX6_present
  exact ⟨28, go 27 0 28 (by decide) (by decide)⟩
theorem idx_8 {w : Int32} {j : Nat} (h : idx 8 w = some j) : idx 10 w = some j := by
  obtain ⟨e, hj⟩ := idx_some (by decide) h
  rw [e]
  exact idx_nI (by decide) (by omega)
theorem lad8 {w : Int32} {X0 X1 X2 X3 X4 X5 X6 X7 XN : Prop} (h0 : idx 8 w = some 0 → X0) (h1 : idx 8 w = some 1 → X1) (h2 : idx 8 w = some 2 → X2) (h3 : idx 8 w = some 3 → X3) (h4 : idx 8 w = some 4 → X4) (h5 : idx 8 w = some 5 → X5) (h6 : idx 8 w = some 6 → X6) (h7 : idx 8 w = some 7 → X7) (hN : idx 8 w = none → XN) : ((w = (0 : Int32)) → X0) ∧ ((¬ w = (0 : Int32)) → (((w = (1 : Int32)) → X1) ∧ ((¬ w = (1 : Int32)) → (((w = (2 : Int32)) → X2) ∧ ((¬ w = (2 : Int32)) → (((w = (3 : Int32)) → X3) ∧ ((¬ w = (3 : Int32)) → (((w = (4 : Int32)) → X4) ∧ ((¬ w = (4 : Int32)) → (((w = (5 : Int32)) → X5) ∧ ((¬ w = (5 : Int32)) → (((w = (6 : Int32)) → X6) ∧ ((¬ w = (6 : Int32)) → (((w = (7 : Int32)) → X7) ∧ ((¬ w = (7 : Int32)) → (XN)))))))))))))))) := by
  refine ⟨fun e => h0 (by rw [e]; exact idx_nI (k := 0) (by decide) (by decide)), fun c0 => ⟨fun e => h1 (by rw [e]; exact idx_nI (k := 1) (by decide) (by decide)), fun c1 => ⟨fun e => h2 (by rw [e]; exact idx_nI (k := 2) (by decide) (by decide)), fun c2 => ⟨fun e => h3 (by rw [e]; exact idx_nI (k := 3) (by decide) (by decide)), fun c3 => ⟨fun e => h4 (by rw [e]; exact idx_nI (k := 4) (by decide) (by decide)), fun c4 => ⟨fun e => h5 (by rw [e]; exact idx_nI (k := 5) (by decide) (by decide)), fun c5 => ⟨fun e => h6 (by rw [e]; exact idx_nI (k := 6) (by decide) (by decide)), fun c6 => ⟨fun e => h7 (by rw [e]; exact idx_nI (k := 7) (by decide) (by decide)), fun c7 => ?_⟩⟩⟩⟩⟩⟩⟩⟩
  cases h : idx 8 w with
  | none => exact hN h
  | some j =>
    obtain ⟨e, hj⟩ := idx_some (by decide) h
    rcases (show j = 0 ∨ j = 1 ∨ j = 2 ∨ j = 3 ∨ j = 4 ∨ j = 5 ∨ j = 6 ∨ j = 7 by omega) with rfl | rfl | rfl | rfl | rfl | rfl | rfl | rfl
    · exact absurd e c0
    · exact absurd e c1
    · exact absurd e c2
    · exact absurd e c3
    · exact absurd e c4
    · exact absurd e c5
    · exact absurd e c6
    · exact absurd e c7
theorem m_count {w : Int32} {μ : Mem} {F : FS} (hF : RepM μ F) (hok : FOk F) {Q : Int32 → Mem → Prop} (hQ : Q (fCount w F) μ) : wpX6_count w μ Q := by
  unfold fCount at hQ
  unfold wpX6_count
  obtain ⟨t0, t1, t2, t3, hW⟩ := hF.1
  have ho := hok.1.2.2.2
  have row : ∀ i, (((2 : Int32)) + nI (i + 1)) - ((1 : Int32)) = nI (2 + i) := fun i => by
    rw [li 2, nI_add, li 1, nI_sub (by omega)]
    rfl
  refine lad8 (fun hw => ?_) (fun hw => ?_) (fun hw => ?_) (fun hw => ?_) (fun hw => ?_) (fun hw => ?_) (fun hw => ?_) (fun hw => ?_) (fun hw => ?_)
  · rw [idx_8 hw] at hQ; exact q_allStones hW hQ
  · have e := (idx_some (by decide) hw).1
    rw [idx_8 hw] at hQ
    rw [e, row 0]
    refine ⟨vinI (by decide) (by decide), ?_⟩
    show Q (μ 1 2) μ
    rw [t2]; exact hQ
  · have e := (idx_some (by decide) hw).1
    rw [idx_8 hw] at hQ
    rw [e, row 1]
    refine ⟨vinI (by decide) (by decide), ?_⟩
    show Q (μ 1 3) μ
    rw [hW.2.2.2]; exact hQ
  · have e := (idx_some (by decide) hw).1
    rw [idx_8 hw] at hQ
    rw [e, row 2]
    refine ⟨vinI (by decide) (by decide), ?_⟩
    show Q (μ 1 4) μ
    rw [hW.2.2.1]; exact hQ
  · have e := (idx_some (by decide) hw).1
    rw [idx_8 hw] at hQ
    rw [e, row 3]
    refine ⟨vinI (by decide) (by decide), ?_⟩
    show Q (μ 1 5) μ
    rw [t3]; exact hQ
  · rw [idx_8 hw] at hQ; exact q_present ho hW hQ
  · rw [idx_8 hw] at hQ
    rw [hF.2.2.2.1]; exact hQ
  · rw [idx_8 hw] at hQ
    rw [hF.2.1.2.1]; exact hQ
  · cases h10 : idx 10 w with
    | none =>
      rw [h10] at hQ
      have hfin : ∀ X : Prop, (((0 : Int32) = 0) → Q (-2) μ) ∧ ((¬ (0 : Int32) = 0) → X) := fun _ => ⟨fun _ => hQ, fun q => absurd rfl q⟩
      rcases idx_none (by decide) h10 with h1 | ⟨-, j, hj, hmj, rfl⟩
      · exact q_inN (lo := 8) h1 (by decide) (hfin _)
      · exact q_inX (lo := 8) (hi := 9) hj (by decide) (by decide) (Or.inr (by omega)) (hfin _)
    | some j =>
      obtain ⟨rfl, hj⟩ := idx_some (by decide) h10
      rw [h10] at hQ
      simp only at hQ
      have h8 : 8 ≤ j := Nat.not_lt.mp (fun q => by rw [idx_nI (by decide) q] at hw; cases hw)
      refine q_inY (lo := 8) (hi := 9) h8 (by omega) (by decide) ⟨fun q => absurd q (by decide), fun _ => ?_⟩
      rw [li 8, nI_sub h8, nI_clamp (show j - 8 < 2 ^ 31 by omega)]
      refine ⟨vinI (by omega) (by decide), ?_⟩
      rcases (show j = 8 ∨ j = 9 by omega) with rfl | rfl
      · rw [show μ 1 (8 - 8) = _ from t0]; exact hQ
      · rw [show μ 1 (9 - 8) = _ from t1]; exact hQ
theorem q_sum {a b : Nat} (hab : a ≤ b) (hb : b < 27) {μ : Mem} {w : WT} (hw : WOk w) (hR : RowW (μ 1) w) {Q : Int32 → Mem → Prop} (hQ : Q (sumV w a (b + 1 - a)) μ) : ∃ f, bkX6_sum_26 Q f (nI b) 0 (nI a) μ := by
  have go : ∀ (m i f : Nat), i + m = b + 1 - a → m < f → bkX6_sum_26 Q f (nI b) (sumV w a i) (nI (a + i)) μ := by
    intro m
    induction m with
    | zero =>
      intro i f hi hf
      cases f with
      | zero => omega
      | succ f =>
        unfold bkX6_sum_26
        refine ⟨fun _ => ?_, fun c => absurd (nI_lt (by omega) (by omega)) c⟩
        rw [show i = b + 1 - a by omega]
        exact hQ
    | succ m ih =>
      intro i f hi hf
      cases f with
      | zero => omega
      | succ f =>
        have hk : a + i < 27 := by omega
        unfold bkX6_sum_26
        refine ⟨fun c => absurd c (nI_nlt (by omega) (by omega)), fun _ => q_readOf hk hw hR ⟨fun c => ?_, fun c => ?_⟩⟩
        · rintro _ rfl _ rfl
          have h := ih (i + 1) f (by omega) (by omega)
          unfold sumV at h
          cases hr : rdK w (a + i) with
          | none => exact absurd ((encV_m6 (rdK_ok hw hk)).mpr hr) c
          | some x =>
            rw [hr] at h
            rw [nI_1]
            exact h
        · rintro _ rfl _ rfl
          have h := ih (i + 1) f (by omega) (by omega)
          unfold sumV at h
          rw [(encV_m6 (rdK_ok hw hk)).mp c] at h
          rw [nI_1]
          exact h
  exact ⟨b + 1 - a + 1, go (b + 1 - a) 0 _ (by omega) (by omega)⟩
theorem m_sum {a b : Int32} {μ : Mem} {F : FS} (hF : RepM μ F) (hok : FOk F) {Q : Int32 → Mem → Prop} (hQ : Q (fSum a b F) μ) : wpX6_sum a b μ Q := by
  unfold fSum at hQ
  unfold wpX6_sum
  cases ha : idx 27 a with
  | none =>
    rw [ha] at hQ
    exact q_isKeyN ha ⟨fun _ => hQ, fun q => absurd rfl q⟩
  | some f =>
    rw [ha] at hQ
    simp only at hQ
    obtain ⟨rfl, hf⟩ := idx_some (by decide) ha
    refine q_isKey hf ⟨fun q => absurd q (by decide), fun _ => ?_⟩
    cases hb : idx 27 b with
    | none =>
      rw [hb] at hQ
      exact q_isKeyN hb ⟨fun _ => hQ, fun q => absurd rfl q⟩
    | some l =>
      rw [hb] at hQ
      simp only at hQ
      obtain ⟨rfl, hl⟩ := idx_some (by decide) hb
      refine q_isKey hl ⟨fun q => absurd q (by decide), fun _ => ?_⟩
      rw [nI_leI (by omega) (by omega)]
      by_cases hlf : l < f
      · rw [if_pos hlf] at hQ
        exact ⟨fun q => absurd hlf (by omega), fun _ => hQ⟩
      · rw [if_neg hlf] at hQ
        exact ⟨fun q => q_sum q hl hok.1.2.2.2 hF.1.2.2.2.2 hQ, fun q => absurd (Nat.not_lt.mp hlf) q⟩
theorem m_heavy {n : Int32} {μ : Mem} {F : FS} (hF : RepM μ F) (hok : FOk F) {Q : Int32 → Mem → Prop} (hQ : Q (fHeavy n F) μ) : wpX6_heaviest n μ Q := by
  unfold fHeavy at hQ
  unfold wpX6_heaviest
  cases h : idx 13 n with
  | none =>
    rw [h] at hQ
    exact q_isNodeN h ⟨fun q => absurd rfl q, fun _ => hQ⟩
  | some m =>
    rw [h] at hQ
    simp only at hQ
    obtain ⟨rfl, hm⟩ := idx_some (by decide) h
    have hN := hF.1.2.2.2.2.1 m hm
    have hno := hok.1.2.2.2.2 m hm
    have hlen : ((sWT F).1 m).1.length ≤ 22 := WOk_len hok.1.2.2.2 m hm
    have e3 : μ 1 (72 + m) = nI ((sWT F).1 m).1.length := hN.1.1
    refine q_isNode hm ⟨fun _ => ?_, fun q => absurd q (by decide)⟩
    rw [li 72, nI_add, nI_clamp (show 72 + m < 2 ^ 31 by omega), e3]
    refine ⟨vinI (by omega) (by decide), fun c => ?_, fun c => ?_⟩
    · have hne : ¬ ((sWT F).1 m).1 = [] := fun e => c (by rw [e]; rfl)
      rw [if_neg hne] at hQ
      exact q_chosen hm (bIn_ok hno.2) hlen hN.1 (q_childOf hm hQ)
    · have he : ((sWT F).1 m).1.length = 0 := nI_inj (b := 0) (by omega) (by decide) c
      rw [if_pos (List.length_eq_zero_iff.mp he)] at hQ
      exact hQ
theorem m_same {a b : Int32} {μ : Mem} {F : FS} (hF : RepM μ F) (hok : FOk F) {Q : Int32 → Mem → Prop} (hQ : Q (fSame a b F) μ) : wpX6_same a b μ Q := by
  unfold fSame at hQ
  unfold wpX6_same
  have hW := hF.1.2.2.2.2
  have ho := hok.1.2.2.2
  cases ha : idx 27 a with
  | none =>
    rw [ha] at hQ
    exact q_isKeyN ha ⟨fun _ => hQ, fun q => absurd rfl q⟩
  | some f =>
    rw [ha] at hQ
    simp only at hQ
    obtain ⟨rfl, hf⟩ := idx_some (by decide) ha
    refine q_isKey hf ⟨fun q => absurd q (by decide), fun _ => ?_⟩
    cases hb : idx 27 b with
    | none =>
      rw [hb] at hQ
      exact q_isKeyN hb ⟨fun q => absurd rfl q, fun _ => hQ⟩
    | some l =>
      rw [hb] at hQ
      simp only at hQ
      obtain ⟨rfl, hl⟩ := idx_some (by decide) hb
      refine q_isKey hl ⟨fun _ => q_readOf hf ho hW (q_readOf hl ho hW ?_), fun q => absurd q (by decide)⟩
      by_cases e : rdK (sWT F) f = rdK (sWT F) l
      · rw [if_pos e] at hQ
        exact ⟨fun q => absurd (congrArg encV e) q, fun _ => hQ⟩
      · rw [if_neg e] at hQ
        exact ⟨fun _ => hQ, fun q => absurd (encV_inj (rdK_ok ho hf) (rdK_ok ho hl) q) e⟩
theorem RepM_5 {μ μ' : Mem} {F : FS} (h : RepM μ F) (e : ∀ k, k ≠ 5 → μ' k = μ k) : RepM μ' F := by
  refine ⟨by rw [e 1 (by decide)]; exact h.1, RowP_congr (congrFun (e 0 (by decide)) 0) (e 2 (by decide)) h.2.1, fun i hi => SlotM_congr (e 3 (by decide)) (e 4 (by decide)) (h.2.2.1 i hi), ?_⟩
  rw [e 0 (by decide), e 8 (by decide)]
  exact h.2.2.2
theorem m_sunk {k : Nat} (hk : k < 27) {μ : Mem} {F : FS} (hF : RepM μ F) (hok : FOk F) {Q : Int32 → Mem → Prop} (hQ : ∀ μ', RepM μ' F → Q (sunk F.1 k) μ') : wpX6_sinks (nI k) μ Q := by
  have hl := WOk_len hok.1.2.2.2
  unfold wpX6_sinks
  refine q_layAside hl hF.1 (fun μ2 h5 ho2 => ?_)
  have hF2 := RepM_5 hF ho2
  refine q_drop (s := (0, k, k, 0)) (sOk_set hk) hok.1 hF2.1 (fun μ4 h4 hk4 => ?_)
  have hF4 := RepM_tree hF2 hk4 h4
  have h54 : RowT (μ4 5) F.1 := RowT_congr hl (fun j _ => hk4 5 j (by decide) (by decide) (by decide) (fun q => absurd q (by decide))) h5
  refine ⟨vinI (n := 1333) (a := 3) (by decide) (by decide), vinI (n := 1333) (a := 3) (by decide) (by decide), ?_⟩
  show ∀ v5 : Int32, v5 = μ4 1 3 - μ4 5 3 → _
  have e : μ4 1 3 - μ4 5 3 = sunk F.1 k := by
    rw [h4.2.2.2.2.2.2.2, h54.2.2.2.2.2.2.2]
    rfl
  rw [e]
  rintro _ rfl
  exact q_bringBack hl h54 (fun μ7 h7 ho7 => hQ μ7 (RepM_tree (F := (dropT (0, k, k, 0) F.1, F.2)) (t := F.1) hF4 (fun k j q1 _ _ _ => by rw [ho7 k q1]) h7))
theorem m_would {k : Int32} {μ : Mem} {F : FS} (hF : RepM μ F) (hok : FOk F) {Q : Int32 → Mem → Prop} (hQ : ∀ μ', RepM μ' F → Q (fWould k F) μ') : wpX6_wouldSink k μ Q := by
  unfold fWould at hQ
  unfold wpX6_wouldSink
  cases h : idx 27 k with
  | none =>
    rw [h] at hQ
    exact q_isKeyN h ⟨fun _ => hQ μ hF, fun q => absurd rfl q⟩
  | some m =>
    rw [h] at hQ
    obtain ⟨rfl, hm⟩ := idx_some (by decide) h
    exact q_isKey hm ⟨fun q => absurd q (by decide), fun _ => m_sunk hm hF hok hQ⟩
theorem lm_step {w b m : Int32} {i : Nat} (f : Nat) {F : FS} (hok : FOk F) {Q : Int32 → Mem → Prop} (hi27 : i < 27) {μ : Mem} (hF : RepM μ F) (h1 : ∀ μ', RepM μ' F → sunk F.1 i ≤ m → bkX6_worstKey_19 Q f w b m (nI (i + 1)) μ') (h2 : ∀ μ', RepM μ' F → ¬ sunk F.1 i ≤ m → bkX6_worstKey_19 Q f w (nI i) (sunk F.1 i) (nI (i + 1)) μ') : bkX6_worstKey_19 Q (f + 1) w b m (nI i) μ := by
  unfold bkX6_worstKey_19
  refine ⟨fun q => absurd q (nI_ge hi27 (by decide)), fun _ => m_sunk hi27 hF hok (fun μ4 hF4 => ⟨fun c => ?_, fun c => ?_⟩)⟩
  · unfold bkX6_worstKey_46
    refine ⟨fun _ => ?_, fun q => absurd c q⟩
    rintro _ rfl
    rw [nI_1]
    exact h1 μ4 hF4 c
  · unfold bkX6_worstKey_46
    refine ⟨fun q => absurd q c, fun _ => ?_⟩
    rintro _ rfl
    rw [nI_1]
    exact h2 μ4 hF4 c
theorem lm_worst {w : Int32} {F : FS} (hok : FOk F) {Q : Int32 → Mem → Prop} (h0 : ∀ μ', RepM μ' F → w = 0 → Q (nI (worst F.1 27).1) μ') (h1 : ∀ μ', RepM μ' F → ¬ w = 0 → Q (worst F.1 27).2 μ') : ∀ (m i f : Nat) (μ : Mem), i + m = 27 → m < f → RepM μ F → bkX6_worstKey_19 Q f w (nI (worst F.1 i).1) (worst F.1 i).2 (nI i) μ
  | _, _, 0, _, _, hf, _ => absurd hf (Nat.not_lt_zero _)
  | 0, i, f + 1, μ, hi, _, hF => by
    have e : i = 27 := by omega
    subst e
    unfold bkX6_worstKey_19
    exact ⟨fun _ => ⟨fun c => h1 μ hF c, fun c => h0 μ hF c⟩, fun q => absurd (nI_le (Nat.le_refl 27) (by decide)) q⟩
  | m + 1, i, f + 1, μ, hi, hf, hF => by
    refine lm_step f hok (by omega) hF (fun μ4 hF4 c => ?_) (fun μ4 hF4 c => ?_)
    · have e : worst F.1 (i + 1) = worst F.1 i := by conv => lhs; unfold worst; rw [if_pos c]
      have h := lm_worst hok h0 h1 m (i + 1) f μ4 (by omega) (by omega) hF4
      rw [e] at h
      exact h
    · have e : worst F.1 (i + 1) = (i, sunk F.1 i) := by conv => lhs; unfold worst; rw [if_neg c]
      have h := lm_worst hok h0 h1 m (i + 1) f μ4 (by omega) (by omega) hF4
      rw [e] at h
      exact h
theorem m_worst {w : Int32} {μ : Mem} {F : FS} (hF : RepM μ F) (hok : FOk F) {Q : Int32 → Mem → Prop} (hQ : ∀ μ', RepM μ' F → Q (fWorst w F) μ') : wpX6_worstKey w μ Q := by
  unfold fWorst at hQ
  unfold wpX6_worstKey
  cases h : idx 2 w with
  | none =>
    rw [h] at hQ
    exact q_in0 (m := 2) (by decide) (by decide) h ⟨fun q => absurd rfl q, fun _ => hQ μ hF⟩
  | some j =>
    obtain ⟨rfl, hj2⟩ := idx_some (by decide) h
    rw [h] at hQ
    simp only at hQ
    refine q_inY (lo := 0) (hi := 1) (Nat.zero_le _) (by omega) (by decide) ⟨fun _ => ⟨28, ?_⟩, fun q => absurd q (by decide)⟩
    obtain ⟨s, hs, es⟩ := sunk_nI hok.1 (k := 0) (by decide)
    refine lm_step (i := 0) 27 hok (by decide) hF (fun μ4 hF4 c => ?_) (fun μ4 hF4 c => ?_)
    · rw [es, Int32.le_iff_toInt_le, nI_toInt hs, m1_toInt] at c
      omega
    · have hh := lm_worst (w := nI j) hok (Q := Q) (fun μ' h' c => ?_) (fun μ' h' c => ?_) 26 1 27 μ4 (by decide) (by decide) hF4
      · rw [worst_1] at hh
        exact hh
      · rw [if_pos (nI_inj (b := 0) (by omega) (by decide) c)] at hQ
        exact hQ μ' h'
      · rw [if_neg (fun e => c (by rw [e]; rfl))] at hQ
        exact hQ μ' h'
theorem lm_toE {F : FS} (hok : FOk F) {Q : Int32 → Mem → Prop} (hQ : ∀ μ', RepM μ' F → Q (fToE F) μ') : ∀ (m i f : Nat) (μ : Mem), i + m = 13 → m < f → RepM μ (setW F.1 (empA F.1.1 F.1.2.1 (sWT F) i), F.2) → RowT (μ 5) F.1 → bkX6_toEmptyAll_6 Q f (nI i) μ
  | _, _, 0, _, _, hf, _, _ => absurd hf (Nat.not_lt_zero _)
  | 0, i, f + 1, μ, hi, _, hF, h5 => by
    have hl := WOk_len hok.1.2.2.2
    have e : i = 13 := by omega
    subst e
    have h := hQ
    unfold fToE at h
    generalize empA F.1.1 F.1.2.1 (sWT F) 13 = we at h hF
    have hW : RowW (μ 1) we := hF.1.2.2.2.2
    unfold bkX6_toEmptyAll_6
    refine ⟨fun _ => ⟨vinI (n := 1333) (a := 3) (by decide) (by decide), vinI (n := 1333) (a := 3) (by decide) (by decide), ?_⟩, fun q => absurd (nI_le (Nat.le_refl 13) (by decide)) q⟩
    show ∀ v5 : Int32, v5 = μ 1 3 - μ 5 3 → _
    rw [hW.2.2.2, h5.2.2.2.2.2.2.2]
    rintro _ rfl
    exact q_bringBack hl h5 (fun μ7 h7 ho7 => h μ7 (RepM_tree (F := (setW F.1 we, F.2)) (t := F.1) hF (fun k j q1 _ _ _ => by rw [ho7 k q1]) h7))
  | m + 1, i, f + 1, μ, hi, hf, hF, h5 => by
    have hl := WOk_len hok.1.2.2.2
    have hi13 : i < 13 := by omega
    unfold bkX6_toEmptyAll_6
    refine ⟨fun q => absurd q (nI_ge hi13 (by decide)), fun _ => ?_⟩
    refine q_empties hi13 hok.1.2.1 hok.1.2.2.1 (empA_ok hok.1.2.1 hok.1.2.2.2 i (by omega)) ⟨hF.1.1, hF.1.2.1⟩ hF.1.2.2.2.2 (fun μ7 hW hk => ?_)
    rintro _ rfl
    rw [nI_1]
    have hT := m_setW (t := setW F.1 (empA F.1.1 F.1.2.1 (sWT F) i)) hF.1 hW hk
    exact lm_toE hok hQ m (i + 1) f μ7 (by omega) (by omega) (RepM_tree (F := (setW F.1 (empA F.1.1 F.1.2.1 (sWT F) i), F.2)) (t := setW F.1 (empA F.1.1 F.1.2.1 (sWT F) (i + 1))) hF hk.1 hT) (RowT_congr hl (fun j _ => hk.1 5 j (by decide) (by decide) (by decide) (fun q => absurd q (by decide))) h5)
theorem m_toE {μ : Mem} {F : FS} (hF : RepM μ F) (hok : FOk F) {Q : Int32 → Mem → Prop} (hQ : ∀ μ', RepM μ' F → Q (fToE F) μ') : wpX6_toEmptyAll μ Q := by
  have hl := WOk_len hok.1.2.2.2
  unfold wpX6_toEmptyAll
  exact q_layAside hl hF.1 (fun μ2 h5 ho2 => ⟨14, lm_toE hok hQ 13 0 14 μ2 (by decide) (by decide) (RepM_5 hF ho2) h5⟩)
/-- the pad changed -/
theorem RepM_pad {μ μ' : Mem} {F : FS} {cs : List Nat} (h : RepM μ F) (e0 : μ' 0 0 = μ 0 0) (e : ∀ k, 1 ≤ k → k < 5 → μ' k = μ k) (hP : PadX (μ' 0 1) (μ' 8) cs) : RepM μ' (F.1, F.2.1, F.2.2.1, cs) := by
  refine ⟨?_, RowP_congr e0 (e 2 (by decide) (by decide)) h.2.1, fun i hi => SlotM_congr (e 3 (by decide) (by decide)) (e 4 (by decide) (by decide)) (h.2.2.1 i hi), hP⟩
  rw [e 1 (by decide) (by decide)]
  exact h.1
theorem m_wipe {μ : Mem} {F : FS} (hF : RepM μ F) {Q : Int32 → Mem → Prop} (hQ : ∀ μ', RepM μ' (fWipe F).2 → Q (fWipe F).1 μ') : wpX6_wipe μ Q := by
  unfold wpX6_wipe
  rw [hF.2.2.2.1]
  rintro _ rfl _ rfl
  exact hQ _ (RepM_pad hF (ms_place _ _ _ (by decide)) (fun k h1 _ => ms_cell _ _ _ (by omega)) ⟨ms_same _ _ _ _, fun i c hi => by cases hi⟩)
theorem m_undo {μ : Mem} {F : FS} (hF : RepM μ F) (hok : FOk F) {Q : Int32 → Mem → Prop} (hQ : ∀ μ', RepM μ' (fUndo F).2 → Q (fUndo F).1 μ') : wpX6_undo μ Q := by
  unfold fUndo at hQ
  obtain ⟨hT, hP, hS, hp⟩ := hF
  cases hh : F.2.1 with
  | nil =>
    rw [hh] at hQ
    have hP' := hP
    rw [hh] at hP'
    exact q_undo0 hP' (hQ μ ⟨hT, hP, hS, hp⟩)
  | cons t hs =>
    rw [hh] at hQ hP
    have htok := hok.2.1 t (by rw [hh]; exact List.mem_cons_self ..)
    refine q_undo (WOk_len htok.2.2.2) (fun u hu => WOk_len (hok.2.1 u (by rw [hh]; exact List.mem_cons_of_mem _ hu)).2.2.2) hP (fun μ' hP' hT' ho => hQ μ' ⟨hT', hP', fun i hi => ?_, ?_⟩)
    · have hc : ∀ k, k ≠ 0 → k ≠ 1 → μ' k = μ k := fun k q0 q1 => by funext j; exact ho k j q1 (fun q => absurd q q0)
      exact SlotM_congr (hc 3 (by decide) (by decide)) (hc 4 (by decide) (by decide)) (hS i hi)
    · have hc : ∀ k, k ≠ 0 → k ≠ 1 → μ' k = μ k := fun k q0 q1 => by funext j; exact ho k j q1 (fun q => absurd q q0)
      rw [ho 0 1 (by decide) (fun _ => by decide), hc 8 (by decide) (by decide)]
      exact hp
theorem m_save {s : Int32} {μ : Mem} {F : FS} (hF : RepM μ F) (hok : FOk F) {Q : Int32 → Mem → Prop} (hQ : ∀ μ', RepM μ' (fSave s F).2 → Q (fSave s F).1 μ') : wpX6_save s μ Q := by
  have hl := WOk_len hok.1.2.2.2
  unfold fSave at hQ
  unfold wpX6_save
  cases h : idx 2 s with
  | none =>
    rw [h] at hQ
    exact q_in0 (m := 2) (by decide) (by decide) h ⟨fun q => absurd rfl q, fun _ => hQ μ hF⟩
  | some m =>
    rw [h] at hQ
    obtain ⟨rfl, hm⟩ := idx_some (by decide) h
    refine q_inY (lo := 0) (hi := 1) (Nat.zero_le _) (by omega) (by decide) ⟨fun _ => ?_, fun q => absurd q (by decide)⟩
    refine q_copy (A := 3) (a := 1333 * m) (N := 1333) (B := 1) (b := 0) (μ0 := μ) (bk := fun f i μ => bkX6_save_14 Q f (nI m) i μ) (fun e => absurd e (by decide)) (fun f => ?_) (fun f i μ1 hi ho hh => ?_)
    · show bkX6_save_14 _ _ _ _ _
      unfold bkX6_save_14
      rw [nI_clamp (show m < 2 ^ 31 by omega)]
      refine ⟨fun _ => ⟨vinI hm (by decide), ?_⟩, fun q => absurd (nI_le (Nat.le_refl 1333) (by decide)) q⟩
      have e1 : vp_nar .boolean (1 : Int32) = 1 := by decide
      rw [e1]
      rintro μ6 e6
      have hc : ∀ k, k ≠ 3 → k ≠ 4 → μ6 k = μ k := fun k q3 q4 => by rw [e6, ms_cell _ _ _ q4, cpI_ne _ _ _ _ _ _ _ q3]
      have h3 : ∀ j, μ6 3 j = if 1333 * m + 0 ≤ j ∧ j < 1333 * m + 1333 then μ 1 (0 + (j - 1333 * m)) else μ 3 j := fun j => by rw [e6, ms_cell _ _ _ (by decide), cpI_A]
      have hF6 : RepM μ6 (F.1, F.2.1, up F.2.2.1 m (some F.1), F.2.2.2) := by
        refine ⟨by rw [hc 1 (by decide) (by decide)]; exact hF.1, RowP_congr (by rw [hc 0 (by decide) (by decide)]) (hc 2 (by decide) (by decide)) hF.2.1, fun i hi => ?_, ?_⟩
        · show SlotM μ6 i (up F.2.2.1 m (some F.1) i)
          by_cases e : i = m
          · rw [e, up_same]
            refine ⟨by rw [e6, ms_same], RowT_congr hl (fun j hj => ?_) hF.1⟩
            show μ6 3 (1333 * m + j) = μ 1 j
            rw [h3, if_pos (by omega)]
            congr 1
            omega
          · rw [up_ne _ _ e]
            have hs := hF.2.2.1 i hi
            have e84 : μ6 4 i = μ 4 i := by rw [e6, ms_place _ _ _ e, cpI_ne _ _ _ _ _ _ _ (by decide)]
            cases ho : F.2.2.1 i with
            | none =>
              rw [ho] at hs
              show μ6 4 i = 0
              rw [e84]
              exact hs
            | some t =>
              rw [ho] at hs
              refine ⟨by rw [e84]; exact hs.1, RowT_congr (WOk_len (hok.2.2.1 i t ho).2.2.2) (fun j hj => ?_) hs.2⟩
              show μ6 3 (1333 * i + j) = μ 3 (1333 * i + j)
              rw [h3, if_neg (by omega)]
        · rw [hc 0 (by decide) (by decide), hc 8 (by decide) (by decide)]
          exact hF.2.2.2
      exact q_allStones hF6.1.2.2.2.2 (hQ _ hF6)
    · show bkX6_save_14 _ _ _ _ _
      unfold bkX6_save_14
      refine ⟨fun q => absurd q (nI_ge hi (by decide)), fun _ => ?_⟩
      rw [li 1333, nI_mul, nI_add, nI_clamp (show i < 2 ^ 31 by omega), nI_clamp (show 1333 * m + i < 2 ^ 31 by omega), nI_1]
      refine ⟨vinI (by omega) (by decide), vinI (by omega) (by decide), ?_⟩
      rintro _ rfl _ rfl
      rw [Nat.zero_add] at hh
      exact hh
theorem m_restore {s : Int32} {μ : Mem} {F : FS} (hF : RepM μ F) (hok : FOk F) {Q : Int32 → Mem → Prop} (hQ : ∀ μ', RepM μ' (fRest s F).2 → Q (fRest s F).1 μ') : wpX6_restore s μ Q := by
  unfold fRest at hQ
  unfold wpX6_restore
  cases h : idx 2 s with
  | none =>
    rw [h] at hQ
    exact q_in0 (m := 2) (by decide) (by decide) h ⟨fun q => absurd rfl q, fun _ => hQ μ hF⟩
  | some m =>
    rw [h] at hQ
    simp only at hQ
    obtain ⟨rfl, hm⟩ := idx_some (by decide) h
    refine q_inY (lo := 0) (hi := 1) (Nat.zero_le _) (by omega) (by decide) ⟨fun _ => ?_, fun q => absurd q (by decide)⟩
    rw [nI_clamp (show m < 2 ^ 31 by omega)]
    have hs := hF.2.2.1 m hm
    refine ⟨vinI hm (by decide), fun c => ?_, fun c => ?_⟩
    · cases ho : F.2.2.1 m with
      | none =>
        rw [ho] at hs
        exact absurd hs c
      | some t =>
        rw [ho] at hQ
        have htok := hok.2.2.1 m t ho
        refine m_record hF hok (fun μ5 h5 _ => ?_)
        have hs5 := h5.2.2.1 m hm
        have ho5 : (fGo F F.1).2.2.1 m = some t := ho
        rw [ho5] at hs5
        refine q_copy (A := 1) (a := 0) (N := 1333) (B := 3) (b := 1333 * m) (μ0 := μ5) (bk := fun f i μ => bkX6_restore_30 Q f (nI m) i μ) (fun e => absurd e (by decide)) (fun f => ?_) (fun f i μ1 hi ho hh => ?_)
        · show bkX6_restore_30 _ _ _ _ _
          unfold bkX6_restore_30
          refine ⟨fun _ => ?_, fun q => absurd (nI_le (Nat.le_refl 1333) (by decide)) q⟩
          have hF8 : RepM (cpI μ5 1 0 0 1333 3 (1333 * m)) (fGo F t) := RepM_tree (t := t) h5 (fun k j q1 _ _ _ => by rw [cpI_ne _ _ _ _ _ _ _ q1]) (RowT_congr (WOk_len htok.2.2.2) (fun j hj => by rw [cpI_A, if_pos (by omega), Nat.sub_zero]) hs5.2)
          exact q_allStones hF8.1.2.2.2.2 (hQ _ hF8)
        · show bkX6_restore_30 _ _ _ _ _
          unfold bkX6_restore_30
          refine ⟨fun q => absurd q (nI_ge hi (by decide)), fun _ => ?_⟩
          rw [li 1333, nI_mul, nI_add, nI_clamp (show i < 2 ^ 31 by omega), nI_clamp (show 1333 * m + i < 2 ^ 31 by omega), nI_1]
          refine ⟨vinI (by omega) (by decide), vinI (by omega) (by decide), ?_⟩
          rintro _ rfl _ rfl
          rw [Nat.zero_add] at hh
          exact hh
    · cases ho : F.2.2.1 m with
      | none =>
        rw [ho] at hQ
        exact hQ μ hF
      | some t =>
        rw [ho] at hs
        exact absurd (hs.1.symm.trans c) (by decide)
