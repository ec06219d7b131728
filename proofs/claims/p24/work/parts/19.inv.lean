/-! what holds of buffers while stones sink -/
theorem clo_0 (n : Nat) : clo n 0 = fk n := by unfold clo; omega
theorem chi_0 (n : Nat) : chi n 0 + 1 = clo n 1 := by
  have := kc_pos n
  unfold chi clo
  omega
theorem chi_1 (n : Nat) : chi n 1 + 1 = clo n 2 := by
  have := kc_pos n
  unfold chi clo
  omega
theorem ch_fk : ∀ n, n < 4 → ∀ c, c < 3 → fk (chN n c) = clo n c ∧ lk (chN n c) = chi n c ∧ chN n c < 13 ∧ n < chN n c := by decide
theorem lk_lt : ∀ n, n < 13 → lk n < 27 := by decide
/-- stones that lie in node n: sound, within its keys -/
def sIn (n : Nat) (s : Stn) : Prop := sOk s ∧ fk n ≤ sF s ∧ sL s ≤ lk n
def bIn (n : Nat) (b : List Stn) : Prop := ∀ s ∈ b, sIn n s
theorem bIn_ok {n : Nat} {b : List Stn} (h : bIn n b) : bOk b := fun s hs => (h s hs).1
theorem bIn_app {n : Nat} {a b : List Stn} (ha : bIn n a) (hb : bIn n b) : bIn n (a ++ b) := fun s hs => by
  rcases List.mem_append.mp hs with h | h
  · exact ha s h
  · exact hb s h
def capS (n : Nat) (s : Stn) : Nat := if sF s ≤ chi n 0 ∧ clo n 2 ≤ sL s then 2 else 1
def capB (n : Nat) : List Stn → Nat
  | [] => 0
  | s :: b => capS n s + capB n b
theorem capS_1 (n : Nat) (s : Stn) : 1 ≤ capS n s := by unfold capS; split <;> omega
theorem capS_2 (n : Nat) (s : Stn) : capS n s ≤ 2 := by unfold capS; split <;> omega
theorem capB_app (n : Nat) (a b : List Stn) : capB n (a ++ b) = capB n a + capB n b := by
  induction a with
  | nil => simp [capB]
  | cons s a ih => simp only [List.cons_append, capB, ih]; omega
theorem len_cap (n : Nat) (b : List Stn) : b.length ≤ capB n b := by
  induction b with
  | nil => simp [capB]
  | cons s b ih =>
    have := capS_1 n s
    simp only [List.length_cons, capB]
    omega
theorem cap_len (n : Nat) (b : List Stn) : capB n b ≤ 2 * b.length := by
  induction b with
  | nil => simp [capB]
  | cons s b ih =>
    have := capS_2 n s
    simp only [List.length_cons, capB]
    omega
theorem lft_cap {n c : Nat} (hc : c < 3) {s : Stn} (hs : sIn n s) : capB n (lft (clo n c) (chi n c) s) ≤ capS n s := by
  obtain ⟨⟨h1, h2, h3, h4⟩, h5, h6⟩ := hs
  have k0 := clo_0 n
  have k1 := chi_0 n
  have k2 := chi_1 n
  have k3 := lk_eq n
  have q0 := clo_chi n 0
  have q1 := clo_chi n 1
  have q2 := clo_chi n 2
  have left : ∀ e, e ≤ clo n 2 → 1 ≤ e → capS n (prt 0 (e - 1) s) = 1 := fun e he h1e => by
    unfold capS
    rw [if_neg]
    show ¬ (max (sF s) 0 ≤ chi n 0 ∧ clo n 2 ≤ min (sL s) (e - 1))
    omega
  have right : ∀ e, chi n 0 ≤ e → capS n (prt (e + 1) 26 s) = 1 := fun e he => by
    unfold capS
    rw [if_neg]
    show ¬ (max (sF s) (e + 1) ≤ chi n 0 ∧ clo n 2 ≤ min (sL s) 26)
    omega
  have cs := capS_1 n s
  unfold lft
  rcases (show c = 0 ∨ c = 1 ∨ c = 2 by omega) with rfl | rfl | rfl
  · rw [if_neg (by omega)]
    by_cases h : chi n 0 < sL s
    · rw [if_pos h]
      simp only [List.nil_append, capB]
      rw [right _ (Nat.le_refl _)]
      omega
    · rw [if_neg h]
      simp [capB]
  · by_cases ha : sF s < clo n 1
    · rw [if_pos ha]
      by_cases h : chi n 1 < sL s
      · rw [if_pos h]
        simp only [List.singleton_append, capB]
        rw [right _ (by omega), left _ (by omega) (by omega)]
        unfold capS
        rw [if_pos (by omega)]
        omega
      · rw [if_neg h]
        simp only [List.append_nil, capB]
        rw [left _ (by omega) (by omega)]
        omega
    · rw [if_neg ha]
      by_cases h : chi n 1 < sL s
      · rw [if_pos h]
        simp only [List.nil_append, capB]
        rw [right _ (by omega)]
        omega
      · rw [if_neg h]
        simp [capB]
  · by_cases ha : sF s < clo n 2
    · rw [if_pos ha, if_neg (by omega)]
      simp only [List.append_nil, capB]
      rw [left _ (by omega) (by omega)]
      omega
    · rw [if_neg ha, if_neg (by omega)]
      simp [capB]
theorem rst_cons (lo hi : Nat) (s : Stn) (b : List Stn) : rst lo hi (s :: b) = (if tou lo hi s = true then lft lo hi s else [s]) ++ rst lo hi b := by
  unfold rst
  rw [List.flatMap_cons]
theorem rst_cap {n c : Nat} (hc : c < 3) {b : List Stn} (hb : bIn n b) : capB n (rst (clo n c) (chi n c) b) ≤ capB n b := by
  induction b with
  | nil => exact Nat.le_refl _
  | cons s b ih =>
    rw [rst_cons, capB_app]
    have h1 := ih (fun z hz => hb z (List.mem_cons_of_mem _ hz))
    have h2 : capB n (if tou (clo n c) (chi n c) s = true then lft (clo n c) (chi n c) s else [s]) ≤ capS n s := by
      split
      · exact lft_cap hc (hb s List.mem_cons_self)
      · simp [capB]
    simp only [capB]
    omega
theorem cap_22 {n c : Nat} (hc : c < 3) {b : List Stn} (hb : bIn n b) (h : capB n b ≤ 22) : ∀ L1 L2, b = L1 ++ L2 → (rst (clo n c) (chi n c) L1).length + L2.length ≤ 22 := fun L1 L2 e => by
  subst e
  have h1 := rst_cap (n := n) hc (b := L1) (fun s hs => hb s (List.mem_append_left _ hs))
  have h2 := len_cap n (rst (clo n c) (chi n c) L1)
  have h3 := len_cap n L2
  rw [capB_app] at h
  omega
theorem lft_in {n c : Nat} (hn : n < 13) (hc : c < 3) {s : Stn} (hs : sIn n s) : ∀ z ∈ lft (clo n c) (chi n c) s, sIn n z ∧ sF s ≤ sF z ∧ sL z ≤ sL s ∧ tou (clo n c) (chi n c) z = false := by
  obtain ⟨⟨h1, h2, h3, h4⟩, h5, h6⟩ := hs
  intro z hz
  unfold lft at hz
  rcases List.mem_append.mp hz with h | h
  · by_cases q : sF s < clo n c
    · rw [if_pos q, List.mem_singleton] at h
      subst h
      refine ⟨⟨⟨h1, ?_, ?_, h4⟩, ?_, ?_⟩, ?_, ?_, ?_⟩
      · show max (sF s) 0 ≤ min (sL s) (clo n c - 1); omega
      · show min (sL s) (clo n c - 1) < 27; omega
      · show fk n ≤ max (sF s) 0; omega
      · show min (sL s) (clo n c - 1) ≤ lk n; omega
      · show sF s ≤ max (sF s) 0; omega
      · show min (sL s) (clo n c - 1) ≤ sL s; omega
      · have : ¬ clo n c ≤ min (sL s) (clo n c - 1) := by omega
        simp only [tou, Bool.and_eq_false_iff, decide_eq_false_iff_not]
        exact Or.inr this
    · rw [if_neg q] at h
      exact absurd h List.not_mem_nil
  · by_cases q : chi n c < sL s
    · rw [if_pos q, List.mem_singleton] at h
      subst h
      refine ⟨⟨⟨h1, ?_, ?_, h4⟩, ?_, ?_⟩, ?_, ?_, ?_⟩
      · show max (sF s) (chi n c + 1) ≤ min (sL s) 26; omega
      · show min (sL s) 26 < 27; omega
      · show fk n ≤ max (sF s) (chi n c + 1); omega
      · show min (sL s) 26 ≤ lk n; omega
      · show sF s ≤ max (sF s) (chi n c + 1); omega
      · show min (sL s) 26 ≤ sL s; omega
      · have : ¬ max (sF s) (chi n c + 1) ≤ chi n c := by omega
        simp only [tou, Bool.and_eq_false_iff, decide_eq_false_iff_not]
        exact Or.inl this
    · rw [if_neg q] at h
      exact absurd h List.not_mem_nil
theorem rst_mem {lo hi : Nat} {b : List Stn} {z : Stn} (h : z ∈ rst lo hi b) : ∃ s ∈ b, (tou lo hi s = true ∧ z ∈ lft lo hi s) ∨ (tou lo hi s = false ∧ z = s) := by
  obtain ⟨s, hs, hz⟩ := List.mem_flatMap.mp h
  refine ⟨s, hs, ?_⟩
  by_cases ht : tou lo hi s = true
  · rw [if_pos ht] at hz
    exact Or.inl ⟨ht, hz⟩
  · rw [if_neg ht] at hz
    exact Or.inr ⟨by simpa using ht, List.mem_singleton.mp hz⟩
theorem rst_in {n c : Nat} (hn : n < 13) (hc : c < 3) {b : List Stn} (hb : bIn n b) : bIn n (rst (clo n c) (chi n c) b) := fun z hz => by
  obtain ⟨s, hs, h | h⟩ := rst_mem hz
  · exact (lft_in hn hc (hb s hs) z h.2).1
  · rw [h.2]; exact hb s hs
theorem wgt_0 {lo hi : Nat} {b : List Stn} : wgt lo hi b = 0 ↔ ∀ s ∈ b, tou lo hi s = false := by
  unfold wgt
  rw [List.length_eq_zero_iff, List.filter_eq_nil_iff]
  simp
theorem wg_sunk {n c : Nat} (hn : n < 13) (hc : c < 3) {b : List Stn} (hb : bIn n b) : wg n c (rst (clo n c) (chi n c) b) = 0 := wgt_0.mpr (fun z hz => by
  obtain ⟨s, hs, h | h⟩ := rst_mem hz
  · exact (lft_in hn hc (hb s hs) z h.2).2.2.2
  · rw [h.2]; exact h.1)
theorem wg_stays {n c e : Nat} (hn : n < 13) (hc : c < 3) {b : List Stn} (hb : bIn n b) (h0 : wg n e b = 0) : wg n e (rst (clo n c) (chi n c) b) = 0 := wgt_0.mpr (fun z hz => by
  obtain ⟨s, hs, h | h⟩ := rst_mem hz
  · have h1 := lft_in hn hc (hb s hs) z h.2
    have h2 := wgt_0.mp h0 s hs
    simp only [tou, Bool.and_eq_false_iff, decide_eq_false_iff_not] at h2 ⊢
    omega
  · rw [h.2]; exact wgt_0.mp h0 s hs)
theorem wg_some {n : Nat} {b : List Stn} (hb : bIn n b) (hne : b ≠ []) : ∃ c, c < 3 ∧ 0 < wg n c b := by
  cases b with
  | nil => exact absurd rfl hne
  | cons s b =>
    obtain ⟨⟨h1, h2, h3, h4⟩, h5, h6⟩ := hb s List.mem_cons_self
    have k0 := clo_0 n
    have k1 := chi_0 n
    have k2 := chi_1 n
    have k3 := lk_eq n
    have pos : ∀ c, tou (clo n c) (chi n c) s = true → 0 < wg n c (s :: b) := fun c hc => by
      apply Nat.pos_of_ne_zero
      intro h
      have := wgt_0.mp h s List.mem_cons_self
      rw [hc] at this
      cases this
    by_cases q0 : sF s ≤ chi n 0
    · exact ⟨0, by decide, pos 0 (by simp [tou]; omega)⟩
    · by_cases q1 : sF s ≤ chi n 1
      · exact ⟨1, by decide, pos 1 (by simp [tou]; omega)⟩
      · exact ⟨2, by decide, pos 2 (by simp [tou]; omega)⟩
theorem heav_pos {n : Nat} {b : List Stn} (h : ∃ c, c < 3 ∧ 0 < wg n c b) : 0 < wg n (heav n b) b := by
  obtain ⟨c, hc, hw⟩ := h
  unfold heav
  by_cases q1 : wg n 0 b < wg n 1 b
  · rw [if_pos q1]
    by_cases q2 : wg n 1 b < wg n 2 b
    · rw [if_pos q2]; omega
    · rw [if_neg q2]; omega
  · rw [if_neg q1]
    by_cases q2 : wg n 0 b < wg n 2 b
    · rw [if_pos q2]; omega
    · rw [if_neg q2]
      rcases (show c = 0 ∨ c = 1 ∨ c = 2 by omega) with rfl | rfl | rfl <;> omega
/-- how many children have no stones -/
def zc (n : Nat) (b : List Stn) : Nat := (if wg n 0 b = 0 then 1 else 0) + (if wg n 1 b = 0 then 1 else 0) + (if wg n 2 b = 0 then 1 else 0)
theorem zc_3 {n : Nat} {b : List Stn} (hb : bIn n b) (h : 3 ≤ zc n b) : b = [] := by
  by_cases hne : b = []
  · exact hne
  · obtain ⟨c, hc, hw⟩ := wg_some hb hne
    unfold zc at h
    exfalso
    rcases (show c = 0 ∨ c = 1 ∨ c = 2 by omega) with rfl | rfl | rfl
    · rw [if_neg (by omega)] at h; split at h <;> split at h <;> omega
    · rw [if_neg (by omega : ¬ wg n 1 b = 0)] at h; split at h <;> split at h <;> omega
    · rw [if_neg (by omega : ¬ wg n 2 b = 0)] at h; split at h <;> split at h <;> omega
theorem zc_up {n : Nat} (hn : n < 13) {b : List Stn} (hb : bIn n b) (hne : b ≠ []) : zc n b + 1 ≤ zc n (rst (clo n (heav n b)) (chi n (heav n b)) b) := by
  have hl := heav_lt n b
  have hp := heav_pos (wg_some hb hne)
  have hs := wg_sunk hn hl hb
  have st : ∀ e, wg n e b = 0 → wg n e (rst (clo n (heav n b)) (chi n (heav n b)) b) = 0 := fun e => wg_stays hn hl hb
  have st0 := st 0
  have st1 := st 1
  have st2 := st 2
  generalize heav n b = c at *
  unfold zc
  rcases (show c = 0 ∨ c = 1 ∨ c = 2 by omega) with rfl | rfl | rfl
  · rw [if_neg (by omega), if_pos hs]
    split <;> split <;> split <;> split <;> omega
  · rw [if_neg (by omega : ¬ wg n 1 b = 0), if_pos (c := wg n 1 _ = 0) hs]
    split <;> split <;> split <;> split <;> omega
  · rw [if_neg (by omega : ¬ wg n 2 b = 0), if_pos (c := wg n 2 _ = 0) hs]
    split <;> split <;> split <;> split <;> omega
/-- a put stone -/
theorem mem_of_getD {b : List Stn} {i : Nat} (h : i < b.length) : b.getD i s0 ∈ b := List.mem_of_getElem? (getD_of h)
theorem joi_in {n : Nat} {b : List Stn} {s : Stn} (hb : bIn n b) (hs : sIn n s) {b' : List Stn} (h : joi b s = some b') : bIn n b' ∧ b'.length ≤ b.length := by
  unfold joi at h
  by_cases h1 : sF s = sL s
  · rw [if_pos h1] at h
    cases hl : lw b (sF s) b.length with
    | none => rw [hl] at h; cases h
    | some i =>
      rw [hl] at h
      simp only at h
      have hi := lw_lt hl
      by_cases h2 : sF (b.getD i s0) = sL (b.getD i s0)
      · rw [if_pos h2] at h
        cases h
        by_cases h3 : sK s = 1
        · rw [if_pos h3]
          refine ⟨fun z hz => ?_, by rw [List.length_set]; exact Nat.le_refl _⟩
          rcases List.mem_or_eq_of_mem_set hz with h | h
          · exact hb z h
          · have ho := hb _ (mem_of_getD hi)
            rw [h]
            refine ⟨wmo_ok ho.1, ?_, ?_⟩
            · unfold wmo; split <;> exact ho.2.1
            · unfold wmo; split <;> exact ho.2.2
        · rw [if_neg h3]
          refine ⟨fun z hz => ?_, ?_⟩
          · rcases List.mem_append.mp hz with h | h
            · exact hb z (List.mem_of_mem_eraseIdx h)
            · rw [List.mem_singleton.mp h]; exact hs
          · rw [List.length_append, List.length_eraseIdx_of_lt hi]
            show b.length - 1 + 1 ≤ b.length
            omega
      · rw [if_neg h2] at h; cases h
  · rw [if_neg h1] at h; cases h
theorem putN_in {n d : Nat} {x : NS} {s : Stn} (hb : bIn n x.1) (hs : sIn n s) : bIn n (putN d x s).1 ∧ (putN d x s).1.length ≤ x.1.length + 1 := by
  have happ : bIn n (x.1 ++ [s]) ∧ (x.1 ++ [s]).length ≤ x.1.length + 1 := ⟨bIn_app hb (fun z hz => by rw [List.mem_singleton.mp hz]; exact hs), by rw [List.length_append]; exact Nat.le_refl _⟩
  unfold putN
  by_cases hd : d = 1
  · rw [if_pos hd]
    cases hj : joi x.1 s with
    | none => exact happ
    | some b' =>
      have := joi_in hb hs hj
      exact ⟨this.1, Nat.le_succ_of_le this.2⟩
  · rw [if_neg hd]
    exact happ
/-- a node at rest -/
def nOk (n : Nat) (x : NS) : Prop := x.1.length ≤ 10 ∧ bIn n x.1
def Ilf (w : WT) : Prop := ∀ k, k < 27 → vOk (w.2.1 k)
theorem sinkG_at {n c : Nat} {ch : Stn → WT → WT} (hcm : ∀ s, Comm n (ch s)) (w : WT) : (sinkG n c ch w).1 n = takeN n c (w.1 n) := by
  unfold sinkG
  have e := comm_foldl hcm (gon (clo n c) (chi n c) (w.1 n).1) (takeN n c (w.1 n)) w
  simp only at e
  rw [e, setN_at]
theorem gon_mem {n c : Nat} (hn : n < 13) (hc : c < 3) {b : List Stn} (hb : bIn n b) {s : Stn} (h : s ∈ gon (clo n c) (chi n c) b) : sOk s ∧ clo n c ≤ sF s ∧ sL s ≤ chi n c := by
  unfold gon at h
  obtain ⟨z, hz, rfl⟩ := List.mem_map.mp h
  obtain ⟨h1, h2⟩ := List.mem_filter.mp hz
  exact ⟨prt_ok (hb z h1).1 h2 (clo_chi n c) (chi_lt n hn c hc), Nat.le_max_right _ _, Nat.min_le_right _ _⟩
theorem foldl_inv {ch : Stn → WT → WT} {P : Stn → Prop} {J : WT → Prop} (h : ∀ s w, P s → J w → J (ch s w)) : ∀ (g : List Stn) (w : WT), (∀ s ∈ g, P s) → J w → J (g.foldl (fun w s => ch s w) w)
  | [], _, _, hw => hw
  | s :: g, w, hg, hw => foldl_inv h g (ch s w) (fun z hz => hg z (List.mem_cons_of_mem _ hz)) (h s w (hg s List.mem_cons_self) hw)
theorem lenW_set {n : Nat} {x : NS} {w : WT} (hx : x.1.length ≤ 22) (h : lenW w) : lenW (setN n x w) := fun m hm => by
  by_cases e : m = n
  · subst e; rw [setN_at]; exact hx
  · rw [setN_ne _ _ e]; exact h m hm
