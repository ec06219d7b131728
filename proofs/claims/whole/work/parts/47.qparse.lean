/-! the reference's reader -/
def PQ (p z : Nat) (e : Int32) (o : Nat → Int32) (μ0 μ : Mem) : Prop := μ 0 4 = nI p ∧ μ 0 3 = nI z ∧ μ 0 5 = e ∧ μ 9 = o ∧ (∀ k, k ≠ 0 → k ≠ 9 → μ k = μ0 k) ∧ ∀ j, j ≠ 3 → j ≠ 4 → j ≠ 5 → μ 0 j = μ0 0 j
theorem PQ_p {p q z : Nat} {e : Int32} {o : Nat → Int32} {μ0 μ : Mem} (h : PQ p z e o μ0 μ) : PQ q z e o μ0 (mset μ 0 4 (nI q)) := by
  obtain ⟨h1, h2, h3, h4, h5, h6⟩ := h
  refine ⟨ms_same _ _ _ _, ?_, ?_, ?_, fun k q0 q9 => ?_, fun j j3 j4 j5 => ?_⟩
  · rw [ms_place _ _ _ (by decide)]; exact h2
  · rw [ms_place _ _ _ (by decide)]; exact h3
  · rw [ms_cell _ _ _ (by decide)]; exact h4
  · rw [ms_cell _ _ _ q0]; exact h5 k q0 q9
  · rw [ms_place _ _ _ j4]; exact h6 j j3 j4 j5
theorem PQ_e {p z : Nat} {e e' : Int32} {o : Nat → Int32} {μ0 μ : Mem} (h : PQ p z e o μ0 μ) : PQ p z e' o μ0 (mset μ 0 5 e') := by
  obtain ⟨h1, h2, h3, h4, h5, h6⟩ := h
  refine ⟨?_, ?_, ms_same _ _ _ _, ?_, fun k q0 q9 => ?_, fun j j3 j4 j5 => ?_⟩
  · rw [ms_place _ _ _ (by decide)]; exact h1
  · rw [ms_place _ _ _ (by decide)]; exact h2
  · rw [ms_cell _ _ _ (by decide)]; exact h4
  · rw [ms_cell _ _ _ q0]; exact h5 k q0 q9
  · rw [ms_place _ _ _ j5]; exact h6 j j3 j4 j5
theorem s_sign {cs : List Nat} (hcs : csOk cs) {p z : Nat} {e : Int32} {o : Nat → Int32} {μ0 μ : Mem} (h0 : PadX (μ0 0 1) (μ0 8) cs) (hp : p < 2 ^ 31) (h : PQ p z e o μ0 μ) {Q : Int32 → Mem → Prop} (hQ : Q (nI (chA cs p)) μ) : wpX6_sign μ Q := by
  have h60 := hcs.1
  have e1 : μ 0 1 = nI cs.length := by rw [h.2.2.2.2.2 1 (by decide) (by decide) (by decide)]; exact h0.1
  unfold wpX6_sign
  rw [h.1, e1, nI_leI (by omega) hp, nI_clamp hp]
  refine ⟨fun q => ?_, fun q => ?_⟩
  · rw [chA_out q] at hQ
    exact hQ
  · have hin : p < cs.length := Nat.not_le.mp q
    rw [h.2.2.2.2.1 8 (by decide) (by decide), h0.2 p _ (chA_get hin)]
    exact ⟨vinI (by omega) (by decide), hQ⟩
theorem s_between {cs : List Nat} (hcs : csOk cs) {p z c : Nat} {o : Nat → Int32} {μ0 μ : Mem} (h0 : PadX (μ0 0 1) (μ0 8) cs) (hp : p < 2 ^ 30) (hc : c < 2 ^ 31) (h : PQ p z 0 o μ0 μ) {Q : Mem → Prop} (h1 : chA cs p = c → ∀ μ', PQ (p + 1) z 0 o μ0 μ' → Q μ') (h2 : ¬ chA cs p = c → ∀ μ', PQ p z 1 o μ0 μ' → Q μ') : wpX6_between (nI c) μ Q := by
  have hl := chA_lt hcs p
  unfold wpX6_between
  refine ⟨fun q => absurd h.2.2.1 q, fun _ => s_sign hcs h0 (by omega) h ⟨fun q => ?_, fun q => ?_⟩⟩
  · unfold bkX6_between_21
    refine ⟨Or.inl rfl, ?_⟩
    rintro μ3 e3
    have g := PQ_e (e' := 0) h
    rw [← e3] at g
    refine ⟨fun _ => ?_, fun q => absurd g.2.2.1 q⟩
    rw [g.1, li 1, nI_add]
    rintro _ rfl
    exact h1 (nI_inj (by omega) hc q) _ (PQ_p g)
  · unfold bkX6_between_16 bkX6_between_21
    refine ⟨Or.inr rfl, ?_⟩
    rintro μ3 e3
    have g := PQ_e (e' := 1) h
    rw [← e3] at g
    refine ⟨fun q => absurd (g.2.2.1.symm.trans q) (by decide), fun _ => ?_⟩
    rw [g.1, Int32.add_zero]
    rintro _ rfl
    exact h2 (fun e => q (by rw [e])) _ (PQ_p g)
theorem s_between1 {p z : Nat} {c : Int32} {o : Nat → Int32} {μ0 μ : Mem} (h : PQ p z 1 o μ0 μ) {Q : Mem → Prop} (h2 : ∀ μ', PQ p z 1 o μ0 μ' → Q μ') : wpX6_between c μ Q := by
  unfold wpX6_between
  refine ⟨fun _ => ?_, fun q => absurd (h.2.2.1.symm.trans q) (by decide)⟩
  unfold bkX6_between_16 bkX6_between_21
  refine ⟨Or.inr rfl, ?_⟩
  rintro μ3 e3
  have g := PQ_e (e' := 1) h
  rw [← e3] at g
  refine ⟨fun q => absurd (g.2.2.1.symm.trans q) (by decide), fun _ => ?_⟩
  rw [g.1, Int32.add_zero]
  rintro _ rfl
  exact h2 _ (PQ_p g)
theorem ls_num {cs : List Nat} (hcs : csOk cs) {most z : Nat} (hm : most < 1000) {o : Nat → Int32} {μ0 : Mem} (h0 : PadX (μ0 0 1) (μ0 8) cs) {Q : Int32 → Mem → Prop} : ∀ (f g v p : Nat) (μ : Mem), f < g → v < 1000 → p ≤ 61 → 60 ≤ p + f → PQ p z 0 o μ0 μ → (∀ μ', PQ (rdG cs most f v p).2 z 0 o μ0 μ' → Q (nI (rdG cs most f v p).1) μ') → bkX6_number_55 Q g (nI most) (nI v) μ
  | _, 0, _, _, _, hg, _, _, _, _, _ => absurd hg (Nat.not_lt_zero _)
  | f, g + 1, v, p, μ, hg, hv, hp61, hp, hS, hQ => by
    have h60 := hcs.1
    have hc := chA_lt hcs p
    unfold bkX6_number_55
    refine ⟨fun q => absurd hS.2.2.1 q, fun _ => ⟨fun q => ?_, fun q => ?_⟩⟩
    · have hv0 : v ≤ 0 := (nI_leI (a := v) (b := 0) (by omega) (by decide)).mp q
      cases f with
      | zero => exact hQ μ hS
      | succ f =>
        unfold rdG at hQ
        rw [if_neg (fun z => by omega)] at hQ
        exact hQ μ hS
    · have hv0 : 0 < v := Nat.pos_of_ne_zero (fun e => q (by rw [e]; exact nI_le (Nat.le_refl 0) (by decide)))
      refine s_sign hcs h0 (by omega) hS ?_
      by_cases hd : 48 ≤ chA cs p ∧ chA cs p ≤ 57
      · refine q_inY (lo := 48) (hi := 57) hd.1 hd.2 (by decide) ⟨fun z => absurd z (by decide), fun _ => ?_⟩
        refine s_sign hcs h0 (by omega) hS ?_
        have hin := chA_in (cs := cs) (p := p) (by omega)
        have e : (((10 : Int32)) * nI v + nI (chA cs p)) - ((48 : Int32)) = nI (10 * v + (chA cs p - 48)) := by
          rw [li 10, nI_mul, nI_add, li 48, nI_sub (by omega)]
          congr 1
          omega
        rw [e, nI_ltI (by omega) (by omega)]
        cases f with
        | zero => omega
        | succ f =>
          unfold rdG at hQ
          by_cases hle : 10 * v + (chA cs p - 48) ≤ most
          · rw [if_pos ⟨hv0, hd, hle⟩] at hQ
            refine ⟨fun z => absurd z (by omega), fun _ => s_sign hcs h0 (by omega) hS ?_⟩
            rw [e]
            rintro _ rfl
            rw [hS.1, li 1, nI_add]
            rintro _ rfl
            exact ls_num hcs hm h0 f g _ (p + 1) _ (by omega) (by omega) (by omega) (by omega) (PQ_p hS) hQ
          · rw [if_neg (fun z => hle z.2.2)] at hQ
            exact ⟨fun _ => hQ μ hS, fun z => absurd (Nat.not_le.mp hle) z⟩
      · refine q_inX (lo := 48) (hi := 57) (by omega) (by decide) (by decide) (by omega) ⟨fun _ => ?_, fun z => absurd rfl z⟩
        cases f with
        | zero => exact hQ μ hS
        | succ f =>
          unfold rdG at hQ
          rw [if_neg (fun z => hd z.2.1)] at hQ
          exact hQ μ hS
theorem ng_48 : ∀ c, c < 48 → nI c - (48 : Int32) < 0 := by decide +kernel
theorem s_num {cs : List Nat} (hcs : csOk cs) {most : Nat} (h9 : 9 ≤ most) (hm : most < 1000) {p z : Nat} {o : Nat → Int32} {μ0 μ : Mem} (h0 : PadX (μ0 0 1) (μ0 8) cs) (hp : p ≤ 60) (hS : PQ p z 0 o μ0 μ) {Q : Int32 → Mem → Prop} (hn : rdN cs most p = none → ∀ v μ', PQ p z 1 o μ0 μ' → Q v μ') (hs : ∀ v q, rdN cs most p = some (v, q) → ∀ μ', PQ q z 0 o μ0 μ' → Q (nI v) μ') : wpX6_number (nI most) μ Q := by
  have hc := chA_lt hcs p
  have bad : ∀ v, ¬ (48 ≤ chA cs p ∧ chA cs p ≤ 57) → bkX6_number_26 Q (nI most) v μ := fun v hd => by
    have hN : rdN cs most p = none := by unfold rdN; rw [if_neg hd]
    unfold bkX6_number_26 bkX6_number_31
    refine ⟨Or.inr rfl, ?_⟩
    rintro μ3 e3
    have g := PQ_e (e' := 1) hS
    rw [← e3] at g
    refine ⟨fun q => absurd (g.2.2.1.symm.trans q) (by decide), fun _ => ?_⟩
    rw [g.1, Int32.add_zero]
    rintro _ rfl
    refine ⟨1, ?_⟩
    have g2 := PQ_p (q := p) g
    unfold bkX6_number_55
    exact ⟨fun _ => hn hN _ _ g2, fun q => absurd (g2.2.2.1.symm.trans q) (by decide)⟩
  unfold wpX6_number
  refine s_sign hcs h0 (by omega) hS ?_
  rintro v3 e3
  refine ⟨fun q => absurd hS.2.2.1 q, fun _ => ?_⟩
  by_cases hd : 48 ≤ chA cs p ∧ chA cs p ≤ 57
  · have hN : rdN cs most p = some (rdG cs most 59 (chA cs p - 48) (p + 1)) := by unfold rdN; rw [if_pos hd]
    rw [li 48, nI_sub hd.1] at e3
    subst e3
    refine q_inY (lo := 0) (hi := 9) (Nat.zero_le _) (by omega) (by decide) ⟨fun _ => ?_, fun z => absurd z (by decide)⟩
    unfold bkX6_number_31
    refine ⟨Or.inl rfl, ?_⟩
    rintro μ3 e3
    have g := PQ_e (e' := 0) hS
    rw [← e3] at g
    refine ⟨fun _ => ?_, fun q => absurd g.2.2.1 q⟩
    rw [g.1, li 1, nI_add]
    rintro _ rfl
    exact ⟨60, ls_num hcs hm h0 59 60 _ (p + 1) _ (by decide) (by omega) (by omega) (by omega) (PQ_p g) (hs _ _ hN)⟩
  · have hlt : v3 < 0 ∨ ∃ j, j < 2 ^ 31 ∧ 9 < j ∧ v3 = nI j := by
      rcases Nat.lt_or_ge (chA cs p) 48 with g | g
      · exact Or.inl (by rw [e3]; exact ng_48 _ g)
      · exact Or.inr ⟨chA cs p - 48, by omega, by omega, by rw [e3, li 48, nI_sub g]⟩
    have hb := bad v3 hd
    rcases hlt with g | ⟨j, hj, h9j, ej⟩
    · exact q_inN (lo := 0) g (by decide) ⟨fun z => absurd rfl z, fun _ => hb⟩
    · rw [ej] at hb ⊢
      exact q_inX (lo := 0) (hi := 9) hj (by decide) (by decide) (Or.inr h9j) ⟨fun z => absurd rfl z, fun _ => hb⟩
theorem s_lay {p z : Nat} {e : Int32} {o : Nat → Int32} {μ0 μ : Mem} (hz : z < 24) (h : PQ p z e o μ0 μ) {a1 a2 a3 a4 : Int32} {Q : Mem → Prop} (hQ : ∀ μ' o', PQ p (z + 1) e o' μ0 μ' → (∀ j, j < 4 * z → o' j = o j) → o' (4 * z) = a1 → o' (4 * z + 1) = a2 → o' (4 * z + 2) = a3 → o' (4 * z + 3) = a4 → Q μ') : wpX6_lay a1 a2 a3 a4 μ Q := by
  obtain ⟨h1, h2, h3, h4, h5, h6⟩ := h
  unfold wpX6_lay
  rw [h2, li 4, nI_mul, nI_clamp (show 4 * z < 2 ^ 31 by omega)]
  refine ⟨vinI (by omega) (by decide), ?_⟩
  rintro μ1 e1
  have f1 : μ1 0 3 = nI z := by rw [e1, ms_cell _ _ _ (by decide)]; exact h2
  rw [f1, li 1, nI_mul, nI_add, nI_clamp (show 4 * z + 1 < 2 ^ 31 by omega)]
  refine ⟨vinI (by omega) (by decide), ?_⟩
  rintro μ2 e2
  have f2 : μ2 0 3 = nI z := by rw [e2, ms_cell _ _ _ (by decide)]; exact f1
  rw [f2, li 2, nI_mul, nI_add, nI_clamp (show 4 * z + 2 < 2 ^ 31 by omega)]
  refine ⟨vinI (by omega) (by decide), ?_⟩
  rintro μ3 e3
  have f3 : μ3 0 3 = nI z := by rw [e3, ms_cell _ _ _ (by decide)]; exact f2
  rw [f3, li 3, nI_mul, nI_add, nI_clamp (show 4 * z + 3 < 2 ^ 31 by omega)]
  refine ⟨vinI (by omega) (by decide), ?_⟩
  rintro μ4 e4
  have f4 : μ4 0 3 = nI z := by rw [e4, ms_cell _ _ _ (by decide)]; exact f3
  have c0 : ∀ k, k ≠ 9 → μ4 k = μ k := fun k hk => by rw [e4, e3, e2, e1, ms_cell _ _ _ hk, ms_cell _ _ _ hk, ms_cell _ _ _ hk, ms_cell _ _ _ hk]
  rw [f4, nI_add]
  rintro _ rfl
  refine hQ _ (μ4 9) ⟨?_, ms_same _ _ _ _, ?_, ?_, fun k q0 q9 => ?_, fun j j3 j4 j5 => ?_⟩ (fun j hj => ?_) ?_ ?_ ?_ ?_
  · rw [ms_place _ _ _ (by decide), c0 0 (by decide)]; exact h1
  · rw [ms_place _ _ _ (by decide), c0 0 (by decide)]; exact h3
  · rw [ms_cell _ _ _ (by decide)]
  · rw [ms_cell _ _ _ q0, c0 k q9]; exact h5 k q0 q9
  · rw [ms_place _ _ _ j3, c0 0 (by decide)]; exact h6 j j3 j4 j5
  · rw [← h4, e4, e3, e2, e1, ms_place _ _ _ (by omega), ms_place _ _ _ (by omega), ms_place _ _ _ (by omega), ms_place _ _ _ (by omega)]
  · rw [e4, e3, e2, e1, ms_place _ _ _ (by omega), ms_place _ _ _ (by omega), ms_place _ _ _ (by omega), ms_same]
  · rw [e4, e3, e2, ms_place _ _ _ (by omega), ms_place _ _ _ (by omega), ms_same]
  · rw [e4, e3, ms_place _ _ _ (by omega), ms_same]
  · rw [e4, ms_same]
/-- a good order, a wrong one -/
def GoodQ (z q : Nat) (s : Stn) (o : Nat → Int32) (μ0 : Mem) (Q : Mem → Prop) : Prop := ∀ μ' o', PQ q (z + 1) 0 o' μ0 μ' → (∀ j, j < 4 * z → o' j = o j) → StM o' (4 * z) s → Q μ'
def WrongQ (q : Nat) (μ0 : Mem) (Q : Mem → Prop) : Prop := ∀ μ' z' o', PQ q z' 1 o' μ0 μ' → Q μ'
theorem s_piece {cs : List Nat} (hcs : csOk cs) {f l q z : Nat} (hf : f < 27) (hl : l < 27) (hq : q ≤ 60) (hz : z < 24) {o : Nat → Int32} {μ0 μ : Mem} (h0 : PadX (μ0 0 1) (μ0 8) cs) (hS : PQ q z 0 o μ0 μ) {Q : Mem → Prop} (hw : ∀ r, rdP cs f l q = (none, r) → WrongQ r μ0 Q) (hg : ∀ s r, rdP cs f l q = (some s, r) → GoodQ z r s o μ0 Q) : bkX6_readOne_101 Q (nI f) (nI l) μ := by
  have h60 := hcs.1
  unfold rdP at hw hg
  unfold bkX6_readOne_101
  refine ⟨fun q => absurd hS.2.2.1 q, fun _ => ?_⟩
  rw [nI_leI (by omega) (by omega)]
  by_cases hlf : l < f
  · rw [if_pos hlf] at hw
    refine ⟨fun z => absurd hlf (by omega), fun _ => ?_⟩
    unfold bkX6_readOne_114 bkX6_readOne_119
    refine ⟨Or.inr rfl, ?_⟩
    rintro _ rfl
    refine s_between1 (PQ_e hS) (fun μ2 hS2 => ⟨fun q => absurd (hS2.2.2.1.symm.trans q) (by decide), fun _ => ?_⟩)
    unfold bkX6_readOne_146
    exact s_lay hz hS2 (fun μ3 o' hS3 _ _ _ _ _ => hw q rfl μ3 _ o' hS3)
  · rw [if_neg hlf] at hw hg
    refine ⟨fun _ => ?_, fun z => absurd (Nat.not_lt.mp hlf) z⟩
    unfold bkX6_readOne_119
    refine ⟨Or.inl rfl, ?_⟩
    rintro _ rfl
    refine s_between (c := 43) hcs h0 (by omega) (by decide) (PQ_e hS) (fun hc μ2 hS2 => ?_) (fun hc μ2 hS2 => ?_)
    · rw [if_pos hc] at hw hg
      have hin := chA_in (cs := cs) (p := q) (by omega)
      refine ⟨fun _ => ?_, fun q => absurd hS2.2.2.1 q⟩
      refine s_num (most := 999) hcs (by decide) (by decide) (p := q + 1) h0 (by omega) hS2 (fun hn v μ3 hS3 => ?_) (fun v r hn μ3 hS3 => ?_)
      · rw [hn] at hw
        unfold bkX6_readOne_146
        exact s_lay hz hS3 (fun μ4 o' hS4 _ _ _ _ _ => hw (q + 1) rfl μ4 _ o' hS4)
      · rw [hn] at hg
        unfold bkX6_readOne_146
        exact s_lay hz hS3 (fun μ4 o' hS4 b0 b1 b2 b3 b4 => hg _ r rfl μ4 o' hS4 b0 ⟨b1, b2, b3, b4⟩)
    · rw [if_neg hc] at hw
      refine ⟨fun q => absurd (hS2.2.2.1.symm.trans q) (by decide), fun _ => ?_⟩
      unfold bkX6_readOne_146
      exact s_lay hz hS2 (fun μ3 o' hS3 _ _ _ _ _ => hw q rfl μ3 _ o' hS3)
theorem s_pieceW {q z : Nat} (hz : z < 24) {o : Nat → Int32} {μ0 μ : Mem} {a b : Int32} (hS : PQ q z 1 o μ0 μ) {Q : Mem → Prop} (hw : WrongQ q μ0 Q) : bkX6_readOne_101 Q a b μ := by
  unfold bkX6_readOne_101
  refine ⟨fun _ => ?_, fun q => absurd (hS.2.2.1.symm.trans q) (by decide)⟩
  unfold bkX6_readOne_114 bkX6_readOne_119
  refine ⟨Or.inr rfl, ?_⟩
  rintro _ rfl
  refine s_between1 (PQ_e hS) (fun μ2 hS2 => ⟨fun q => absurd (hS2.2.2.1.symm.trans q) (by decide), fun _ => ?_⟩)
  unfold bkX6_readOne_146
  exact s_lay hz hS2 (fun μ3 o' hS3 _ _ _ _ _ => hw μ3 _ o' hS3)
theorem s_one {cs : List Nat} (hcs : csOk cs) {p z : Nat} (hp : p ≤ 60) (hz : z < 24) {o : Nat → Int32} {μ0 μ : Mem} (h0 : PadX (μ0 0 1) (μ0 8) cs) (hS : PQ p z 0 o μ0 μ) {Q : Mem → Prop} (hw : ∀ r, rdO cs p = (none, r) → WrongQ r μ0 Q) (hg : ∀ s r, rdO cs p = (some s, r) → GoodQ z r s o μ0 Q) : wpX6_readOne μ Q := by
  have h60 := hcs.1
  unfold rdO at hw hg
  unfold wpX6_readOne
  refine s_num (most := 26) hcs (by decide) (by decide) h0 hp hS (fun hn v μ2 hS2 => ?_) (fun f q hn μ2 hS2 => ?_)
  · rw [hn] at hw
    exact ⟨fun q => absurd (hS2.2.2.1.symm.trans q) (by decide), fun _ => hw p rfl μ2 z o hS2⟩
  · rw [hn] at hw hg
    simp only at hw hg
    obtain ⟨hf, hpq, hql⟩ := rdN_ok (by decide) hn
    have hc := chA_lt hcs q
    refine ⟨fun _ => s_sign hcs h0 (by omega) hS2 ⟨fun c => ⟨fun c2 => ⟨fun c3 => ?_, fun c3 => ?_⟩, fun c2 => ?_⟩, fun c => ?_⟩, fun z => absurd hS2.2.2.1 z⟩
    · rw [if_neg (fun e => c (by rw [e]; rfl)), if_neg (fun e => c2 (by rw [e]; rfl)), if_neg (fun e => c3 (by rw [e]; rfl))] at hw hg
      exact s_piece hcs (by omega) (by omega) (by omega) hz h0 hS2 hw hg
    · have hq : chA cs q = 45 := nI_inj (by omega) (by decide) c3
      have hin := chA_in (cs := cs) (p := q) (by omega)
      rw [if_neg (by omega), if_neg (by omega), if_pos hq] at hw hg
      rw [hS2.1, li 1, nI_add]
      rintro _ rfl
      refine s_num (most := 26) hcs (by decide) (by decide) (p := q + 1) h0 (by omega) (PQ_p hS2) (fun hn2 v μ4 hS4 => ?_) (fun l r hn2 μ4 hS4 => ?_)
      · rw [hn2] at hw
        exact s_pieceW hz hS4 (hw (q + 1) rfl)
      · rw [hn2] at hw hg
        have hv := rdN_ok (by decide) hn2
        exact s_piece hcs (by omega) (by omega) (by omega) hz h0 hS4 hw hg
    · have hq : chA cs q = 61 := nI_inj (by omega) (by decide) c2
      have hin := chA_in (cs := cs) (p := q) (by omega)
      rw [if_neg (by omega), if_pos hq] at hw hg
      rw [hS2.1, li 1, nI_add]
      rintro _ rfl
      refine s_num (most := 999) hcs (by decide) (by decide) (p := q + 1) h0 (by omega) (PQ_p hS2) (fun hn2 v μ4 hS4 => ?_) (fun v r hn2 μ4 hS4 => ?_)
      · rw [hn2] at hw
        exact s_lay hz hS4 (fun μ5 o' hS5 _ _ _ _ _ => hw (q + 1) rfl μ5 _ o' hS5)
      · rw [hn2] at hg
        exact s_lay hz hS4 (fun μ5 o' hS5 b0 b1 b2 b3 b4 => hg _ r rfl μ5 o' hS5 b0 ⟨b1, b2, b3, b4⟩)
    · have hq : chA cs q = 120 := nI_inj (by omega) (by decide) c
      rw [if_pos hq] at hg
      rw [hS2.1, li 1, nI_add]
      rintro _ rfl
      exact s_lay hz (PQ_p hS2) (fun μ5 o' hS5 b0 b1 b2 b3 b4 => hg _ (q + 1) rfl μ5 o' hS5 b0 ⟨b1, b2, b3, b4⟩)
theorem ls_wrong {Q : Int32 → Mem → Prop} {x z g : Nat} {o : Nat → Int32} {μ0 μ : Mem} (hS : PQ x z 1 o μ0 μ) (h1 : Q (nI x) μ) : bkX6_faultOf_19 Q (g + 1) μ := by
  unfold bkX6_faultOf_19 bkX6_faultOf_57
  refine ⟨fun _ => ⟨fun q => absurd (hS.2.2.1.symm.trans q) (by decide), fun _ => ?_⟩, fun q => absurd (hS.2.2.1.symm.trans q) (by decide)⟩
  rw [hS.1]
  exact h1
theorem ls_all {cs : List Nat} (hcs : csOk cs) {μ0 : Mem} (h0 : PadX (μ0 0 1) (μ0 8) cs) {Q : Int32 → Mem → Prop} : ∀ (f i p : Nat) (ol : List Stn) (o : Nat → Int32) (μ : Mem) (K : Mem → Prop), (∀ τ, bkX6_faultOf_19 Q (f + 2) τ → K τ) → i + f = 20 → ol.length = i → 3 * i ≤ p → p ≤ 60 → PQ p i 0 o μ0 μ → RawL o 0 ol → ((rdAll cs f p).2 = none → ∀ q μ' o', PQ q (ol ++ (rdAll cs f p).1).length 0 o' μ0 μ' → RawL o' 0 (ol ++ (rdAll cs f p).1) → Q (-6) μ') → (∀ x, (rdAll cs f p).2 = some x → ∀ z' o' μ', PQ x z' 1 o' μ0 μ' → Q (nI x) μ') → wpX6_readOne μ K
  | 0, i, p, ol, o, μ, K, hK, hi, hol, h3, hp, hS, hr, hA, hB => by
    have h60 := hcs.1
    have hout : chA cs p = 0 := chA_out (by omega)
    have hO : rdO cs p = (none, p) := by
      unfold rdO rdN
      rw [hout, if_neg (by decide)]
    refine s_one hcs hp (by omega) h0 hS (fun r hr' μ' z' o' hS' => ?_) (fun s r hr' => ?_)
    · rw [hO] at hr'
      cases hr'
      exact hK _ (ls_wrong hS' (hB p rfl z' o' μ' hS'))
    · rw [hO] at hr'
      cases hr'
  | f + 1, i, p, ol, o, μ, K, hK, hi, hol, h3, hp, hS, hr, hA, hB => by
    have h60 := hcs.1
    unfold rdAll at hA hB
    refine s_one hcs hp (by omega) h0 hS (fun r ho μ' z' o' hS' => ?_) (fun s r ho μ2 o2 hS2 b0 b1 => ?_)
    · rw [ho] at hB
      exact hK _ (ls_wrong hS' (hB r rfl z' o' μ' hS'))
    · rw [ho] at hA hB
      simp only at hA hB
      obtain ⟨hs, hpr, hrl⟩ := rdO_ok ho
      have hr2 : RawL o2 0 (ol ++ [s]) := RawL_snoc (RawL_congr (fun j _ hj => b0 j (by omega)) hr) (by rw [Nat.zero_add, hol]; exact b1)
      have hl2 : (ol ++ [s]).length = i + 1 := by rw [List.length_append, hol]; rfl
      apply hK
      have e1 : μ2 0 1 = nI cs.length := by rw [hS2.2.2.2.2.2 1 (by decide) (by decide) (by decide)]; exact h0.1
      unfold bkX6_faultOf_19
      refine ⟨fun q => absurd hS2.2.2.1 q, fun _ => ?_⟩
      rw [hS2.1, e1, nI_leI (by omega) (by omega)]
      by_cases he : r = cs.length
      · rw [if_pos he] at hA
        refine ⟨fun _ => ?_, fun q => absurd (by omega) q⟩
        unfold bkX6_faultOf_57
        refine ⟨fun _ => hA rfl r μ2 o2 ?_ hr2, fun q => absurd hS2.2.2.1 q⟩
        rw [hl2]
        exact hS2
      · rw [if_neg he] at hA hB
        refine ⟨fun q => absurd q (by omega), fun _ => ?_⟩
        refine s_between (c := 59) hcs h0 (by omega) (by decide) hS2 (fun hc μ3 hS3 => ?_) (fun hc μ3 hS3 => ?_)
        · rw [if_pos hc] at hA hB
          refine ⟨fun q => absurd hS3.2.2.1 q, fun _ => ?_⟩
          refine ls_all hcs h0 f (i + 1) (r + 1) (ol ++ [s]) o2 μ3 _ (fun τ h => h) (by omega) hl2 (by omega) (by omega) hS3 hr2 (fun hn q μ' o' h1 h2 => hA hn q μ' o' ?_ ?_) hB
          · rw [List.append_assoc] at h1
            exact h1
          · rw [List.append_assoc] at h2
            exact h2
        · rw [if_neg hc] at hB
          refine ⟨fun _ => ls_wrong hS3 (hB r rfl _ _ μ3 hS3), fun q => absurd (hS3.2.2.1.symm.trans q) (by decide)⟩
theorem s_reads {μ : Mem} {F : FS} (hF : RepM μ F) (hok : FOk F) {Q : Int32 → Mem → Prop} (h0 : (rdAll F.2.2.2 20 0).2 = none → ∀ μ', RepM μ' F → μ' 0 3 = nI (rdAll F.2.2.2 20 0).1.length → RawL (μ' 9) 0 (rdAll F.2.2.2 20 0).1 → Q (-6) μ') (h1 : ∀ x, (rdAll F.2.2.2 20 0).2 = some x → ∀ μ', RepM μ' F → Q (nI x) μ') : wpX6_faultOf μ Q := by
  have fr : ∀ {p z : Nat} {e : Int32} {o : Nat → Int32} {τ : Mem}, PQ p z e o μ τ → RepM τ F := fun {p z e o τ} hS => by
    refine RepM_pad (cs := F.2.2.2) hF (hS.2.2.2.2.2 0 (by decide) (by decide) (by decide)) (fun k h1 h2 => hS.2.2.2.2.1 k (by omega) (by omega)) ?_
    · rw [hS.2.2.2.2.2 1 (by decide) (by decide) (by decide), hS.2.2.2.2.1 8 (by decide) (by decide)]
      exact hF.2.2.2
  unfold wpX6_faultOf
  rintro μ1 e1 μ2 e2 μ3 e3
  refine ls_all (FOk_cs hok) hF.2.2.2 20 0 0 [] (μ 9) μ3 _ (fun τ h => ⟨_, h⟩) (by decide) rfl (by decide) (by decide) ⟨?_, ?_, ?_, ?_, fun k q0 q9 => ?_, fun j j3 j4 j5 => ?_⟩ (RawL_nil _ _) (fun hn q μ' o' hS' hr => h0 hn μ' (fr hS') hS'.2.1 (by rw [hS'.2.2.2.1]; exact hr)) (fun x hx z' o' μ' hS' => h1 x hx μ' (fr hS'))
  · rw [e3, e2, e1, ms_place _ _ _ (by decide), ms_place _ _ _ (by decide), ms_same]; rfl
  · rw [e3, e2, ms_place _ _ _ (by decide), ms_same]; rfl
  · rw [e3, ms_same]
  · rw [e3, e2, e1, ms_cell _ _ _ (by decide), ms_cell _ _ _ (by decide), ms_cell _ _ _ (by decide)]
  · rw [e3, e2, e1, ms_cell _ _ _ q0, ms_cell _ _ _ q0, ms_cell _ _ _ q0]
  · rw [e3, e2, e1, ms_place _ _ _ j5, ms_place _ _ _ j3, ms_place _ _ _ j4]
theorem m_fault {μ : Mem} {F : FS} (hF : RepM μ F) (hok : FOk F) {Q : Int32 → Mem → Prop} (hQ : ∀ μ', RepM μ' F → Q (fFault F) μ') : wpX6_fault μ Q := by
  unfold fFault at hQ
  unfold wpX6_fault
  refine s_reads hF hok (fun hn μ' h _ _ => ?_) (fun x hx μ' h => ?_)
  · rw [hn] at hQ; exact hQ μ' h
  · rw [hx] at hQ; exact hQ μ' h
theorem lm_carry {l : List Stn} (hl : ∀ s ∈ l, sOk s) (h20 : l.length ≤ 20) {Q : Int32 → Mem → Prop} : ∀ (m i f : Nat) (μ : Mem) (F : FS), i + m = l.length → m < f → RepM μ F → TOk F.1 → μ 0 3 = nI l.length → RawL (μ 9) 0 l → (∀ μ', RepM μ' (dropA (l.drop i) F.1, F.2) → Q (nI l.length) μ') → bkX6_carryOut_23 Q f (nI i) μ
  | _, _, 0, _, _, _, hf, _, _, _, _, _ => absurd hf (Nat.not_lt_zero _)
  | 0, i, f + 1, μ, F, hi, _, hF, _, h3, _, hQ => by
    have e : i = l.length := by omega
    unfold bkX6_carryOut_23
    rw [h3]
    refine ⟨fun _ => ?_, fun q => absurd (nI_le (by omega) (by omega)) q⟩
    rw [e, List.drop_eq_nil_of_le (Nat.le_refl _)] at hQ
    exact hQ μ hF
  | m + 1, i, f + 1, μ, F, hi, hf, hF, hT, h3, hr, hQ => by
    have hlt : i < l.length := by omega
    have hg : l[i]? = some l[i] := List.getElem?_eq_getElem hlt
    have hs := hl _ (List.getElem_mem hlt)
    have hst := hr i _ hg
    rw [Nat.zero_add] at hst
    unfold bkX6_carryOut_23
    rw [h3, li 4, nI_mul, li 1, li 2, li 3, nI_add, nI_add, nI_add, nI_clamp (show 4 * i < 2 ^ 31 by omega), nI_clamp (show 4 * i + 1 < 2 ^ 31 by omega), nI_clamp (show 4 * i + 2 < 2 ^ 31 by omega), nI_clamp (show 4 * i + 3 < 2 ^ 31 by omega), hst.1, hst.2.1, hst.2.2.1, hst.2.2.2]
    refine ⟨fun q => absurd q (nI_ge hlt (by omega)), fun _ => ⟨vinI (by omega) (by decide), vinI (by omega) (by decide), vinI (by omega) (by decide), vinI (by omega) (by decide), ?_⟩⟩
    refine q_drop hs hT hF.1 (fun μ7 h7 hk => ?_)
    rintro _ rfl
    rw [nI_add]
    have hF7 : RepM μ7 (dropT l[i] F.1, F.2) := RepM_tree hF hk h7
    refine lm_carry hl h20 m (i + 1) f μ7 (dropT l[i] F.1, F.2) (by omega) (by omega) hF7 (dropT_ok hs hT) ?_ ?_ (fun μ' h => hQ μ' ?_)
    · rw [hk 0 3 (by decide) (by decide) (by decide) (fun _ => by decide)]; exact h3
    · exact RawL_congr (fun j _ _ => hk 9 j (by decide) (by decide) (by decide) (fun q => absurd q (by decide))) hr
    · rw [List.drop_eq_getElem_cons hlt]
      exact h
theorem m_carry {μ : Mem} {F : FS} (hF : RepM μ F) (hok : FOk F) {Q : Int32 → Mem → Prop} (hQ : ∀ μ', RepM μ' (fCarry F).2 → Q (fCarry F).1 μ') : wpX6_carryOut μ Q := by
  unfold fCarry at hQ
  unfold wpX6_carryOut
  refine s_reads hF hok (fun hn μ3 h3 hc ho => ?_) (fun x hx μ3 h3 => ?_)
  · rw [hn] at hQ
    simp only at hQ
    refine ⟨fun _ => ?_, fun q => absurd rfl q⟩
    refine m_record h3 hok (fun μ4 h4 hk => ?_)
    rintro μ5 e5
    have h5 : RepM μ5 ((fGo F F.1).1, (fGo F F.1).2.1, (fGo F F.1).2.2.1, []) := by
      rw [e5]
      exact RepM_pad h4 (ms_place _ _ _ (by decide)) (fun k h1 _ => ms_cell _ _ _ (by omega)) ⟨ms_same _ _ _ _, fun i c hi => by cases hi⟩
    have h20 := rdAll_len (cs := F.2.2.2) 20 0
    refine ⟨_, lm_carry (l := (rdAll F.2.2.2 20 0).1) (rdAll_ok 20 0) h20 (rdAll F.2.2.2 20 0).1.length 0 _ μ5 ((fGo F F.1).1, (fGo F F.1).2.1, (fGo F F.1).2.2.1, []) (by omega) (Nat.lt_succ_self _) h5 hok.1 ?_ ?_ hQ⟩
    · rw [e5, ms_place _ _ _ (by decide), hk 0 3 (by decide) (fun _ => by decide)]
      exact hc
    · rw [e5, ms_cell _ _ _ (by decide)]
      exact RawL_congr (fun j _ _ => hk 9 j (by decide) (fun q => absurd q (by decide))) ho
  · rw [hx] at hQ
    have hx60 := rdAll_le (FOk_cs hok).1 20 0 x (by decide) hx
    exact ⟨fun q => absurd q (nI_ne_m6 (by omega)), fun _ => hQ μ3 h3⟩
