/-! THE LAW'S PLAIN SIDE: states that look alike; what a call gives, in plain terms -/
def teqB (t u : TS) : Bool := decide (t.1 = u.1) && (decide (t.2.1 = u.2.1) && (decide (t.2.2.1 = u.2.2.1) && (decide (t.2.2.2.1 = u.2.2.2.1) && ((List.range 13).all (fun n => decide (t.2.2.2.2.1 n = u.2.2.2.2.1 n)) && ((List.range 27).all (fun k => decide (t.2.2.2.2.2.1 k = u.2.2.2.2.2.1 k)) && decide (t.2.2.2.2.2.2 = u.2.2.2.2.2.2))))))
theorem teqB_spec {t u : TS} (h : teqB t u = true) : t.1 = u.1 ∧ t.2.1 = u.2.1 ∧ t.2.2.1 = u.2.2.1 ∧ t.2.2.2.1 = u.2.2.2.1 ∧ (∀ n, n < 13 → t.2.2.2.2.1 n = u.2.2.2.2.1 n) ∧ (∀ k, k < 27 → t.2.2.2.2.2.1 k = u.2.2.2.2.2.1 k) ∧ t.2.2.2.2.2.2 = u.2.2.2.2.2.2 := by
  simp only [teqB, Bool.and_eq_true, decide_eq_true_eq, List.all_eq_true, List.mem_range] at h
  exact h
theorem RepT_teq {τ : Mem} {t u : TS} (h : RepT τ t) (e : teqB t u = true) : RepT τ u := by
  obtain ⟨e1, e2, e3, e4, e5, e6, e7⟩ := teqB_spec e
  obtain ⟨h1, h2, h3, h4, h5, h6, h7⟩ := h
  refine ⟨by rw [← e1]; exact h1, by rw [← e2]; exact h2, by rw [← e3]; exact h3, by rw [← e4]; exact h4, fun n hn => by rw [← e5 n hn]; exact h5 n hn, fun k hk => by rw [← e6 k hk]; exact h6 k hk, by rw [← e7]; exact h7⟩
theorem TOk_teq {t u : TS} (h : TOk t) (e : teqB t u = true) : TOk u := by
  obtain ⟨e1, e2, e3, e4, e5, e6, e7⟩ := teqB_spec e
  obtain ⟨h1, h2, h3, h4, h5⟩ := h
  refine ⟨by rw [← e1]; exact h1, by rw [← e1]; exact h2, by rw [← e2]; exact h3, fun k hk x hx => h4 k hk x (by rw [e6 k hk]; exact hx), fun n hn => by rw [← e5 n hn]; exact h5 n hn⟩
theorem RepF_teq {μ : Mem} {t u : TS} {R : List TS × (Nat → Option TS) × List Nat} (h : RepF μ (t, R)) (e : teqB t u = true) : RepF μ (u, R) := ⟨RepT_teq h.1 e, h.2⟩
theorem FOk_teq {t u : TS} {R : List TS × (Nat → Option TS) × List Nat} (h : FOk (t, R)) (e : teqB t u = true) : FOk (u, R) := ⟨TOk_teq h.1 e, h.2⟩
theorem kstep {c : Int32 × FS} {v : Int32} {t u : TS} {R : List TS × (Nat → Option TS) × List Nat} (e : c = (v, (t, R))) (ok : FOk c.2) (hb : teqB t u = true) : FOk (u, R) := FOk_teq (by rw [e] at ok; exact ok) hb
theorem kstep2 {c : Int32 × FS} {v : Int32} {F : FS} (e : c = (v, F)) (ok : FOk c.2) : FOk F := by rw [e] at ok; exact ok
def mkW (ns : List NS) (ls : List (Option Nat)) (c : Int32) : WT := (fun n => ns.getD n ([], 0, 0, 0), fun k => ls.getD k none, c)
/-! changes -/
theorem fSend_v {K f l N : Nat} {F : FS} {v : Int32} (hK : K < 3) (hfl : f ≤ l) (hl : l < 27) (hN : N < (if K = 2 then 1 else 1000)) (h1 : K = 1 ∨ f = l) (hv : allSt (comeR F.1.1 F.1.2.1 (K, f, l, N) (sWT F)) = v) : fSend (nI K) (nI f) (nI l) (nI N) F = (v, fGo F (dropT (K, f, l, N) F.1)) := by
  have hB : (if K = 2 then 1 else 1000) < 2 ^ 31 := by split <;> decide
  unfold fSend
  rw [idx_nI (by decide) hK]
  simp only
  rw [idx_nI hB hN]
  simp only
  rw [idx_nI (by decide) (show f < 27 by omega)]
  simp only
  rw [idx_nI (by decide) hl]
  simp only
  rw [if_neg (by omega), if_neg (fun z => by rcases h1 with h | h; exact z.1 h; exact z.2 h.symm), hv]
theorem fEmpty_v {n : Nat} {F : FS} {v : Int32} (hn : n < 13) (hv : allSt (empN F.1.1 F.1.2.1 n (sWT F)) = v) : fEmpty (nI n) F = (v, fGo F (setW F.1 (empN F.1.1 F.1.2.1 n (sWT F)))) := by
  unfold fEmpty
  rw [idx_nI (by decide) hn]
  simp only
  rw [hv]
theorem fRead_v {k : Nat} {F : FS} {v : Int32} (hk : k < 27) (hv : encV (rdK (sWT F) k) = v) : fRead (nI k) F = (v, fGo F (F.1.1, F.1.2.1, F.1.2.2.1, F.1.2.2.2.1 + 3, sWT F)) := by
  unfold fRead
  rw [idx_nI (by decide) hk]
  simp only
  rw [hv]
theorem fSave_v {i : Nat} {F : FS} {v : Int32} (hi : i < 2) (hv : allSt (sWT F) = v) : fSave (nI i) F = (v, F.1, F.2.1, up F.2.2.1 i (some F.1), F.2.2.2) := by
  unfold fSave
  rw [idx_nI (by decide) hi]
  simp only
  rw [hv]
theorem fRest_v {i : Nat} {F : FS} {t : TS} {v : Int32} (hi : i < 2) (h : F.2.2.1 i = some t) (hv : allSt t.2.2.2.2 = v) : fRest (nI i) F = (v, fGo F t) := by
  unfold fRest
  rw [idx_nI (by decide) hi]
  simp only
  rw [h]
  simp only
  rw [hv]
theorem fRest_n {i : Nat} {F : FS} (hi : i < 2) (h : F.2.2.1 i = none) : fRest (nI i) F = (-5, F) := by
  unfold fRest
  rw [idx_nI (by decide) hi]
  simp only
  rw [h]
theorem fPut_v {a : Int64} {n : Nat} {bs : List Nat} {F : FS} {v : Int32} (h1 : ctC 8 (nuX a) 0 = n) (hn : n ≠ 0) (hl : F.2.2.2.length + n ≤ 60) (hb : bts (nuX a) n = bs) (hv : nI (F.2.2.2.length + n) = v) : fPut a F = (v, F.1, F.2.1, F.2.2.1, F.2.2.2 ++ bs) := by
  unfold fPut
  rw [h1, if_neg hn, if_pos hl, hb, hv]
theorem fPut_full {a : Int64} {n : Nat} {F : FS} (h1 : ctC 8 (nuX a) 0 = n) (hn : n ≠ 0) (hl : ¬ F.2.2.2.length + n ≤ 60) : fPut a F = (-4, F) := by
  unfold fPut
  rw [h1, if_neg hn, if_neg hl]
theorem fPut_bad {a : Int64} {F : FS} (h1 : ctC 8 (nuX a) 0 = 0) : fPut a F = (-2, F) := by
  unfold fPut
  rw [if_pos h1]
theorem fCarry_v {os : List Stn} {F : FS} {v : Int32} (h : rdAll F.2.2.2 20 0 = (os, none)) (hv : nI os.length = v) : fCarry F = (v, dropA os F.1, (F.1 :: F.2.1).take 6, F.2.2.1, []) := by
  unfold fCarry
  rw [h]
  simp only
  rw [hv]
theorem fCarry_bad {x : Nat} {F : FS} (h : (rdAll F.2.2.2 20 0).2 = some x) : fCarry F = (-3, F) := by
  unfold fCarry
  rw [h]
theorem fUndo_v (t t1 : TS) (hs : List TS) (R : (Nat → Option TS) × List Nat) : fUndo (t, t1 :: hs, R) = (nI hs.length, t1, hs, R) := rfl
theorem fUndo_0 (t : TS) (R : (Nat → Option TS) × List Nat) : fUndo (t, [], R) = (-5, t, [], R) := rfl
/-! refused calls -/
theorem zs_k {k a b n : Int32} {F : FS} (h : idx 3 k = none) : fSend k a b n F = (-2, F) := by
  unfold fSend
  rw [h]
theorem zs_n {k a b n : Int32} {F : FS} {K : Nat} (h : idx 3 k = some K) (h2 : idx (if K = 2 then 1 else 1000) n = none) : fSend k a b n F = (-2, F) := by
  unfold fSend
  rw [h]
  simp only
  rw [h2]
theorem zs_a {k a b n : Int32} {F : FS} {K N : Nat} (h : idx 3 k = some K) (h2 : idx (if K = 2 then 1 else 1000) n = some N) (h3 : idx 27 a = none) : fSend k a b n F = (-1, F) := by
  unfold fSend
  rw [h]
  simp only
  rw [h2]
  simp only
  rw [h3]
theorem zs_b {k a b n : Int32} {F : FS} {K N f : Nat} (h : idx 3 k = some K) (h2 : idx (if K = 2 then 1 else 1000) n = some N) (h3 : idx 27 a = some f) (h4 : idx 27 b = none) : fSend k a b n F = (-1, F) := by
  unfold fSend
  rw [h]
  simp only
  rw [h2]
  simp only
  rw [h3]
  simp only
  rw [h4]
theorem zs_l {k a b n : Int32} {F : FS} {K N f l : Nat} (h : idx 3 k = some K) (h2 : idx (if K = 2 then 1 else 1000) n = some N) (h3 : idx 27 a = some f) (h4 : idx 27 b = some l) (h5 : l < f ∨ (K ≠ 1 ∧ l ≠ f)) : fSend k a b n F = (-1, F) := by
  unfold fSend
  rw [h]
  simp only
  rw [h2]
  simp only
  rw [h3]
  simp only
  rw [h4]
  simp only
  by_cases g : l < f
  · rw [if_pos g]
  · rw [if_neg g, if_pos (by rcases h5 with h5 | h5; exact absurd h5 g; exact h5)]
theorem z_set_s {a b : Int32} {F : FS} (h : idx 2 a = none) : fSet a b F = (-2, F) := by
  unfold fSet
  rw [h]
theorem z_set_0 {a b : Int32} {F : FS} (h : idx 2 a = some 0) (h2 : idx 11 b = none ∨ idx 11 b = some 0) : fSet a b F = (-2, F) := by
  unfold fSet
  rw [h]
  simp only
  rcases h2 with h2 | h2 <;> simp [h2]
theorem z_set_1 {a b : Int32} {F : FS} (h : idx 2 a = some 1) (h2 : idx 2 b = none) : fSet a b F = (-2, F) := by
  unfold fSet
  rw [h]
  simp only
  rw [if_neg (by decide), h2]
theorem z_empty {a : Int32} {F : FS} (h : idx 13 a = none) : fEmpty a F = (-1, F) := by
  unfold fEmpty
  rw [h]
theorem z_read {a : Int32} {F : FS} (h : idx 27 a = none) : fRead a F = (-1, F) := by
  unfold fRead
  rw [h]
theorem z_stone_n {a b c : Int32} {F : FS} (h : idx 13 a = none) : fStone a b c F = -1 := by
  unfold fStone
  rw [h]
theorem z_stone_p {a b c : Int32} {F : FS} {n : Nat} (h : idx 13 a = some n) (h2 : idx ((sWT F).1 n).1.length b = none) : fStone a b c F = -1 := by
  unfold fStone
  rw [h]
  simp only
  rw [h2]
theorem z_stone_w {a b c : Int32} {F : FS} {n p : Nat} (h : idx 13 a = some n) (h2 : idx ((sWT F).1 n).1.length b = some p) (h3 : idx 4 c = none) : fStone a b c F = -2 := by
  unfold fStone
  rw [h]
  simp only
  rw [h2]
  simp only
  rw [h3]
theorem z_node_n {a b : Int32} {F : FS} (h : idx 13 a = none) : fNode a b F = -1 := by
  unfold fNode
  rw [h]
theorem z_node_w {a b : Int32} {F : FS} {n : Nat} (h : idx 13 a = some n) (h2 : idx 6 b = none) : fNode a b F = -2 := by
  unfold fNode
  rw [h]
  simp only
  rw [h2]
theorem z_key_k {a b : Int32} {F : FS} (h : idx 27 a = none) : fKey a b F = -1 := by
  unfold fKey
  rw [h]
theorem z_key_w {a b : Int32} {F : FS} {n : Nat} (h : idx 27 a = some n) (h2 : idx 4 b = none) : fKey a b F = -2 := by
  unfold fKey
  rw [h]
  simp only
  rw [h2]
theorem z_count {a : Int32} {F : FS} (h : idx 10 a = none) : fCount a F = -2 := by
  unfold fCount
  rw [h]
theorem z_sum_a {a b : Int32} {F : FS} (h : idx 27 a = none) : fSum a b F = -1 := by
  unfold fSum
  rw [h]
theorem z_sum_b {a b : Int32} {F : FS} {n : Nat} (h : idx 27 a = some n) (h2 : idx 27 b = none) : fSum a b F = -1 := by
  unfold fSum
  rw [h]
  simp only
  rw [h2]
theorem z_sum_l {a b : Int32} {F : FS} {n m : Nat} (h : idx 27 a = some n) (h2 : idx 27 b = some m) (h3 : m < n) : fSum a b F = -1 := by
  unfold fSum
  rw [h]
  simp only
  rw [h2]
  simp only
  rw [if_pos h3]
theorem z_heavy {a : Int32} {F : FS} (h : idx 13 a = none) : fHeavy a F = -1 := by
  unfold fHeavy
  rw [h]
theorem z_would {a : Int32} {F : FS} (h : idx 27 a = none) : fWould a F = -1 := by
  unfold fWould
  rw [h]
theorem z_worst {a : Int32} {F : FS} (h : idx 2 a = none) : fWorst a F = -2 := by
  unfold fWorst
  rw [h]
theorem z_same_a {a b : Int32} {F : FS} (h : idx 27 a = none) : fSame a b F = -1 := by
  unfold fSame
  rw [h]
theorem z_same_b {a b : Int32} {F : FS} {n : Nat} (h : idx 27 a = some n) (h2 : idx 27 b = none) : fSame a b F = -1 := by
  unfold fSame
  rw [h]
  simp only
  rw [h2]
theorem z_save {a : Int32} {F : FS} (h : idx 2 a = none) : fSave a F = (-2, F) := by
  unfold fSave
  rw [h]
theorem z_rest {a : Int32} {F : FS} (h : idx 2 a = none) : fRest a F = (-2, F) := by
  unfold fRest
  rw [h]
theorem XT : XC shX (fun _ => True) := ⟨by decide +kernel, ⟨_, rfl⟩, fun _ _ _ _ => trivial⟩
