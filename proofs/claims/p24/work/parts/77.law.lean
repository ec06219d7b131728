/-! THE LAW: what its loop keeps -/
def shW : List Ds := shX ++ [.inl (4, 64)]
def EW (w : Nat → Int64) (μ : Mem) : Prop := ∀ j, j < 64 → lgF (μ 88) j = w j
theorem shW_x : embB shW shX (e1 0) = true := by decide +kernel
theorem XW {w : Nat → Int64} : XC shW (EW w) := ⟨shW_x, ⟨_, rfl⟩, fun μ μ' h hE j hj => by rw [h 88 (by decide)]; exact hE j hj⟩
def wup (w : Nat → Int64) (c : Nat) (v : Int64) : Nat → Int64 := fun j => if j = c then v else w j
theorem EW_up {w : Nat → Int64} {μ : Mem} (h : EW w μ) (c : Nat) (v : Int64) : EW (wup w c v) (mput μ 88 (lgU (μ 88) c v)) := fun j hj => by
  have e : mput μ 88 (lgU (μ 88) c v) 88 = lgU (μ 88) c v := by simp [mput]
  rw [e, lgF_U]
  unfold vp_updL wup
  by_cases hjc : j = c
  · rw [if_pos hjc, if_pos hjc]
  · rw [if_neg hjc, if_neg hjc]
    exact h j hj
theorem RepF_up {μ : Mem} {F : FS} (h : RepF μ F) (f : Nat → Int32) : RepF (mput μ 88 f) F := RepF_c (fun k hk => by
  unfold mput
  rw [if_neg (by omega)]) h
def HistOk (c : Nat) (w : Nat → Int64) (hs : List TS) : Prop := hs.length = min c 6 ∧ ∀ j t, hs[j]? = some t → w (c - 1 - j) = fSeen t
theorem HistOk.push {c : Nat} {w : Nat → Int64} {hs : List TS} {t : TS} (h : HistOk c w hs) (hw : w c = fSeen t) : HistOk (c + 1) w ((t :: hs).take 6) := by
  obtain ⟨h1, h2⟩ := h
  refine ⟨by rw [List.length_take, List.length_cons]; omega, fun j u hj => ?_⟩
  rw [List.getElem?_take] at hj
  split at hj
  · cases j with
    | zero =>
      rw [List.getElem?_cons_zero] at hj
      cases hj
      exact hw
    | succ j =>
      rw [List.getElem?_cons_succ] at hj
      have := h2 j u hj
      rw [← this]
      congr 1
      omega
  · cases hj
theorem HistOk.set {c : Nat} {w : Nat → Int64} {hs : List TS} (h : HistOk c w hs) (v : Int64) : HistOk c (wup w c v) hs := by
  obtain ⟨h1, h2⟩ := h
  refine ⟨h1, fun j u hj => ?_⟩
  have hl := (List.getElem?_eq_some_iff.mp hj).1
  unfold wup
  rw [if_neg (by omega)]
  exact h2 j u hj
def padC (k c : Nat) (cs : List Nat) : Prop := (cs = [53, 120] ∧ k ≤ 2 * c) ∨ (cs = [] ∧ k + 1 ≤ 2 * c)
def slotC (sl : Nat → Option TS) : Prop := ∃ t0 t1, sl 0 = some t0 ∧ sl 1 = some t1
/-- at the head of the loop -/
def Inv (k c : Nat) (w : Nat → Int64) (F : FS) : Prop := FOk F ∧ c ≤ k + (if k ≤ 30 then 0 else 1) ∧ HistOk c w F.2.1 ∧ padC k c F.2.2.2 ∧ (20 < k → slotC F.2.2.1)
/-- where the change is chosen -/
def Mid (k c : Nat) (w : Nat → Int64) (F : FS) : Prop := FOk F ∧ c ≤ k + (if k < 30 then 0 else 1) ∧ HistOk c w F.2.1 ∧ w c = fSeen F.1 ∧ padC k c F.2.2.2 ∧ (20 ≤ k → slotC F.2.2.1)
theorem mid_next {k c : Nat} {w : Nat → Int64} {F F' : FS} (h : Mid k c w F) (hF' : FOk F') (h1 : F'.2.1 = (F.1 :: F.2.1).take 6) (h2 : F'.2.2.1 = F.2.2.1) (h3 : F'.2.2.2 = F.2.2.2 ∨ (F.2.2.2 = [53, 120] ∧ F'.2.2.2 = [])) : Inv (k + 1) (c + 1) w F' := by
  obtain ⟨a1, a2, a3, a4, a5, a6⟩ := h
  refine ⟨hF', ?_, by rw [h1]; exact a3.push a4, ?_, fun hk => by rw [h2]; exact a6 (by omega)⟩
  · split at a2 <;> split <;> omega
  · rcases h3 with h3 | ⟨h3, h4⟩
    · rw [h3]
      rcases a5 with ⟨p1, p2⟩ | ⟨p1, p2⟩
      · exact Or.inl ⟨p1, by omega⟩
      · exact Or.inr ⟨p1, by omega⟩
    · refine Or.inr ⟨h4, ?_⟩
      rcases a5 with ⟨p1, p2⟩ | ⟨p1, p2⟩
      · omega
      · rw [h3] at p1; cases p1
theorem mid_stay {k c : Nat} {w : Nat → Int64} {F F' : FS} (h : Mid k c w F) (hp : F.2.2.2 = []) (hF' : FOk F') (h1 : F'.2.1 = F.2.1) (h2 : F'.2.2.1 = F.2.2.1) (h3 : F'.2.2.2 = [53, 120]) : Inv (k + 1) c w F' := by
  obtain ⟨a1, a2, a3, a4, a5, a6⟩ := h
  refine ⟨hF', ?_, by rw [h1]; exact a3, ?_, fun hk => by rw [h2]; exact a6 (by omega)⟩
  · split at a2 <;> split <;> omega
  · rcases a5 with ⟨p1, p2⟩ | ⟨p1, p2⟩
    · rw [hp] at p1; cases p1
    · exact Or.inl ⟨h3, by omega⟩
theorem all_nn {w : WT} (h : WOk w) : ∃ s, s < 2 ^ 31 ∧ allSt w = nI s := by
  have key : ∀ m, m ≤ 13 → ∃ s, s ≤ 22 * m ∧ sumN (fun n => nI (w.1 n).1.length) m = nI s := by
    intro m
    induction m with
    | zero => exact fun _ => ⟨0, Nat.le_refl _, rfl⟩
    | succ m ih =>
      intro hm
      obtain ⟨s, h1, h2⟩ := ih (by omega)
      have h3 : (w.1 m).1.length ≤ 22 := WOk_len h m (by omega)
      refine ⟨s + (w.1 m).1.length, by omega, ?_⟩
      show sumN _ m + nI _ = _
      rw [h2, nI_add]
  obtain ⟨s, h1, h2⟩ := key 13 (by decide)
  exact ⟨s, by omega, h2⟩
theorem all_pos {w : WT} (h : WOk w) : ¬ allSt w < 0 := by
  obtain ⟨s, h1, h2⟩ := all_nn h
  rw [h2]
  exact nI_pos h1
theorem count_0 {F : FS} : fCount 0 F = allSt (sWT F) := by
  unfold fCount
  rw [li 0, idx_nI (by decide) (by decide)]
  rfl
theorem rd_x : rdAll [53, 120] 20 0 = ([(2, 5, 5, 0)], none) := by decide +kernel
theorem rd_0 : (rdAll [] 20 0).2 = some 0 := by decide +kernel
theorem put_x {F : FS} (h : F.2.2.2 = []) : fPut 13688 F = (2, F.1, F.2.1, F.2.2.1, [53, 120]) := by
  have e := fPut_v (a := 13688) (n := 2) (bs := [53, 120]) (F := F) (v := 2) (by decide +kernel) (by decide) (by rw [h]; decide) (by decide +kernel) (by rw [h]; decide)
  rw [e, h]
  rfl
theorem i0_le {a : Int32} (h : ¬ a < 0) : 0 ≤ a := by
  rw [Int32.le_iff_toInt_le]
  rw [Int32.lt_iff_toInt_lt] at h
  have : (0 : Int32).toInt = 0 := by decide
  omega

set_option maxRecDepth 100000 in
set_option maxHeartbeats 4000000 in
theorem lw_352 {K : KT} {l : Launch} {ad : Nat → Nat} {b : Nat}  (hN : kN K = 10) (C : Ctx K l cL_law RL wsL_law room_1 shW ad) {k c kd lst fst : Nat} {x v : Int32} (hv : ¬ v < 0 ∨ (kd = 8 ∧ v = -6)) {w : Nat → Int64} {F : FS} {μ : Mem} (hF : RepF μ F) (hE : EW w μ) (hend : ∀ μ, RepF μ F → EW w μ → JW K (2729, 120158) shW ad μ 51 [(4, .int (nI (k + 1))), (3, .int (nI (c + 1))), (2, .ref (ad 88)), (1, .ref (ad 0)), (0, .ref b)] []) : JW K (2729, 120158) shW ad μ 352 [(9, .int v), (8, .int (nI lst)), (7, .int (nI fst)), (6, .int (nI kd)), (5, .int x), (4, .int (nI k)), (3, .int (nI c)), (2, .ref (ad 88)), (1, .ref (ad 0)), (0, .ref b)] [] := by
  have hN_3 : 3 < kN K := by rw [hN]; decide
  have hN_4 : 4 < kN K := by rw [hN]; decide
  refine jw_iload C dL_law_352 0 rfl ?_
  refine jw_if_ge C 373 dL_law_354 (by decide) (fun c1 => ?_) (fun c1 => ?_)
  · -- a number
    refine jw_iinc (lw := [(3, .int (nI (c + 1))), (9, .int _), (8, .int _), (7, .int _), (6, .int _), (5, .int _), (4, .int _), (2, .ref _), (1, .ref _), (0, .ref _)]) (q := 6) C dL_law_373 rfl (show nI c + Int32.ofInt 1 = nI (c + 1) from nI_add c 1) hN_3 rfl ?_
    refine jw_iinc (lw := [(4, .int (nI (k + 1))), (3, .int _), (9, .int _), (8, .int _), (7, .int _), (6, .int _), (5, .int _), (2, .ref _), (1, .ref _), (0, .ref _)]) (q := 6) C dL_law_376 rfl (show nI k + Int32.ofInt 1 = nI (k + 1) from nI_add k 1) hN_4 rfl ?_
    refine jw_goto (tgt := 51) C dL_law_379 (by decide) ?_
    refine jw_sub (lw := [(4, .int _), (3, .int _), (2, .ref _), (1, .ref _), (0, .ref _)]) [0, 1, 7, 8, 9] rfl ?_
    exact hend μ hF hE
  · -- absent
    refine jw_iload C dL_law_357 3 rfl ?_
    refine jw_bipush (v := 8) C dL_law_359 (by decide) ?_
    rcases hv with hv | ⟨hv1, hv2⟩
    · exact absurd (i0_le hv) c1
    subst hv1
    subst hv2
    refine jw_icmp_ne C 371 dL_law_361 (by decide) (fun c => absurd rfl c) (fun _ => ?_)
    refine jw_iload C dL_law_364 0 rfl ?_
    refine jw_bipush (v := (-6)) C dL_law_366 (by decide) ?_
    refine jw_icmp_eq C 373 dL_law_368 (by decide) (fun _ => ?_) (fun c => absurd rfl c)
    refine jw_iinc (lw := [(3, .int (nI (c + 1))), (9, .int _), (8, .int _), (7, .int _), (6, .int _), (5, .int _), (4, .int _), (2, .ref _), (1, .ref _), (0, .ref _)]) (q := 6) C dL_law_373 rfl (show nI c + Int32.ofInt 1 = nI (c + 1) from nI_add c 1) hN_3 rfl ?_
    refine jw_iinc (lw := [(4, .int (nI (k + 1))), (3, .int _), (9, .int _), (8, .int _), (7, .int _), (6, .int _), (5, .int _), (2, .ref _), (1, .ref _), (0, .ref _)]) (q := 6) C dL_law_376 rfl (show nI k + Int32.ofInt 1 = nI (k + 1) from nI_add k 1) hN_4 rfl ?_
    refine jw_goto (tgt := 51) C dL_law_379 (by decide) ?_
    refine jw_sub (lw := [(4, .int _), (3, .int _), (2, .ref _), (1, .ref _), (0, .ref _)]) [0, 1, 7, 8, 9] rfl ?_
    exact hend μ hF hE
set_option maxRecDepth 100000 in
set_option maxHeartbeats 4000000 in
theorem lw_ok {K : KT} {l : Launch} {ad : Nat → Nat} {b : Nat}  (hN : kN K = 10) (C : Ctx K l cL_law RL wsL_law room_1 shW ad) {k c kd lst fst : Nat} {x v : Int32} (hv : ¬ v < 0 ∨ (kd = 8 ∧ v = -6)) (h3 : ¬ v = -3) {w : Nat → Int64} {F : FS} {μ : Mem} (hF : RepF μ F) (hE : EW w μ) (hend : ∀ μ, RepF μ F → EW w μ → JW K (2729, 120158) shW ad μ 51 [(4, .int (nI (k + 1))), (3, .int (nI (c + 1))), (2, .ref (ad 88)), (1, .ref (ad 0)), (0, .ref b)] []) : JW K (2729, 120158) shW ad μ 322 [(8, .int (nI lst)), (7, .int (nI fst)), (6, .int (nI kd)), (5, .int x), (4, .int (nI k)), (3, .int (nI c)), (2, .ref (ad 88)), (1, .ref (ad 0)), (0, .ref b)] [.int v] := by
  have hN_9 : 9 < kN K := by rw [hN]; decide
  refine jw_istore (lw := [(9, .int _), (8, .int _), (7, .int _), (6, .int _), (5, .int _), (4, .int _), (3, .int _), (2, .ref _), (1, .ref _), (0, .ref _)]) C dL_law_322 hN_9 rfl ?_
  refine jw_iload C dL_law_324 3 rfl ?_
  refine jw_bipush (v := 7) C dL_law_326 (by decide) ?_
  refine jw_icmp_ne C 352 dL_law_328 (by decide) (fun c1 => lw_352 hN C hv hF hE hend) (fun c1 => ?_)
  refine jw_iload C dL_law_331 0 rfl ?_
  refine jw_bipush (v := (-3)) C dL_law_333 (by decide) ?_
  refine jw_icmp_ne C 352 dL_law_335 (by decide) (fun c2 => lw_352 hN C hv hF hE hend) (fun c2 => absurd c2 h3)
set_option maxRecDepth 100000 in
set_option maxHeartbeats 4000000 in
theorem lw_bad {K : KT} {l : Launch} {ad : Nat → Nat} {b : Nat}  (hN : kN K = 10) (C : Ctx K l cL_law RL wsL_law room_1 shW ad) {k c lst fst : Nat} {x : Int32} {w : Nat → Int64} {F : FS} {μ : Mem} (hok : FOk F) (hp : F.2.2.2 = []) (hF : RepF μ F) (hE : EW w μ) (hend : ∀ μ, RepF μ (F.1, F.2.1, F.2.2.1, [53, 120]) → EW w μ → JW K (2729, 120158) shW ad μ 51 [(4, .int (nI (k + 1))), (3, .int (nI c)), (2, .ref (ad 88)), (1, .ref (ad 0)), (0, .ref b)] []) : JW K (2729, 120158) shW ad μ 322 [(8, .int (nI lst)), (7, .int (nI fst)), (6, .int (nI 7)), (5, .int x), (4, .int (nI k)), (3, .int (nI c)), (2, .ref (ad 88)), (1, .ref (ad 0)), (0, .ref b)] [.int (-3)] := by
  have hN_4 : 4 < kN K := by rw [hN]; decide
  have hN_9 : 9 < kN K := by rw [hN]; decide
  refine jw_istore (lw := [(9, .int _), (8, .int _), (7, .int _), (6, .int _), (5, .int _), (4, .int _), (3, .int _), (2, .ref _), (1, .ref _), (0, .ref _)]) C dL_law_322 hN_9 rfl ?_
  refine jw_iload C dL_law_324 3 rfl ?_
  refine jw_bipush (v := 7) C dL_law_326 (by decide) ?_
  refine jw_icmp_ne C 352 dL_law_328 (by decide) (fun c => absurd rfl c) (fun _ => ?_)
  refine jw_iload C dL_law_331 0 rfl ?_
  refine jw_bipush (v := (-3)) C dL_law_333 (by decide) ?_
  refine jw_icmp_ne C 352 dL_law_335 (by decide) (fun c => absurd rfl c) (fun _ => ?_)
  refine jw_aload_n C dL_law_338 rfl 8 rfl ?_
  refine jw_ldc2 (v := 13688) C (List.mem_of_getElem? (i := 4) rfl) dL_law_339 ?_
  refine jx_put C XW hF hE hok (put_x hp) gL_law_X5_put (Nat.le_of_ble_eq_true rfl) (Nat.le_of_ble_eq_true rfl) ⟨Nat.le_of_ble_eq_true rfl, Nat.le_of_ble_eq_true rfl⟩ (Nat.le_of_ble_eq_true rfl) dL_law_342 (fun μ hF hE => ?_)
  refine jw_iconst (v := 2) C dL_law_345 (by decide) ?_
  refine jw_icmp_ne C 352 dL_law_346 (by decide) (fun c => absurd rfl c) (fun _ => ?_)
  refine jw_goto (tgt := 376) C dL_law_349 (by decide) ?_
  refine jw_iinc (lw := [(4, .int (nI (k + 1))), (9, .int _), (8, .int _), (7, .int _), (6, .int _), (5, .int _), (3, .int _), (2, .ref _), (1, .ref _), (0, .ref _)]) (q := 5) C dL_law_376 rfl (show nI k + Int32.ofInt 1 = nI (k + 1) from nI_add k 1) hN_4 rfl ?_
  refine jw_goto (tgt := 51) C dL_law_379 (by decide) ?_
  refine jw_sub (lw := [(4, .int _), (3, .int _), (2, .ref _), (1, .ref _), (0, .ref _)]) [0, 6, 7, 8, 9] rfl ?_
  exact hend μ hF hE
set_option maxRecDepth 100000 in
set_option maxHeartbeats 4000000 in
theorem lw_send0 {K : KT} {l : Launch} {ad : Nat → Nat} {b : Nat}  (hN : kN K = 10) (C : Ctx K l cL_law RL wsL_law room_1 shW ad) {kd : Nat} {k c lst fst : Nat} {x : Int32} {w : Nat → Int64} {F : FS} {μ : Mem} (hM : Mid k c w F) (hF : RepF μ F) (hE : EW w μ) (hf : fst < 27) (hl : fst ≤ lst) (hl2 : lst < 27) (hnext : ∀ c w F μ, Inv (k + 1) c w F → RepF μ F → EW w μ → JW K (2729, 120158) shW ad μ 51 [(4, .int (nI (k + 1))), (3, .int (nI c)), (2, .ref (ad 88)), (1, .ref (ad 0)), (0, .ref b)] []) : JW K (2729, 120158) shW ad μ 184 [(8, .int (nI lst)), (7, .int (nI fst)), (6, .int (nI kd)), (5, .int x), (4, .int (nI k)), (3, .int (nI c)), (2, .ref (ad 88)), (1, .ref (ad 0)), (0, .ref b)] [] := by
  have hok := hM.1
  refine jw_aload_n C dL_law_184 rfl 7 rfl ?_
  refine jw_iconst (v := 0) C dL_law_185 (by decide) ?_
  refine jw_iload C dL_law_186 1 rfl ?_
  refine jw_iload C dL_law_188 1 rfl ?_
  refine jw_iload C dL_law_190 3 rfl ?_
  refine jw_bipush (v := 7) C dL_law_192 (by decide) ?_
  refine jw_ishr C dL_law_194 ?_
  refine jw_sipush (v := 1000) C dL_law_195 (by decide) ?_
  refine jx_part 1000 C rfl (by decide) (by decide) gL_law_L_part (Nat.le_of_ble_eq_true rfl) (Nat.le_of_ble_eq_true rfl) ⟨Nat.le_of_ble_eq_true rfl, Nat.le_of_ble_eq_true rfl⟩ (Nat.le_of_ble_eq_true rfl) dL_law_198 (fun n hn => ?_)
  have e := fSend_v (K := 0) (f := fst) (l := fst) (N := n) (F := F) (by decide) (Nat.le_refl _) hf (by simpa using hn) (Or.inr rfl) rfl
  have hk2 := fSend_ok (k := nI 0) (a := nI fst) (b := nI fst) (n := nI n) hok
  rw [e] at hk2
  have hnn : ¬ allSt (comeR F.1.1 F.1.2.1 (0, fst, fst, n) (sWT F)) < 0 := all_pos hk2.1.2.2.2
  refine jx_send C XW hF hE hok e gL_law_X5_send (Nat.le_of_ble_eq_true rfl) (Nat.le_of_ble_eq_true rfl) ⟨Nat.le_of_ble_eq_true rfl, Nat.le_of_ble_eq_true rfl⟩ (Nat.le_of_ble_eq_true rfl) dL_law_201 (fun μ hF hE => ?_)
  refine jw_goto (tgt := 322) C dL_law_204 (by decide) ?_
  have h3 : ¬ (allSt (comeR F.1.1 F.1.2.1 (0, fst, fst, n) (sWT F))) < 0 := hnn
  exact lw_ok hN C (Or.inl h3) (fun e => h3 (by rw [e]; decide)) hF hE (fun μ hF hE => hnext _ _ _ μ (mid_next hM hk2 rfl rfl (Or.inl rfl)) hF hE)
set_option maxRecDepth 100000 in
set_option maxHeartbeats 4000000 in
theorem lw_send1 {K : KT} {l : Launch} {ad : Nat → Nat} {b : Nat}  (hN : kN K = 10) (C : Ctx K l cL_law RL wsL_law room_1 shW ad) {kd : Nat} {k c lst fst : Nat} {x : Int32} {w : Nat → Int64} {F : FS} {μ : Mem} (hM : Mid k c w F) (hF : RepF μ F) (hE : EW w μ) (hf : fst < 27) (hl : fst ≤ lst) (hl2 : lst < 27) (hnext : ∀ c w F μ, Inv (k + 1) c w F → RepF μ F → EW w μ → JW K (2729, 120158) shW ad μ 51 [(4, .int (nI (k + 1))), (3, .int (nI c)), (2, .ref (ad 88)), (1, .ref (ad 0)), (0, .ref b)] []) : JW K (2729, 120158) shW ad μ 213 [(8, .int (nI lst)), (7, .int (nI fst)), (6, .int (nI kd)), (5, .int x), (4, .int (nI k)), (3, .int (nI c)), (2, .ref (ad 88)), (1, .ref (ad 0)), (0, .ref b)] [] := by
  have hok := hM.1
  refine jw_aload_n C dL_law_213 rfl 7 rfl ?_
  refine jw_iconst (v := 1) C dL_law_214 (by decide) ?_
  refine jw_iload C dL_law_215 1 rfl ?_
  refine jw_iload C dL_law_217 0 rfl ?_
  refine jw_iload C dL_law_219 3 rfl ?_
  refine jw_bipush (v := 7) C dL_law_221 (by decide) ?_
  refine jw_ishr C dL_law_223 ?_
  refine jw_sipush (v := 1000) C dL_law_224 (by decide) ?_
  refine jx_part 1000 C rfl (by decide) (by decide) gL_law_L_part (Nat.le_of_ble_eq_true rfl) (Nat.le_of_ble_eq_true rfl) ⟨Nat.le_of_ble_eq_true rfl, Nat.le_of_ble_eq_true rfl⟩ (Nat.le_of_ble_eq_true rfl) dL_law_227 (fun n hn => ?_)
  have e := fSend_v (K := 1) (f := fst) (l := lst) (N := n) (F := F) (by decide) hl hl2 (by simpa using hn) (Or.inl rfl) rfl
  have hk2 := fSend_ok (k := nI 1) (a := nI fst) (b := nI lst) (n := nI n) hok
  rw [e] at hk2
  have hnn : ¬ allSt (comeR F.1.1 F.1.2.1 (1, fst, lst, n) (sWT F)) < 0 := all_pos hk2.1.2.2.2
  refine jx_send C XW hF hE hok e gL_law_X5_send (Nat.le_of_ble_eq_true rfl) (Nat.le_of_ble_eq_true rfl) ⟨Nat.le_of_ble_eq_true rfl, Nat.le_of_ble_eq_true rfl⟩ (Nat.le_of_ble_eq_true rfl) dL_law_230 (fun μ hF hE => ?_)
  refine jw_goto (tgt := 322) C dL_law_233 (by decide) ?_
  have h3 : ¬ (allSt (comeR F.1.1 F.1.2.1 (1, fst, lst, n) (sWT F))) < 0 := hnn
  exact lw_ok hN C (Or.inl h3) (fun e => h3 (by rw [e]; decide)) hF hE (fun μ hF hE => hnext _ _ _ μ (mid_next hM hk2 rfl rfl (Or.inl rfl)) hF hE)
set_option maxRecDepth 100000 in
set_option maxHeartbeats 4000000 in
theorem lw_send2 {K : KT} {l : Launch} {ad : Nat → Nat} {b : Nat}  (hN : kN K = 10) (C : Ctx K l cL_law RL wsL_law room_1 shW ad) {kd : Nat} {k c lst fst : Nat} {x : Int32} {w : Nat → Int64} {F : FS} {μ : Mem} (hM : Mid k c w F) (hF : RepF μ F) (hE : EW w μ) (hf : fst < 27) (hl : fst ≤ lst) (hl2 : lst < 27) (hnext : ∀ c w F μ, Inv (k + 1) c w F → RepF μ F → EW w μ → JW K (2729, 120158) shW ad μ 51 [(4, .int (nI (k + 1))), (3, .int (nI c)), (2, .ref (ad 88)), (1, .ref (ad 0)), (0, .ref b)] []) : JW K (2729, 120158) shW ad μ 242 [(8, .int (nI lst)), (7, .int (nI fst)), (6, .int (nI kd)), (5, .int x), (4, .int (nI k)), (3, .int (nI c)), (2, .ref (ad 88)), (1, .ref (ad 0)), (0, .ref b)] [] := by
  have hok := hM.1
  refine jw_aload_n C dL_law_242 rfl 7 rfl ?_
  refine jw_iconst (v := 2) C dL_law_243 (by decide) ?_
  refine jw_iload C dL_law_244 1 rfl ?_
  refine jw_iload C dL_law_246 1 rfl ?_
  refine jw_iconst (v := 0) C dL_law_248 (by decide) ?_
  have e := fSend_v (K := 2) (f := fst) (l := fst) (N := 0) (F := F) (by decide) (Nat.le_refl _) hf (by decide) (Or.inr rfl) rfl
  have hk2 := fSend_ok (k := nI 2) (a := nI fst) (b := nI fst) (n := nI 0) hok
  rw [e] at hk2
  have hnn : ¬ allSt (comeR F.1.1 F.1.2.1 (2, fst, fst, 0) (sWT F)) < 0 := all_pos hk2.1.2.2.2
  refine jx_send C XW hF hE hok e gL_law_X5_send (Nat.le_of_ble_eq_true rfl) (Nat.le_of_ble_eq_true rfl) ⟨Nat.le_of_ble_eq_true rfl, Nat.le_of_ble_eq_true rfl⟩ (Nat.le_of_ble_eq_true rfl) dL_law_249 (fun μ hF hE => ?_)
  refine jw_goto (tgt := 322) C dL_law_252 (by decide) ?_
  have h3 : ¬ (allSt (comeR F.1.1 F.1.2.1 (2, fst, fst, 0) (sWT F))) < 0 := hnn
  exact lw_ok hN C (Or.inl h3) (fun e => h3 (by rw [e]; decide)) hF hE (fun μ hF hE => hnext _ _ _ μ (mid_next hM hk2 rfl rfl (Or.inl rfl)) hF hE)
set_option maxRecDepth 100000 in
set_option maxHeartbeats 4000000 in
theorem lw_empty {K : KT} {l : Launch} {ad : Nat → Nat} {b : Nat}  (hN : kN K = 10) (C : Ctx K l cL_law RL wsL_law room_1 shW ad) {kd : Nat} {k c lst fst : Nat} {x : Int32} {w : Nat → Int64} {F : FS} {μ : Mem} (hM : Mid k c w F) (hF : RepF μ F) (hE : EW w μ) (hf : fst < 27) (hl : fst ≤ lst) (hl2 : lst < 27) (hnext : ∀ c w F μ, Inv (k + 1) c w F → RepF μ F → EW w μ → JW K (2729, 120158) shW ad μ 51 [(4, .int (nI (k + 1))), (3, .int (nI c)), (2, .ref (ad 88)), (1, .ref (ad 0)), (0, .ref b)] []) : JW K (2729, 120158) shW ad μ 261 [(8, .int (nI lst)), (7, .int (nI fst)), (6, .int (nI kd)), (5, .int x), (4, .int (nI k)), (3, .int (nI c)), (2, .ref (ad 88)), (1, .ref (ad 0)), (0, .ref b)] [] := by
  have hok := hM.1
  refine jw_aload_n C dL_law_261 rfl 7 rfl ?_
  refine jw_iload C dL_law_262 3 rfl ?_
  refine jw_iconst (v := 5) C dL_law_264 (by decide) ?_
  refine jw_ishr C dL_law_265 ?_
  refine jw_bipush (v := 13) C dL_law_266 (by decide) ?_
  refine jx_part 13 C rfl (by decide) (by decide) gL_law_L_part (Nat.le_of_ble_eq_true rfl) (Nat.le_of_ble_eq_true rfl) ⟨Nat.le_of_ble_eq_true rfl, Nat.le_of_ble_eq_true rfl⟩ (Nat.le_of_ble_eq_true rfl) dL_law_268 (fun n hn => ?_)
  have e := fEmpty_v (n := n) (F := F) hn rfl
  have hk2 := fEmpty_ok (n := nI n) hok
  rw [e] at hk2
  have hnn : ¬ allSt (empN F.1.1 F.1.2.1 n (sWT F)) < 0 := all_pos hk2.1.2.2.2
  refine jx_empty C XW hF hE hok e gL_law_X5_empty (Nat.le_of_ble_eq_true rfl) (Nat.le_of_ble_eq_true rfl) ⟨Nat.le_of_ble_eq_true rfl, Nat.le_of_ble_eq_true rfl⟩ (Nat.le_of_ble_eq_true rfl) dL_law_271 (fun μ hF hE => ?_)
  refine jw_goto (tgt := 322) C dL_law_274 (by decide) ?_
  have h3 : ¬ (allSt (empN F.1.1 F.1.2.1 n (sWT F))) < 0 := hnn
  exact lw_ok hN C (Or.inl h3) (fun e => h3 (by rw [e]; decide)) hF hE (fun μ hF hE => hnext _ _ _ μ (mid_next hM hk2 rfl rfl (Or.inl rfl)) hF hE)
set_option maxRecDepth 100000 in
set_option maxHeartbeats 4000000 in
theorem lw_set {K : KT} {l : Launch} {ad : Nat → Nat} {b : Nat}  (hN : kN K = 10) (C : Ctx K l cL_law RL wsL_law room_1 shW ad) {kd : Nat} {k c lst fst : Nat} {x : Int32} {w : Nat → Int64} {F : FS} {μ : Mem} (hM : Mid k c w F) (hF : RepF μ F) (hE : EW w μ) (hf : fst < 27) (hl : fst ≤ lst) (hl2 : lst < 27) (hnext : ∀ c w F μ, Inv (k + 1) c w F → RepF μ F → EW w μ → JW K (2729, 120158) shW ad μ 51 [(4, .int (nI (k + 1))), (3, .int (nI c)), (2, .ref (ad 88)), (1, .ref (ad 0)), (0, .ref b)] []) : JW K (2729, 120158) shW ad μ 284 [(8, .int (nI lst)), (7, .int (nI fst)), (6, .int (nI kd)), (5, .int x), (4, .int (nI k)), (3, .int (nI c)), (2, .ref (ad 88)), (1, .ref (ad 0)), (0, .ref b)] [] := by
  have hok := hM.1
  refine jw_aload_n C dL_law_284 rfl 7 rfl ?_
  refine jw_iconst (v := 0) C dL_law_285 (by decide) ?_
  refine jw_iconst (v := 1) C dL_law_286 (by decide) ?_
  refine jw_iload C dL_law_287 3 rfl ?_
  refine jw_iconst (v := 5) C dL_law_289 (by decide) ?_
  refine jw_ishr C dL_law_290 ?_
  refine jw_iconst (v := 5) C dL_law_291 (by decide) ?_
  refine jx_part 5 C rfl (by decide) (by decide) gL_law_L_part (Nat.le_of_ble_eq_true rfl) (Nat.le_of_ble_eq_true rfl) ⟨Nat.le_of_ble_eq_true rfl, Nat.le_of_ble_eq_true rfl⟩ (Nat.le_of_ble_eq_true rfl) dL_law_292 (fun n hn => ?_)
  refine jw_iadd C dL_law_295 ?_
  have e1n : (1 : Int32) + nI n = nI (1 + n) := nI_add 1 n
  rw [e1n]
  have e := fSet_0 (v := 1 + n) (F := F) (by omega) (by omega)
  have hk2 := fSet_ok (a := nI 0) (b := nI (1 + n)) hok
  rw [e] at hk2
  have hnn : ¬ nI F.1.1 < 0 := nI_pos (Nat.lt_of_le_of_lt hok.1.2.1 (by decide))
  refine jx_set C XW hF hE hok e gL_law_X5_set (Nat.le_of_ble_eq_true rfl) (Nat.le_of_ble_eq_true rfl) ⟨Nat.le_of_ble_eq_true rfl, Nat.le_of_ble_eq_true rfl⟩ (Nat.le_of_ble_eq_true rfl) dL_law_296 (fun μ hF hE => ?_)
  refine jw_goto (tgt := 322) C dL_law_299 (by decide) ?_
  have h3 : ¬ (nI F.1.1) < 0 := hnn
  exact lw_ok hN C (Or.inl h3) (fun e => h3 (by rw [e]; decide)) hF hE (fun μ hF hE => hnext _ _ _ μ (mid_next hM hk2 rfl rfl (Or.inl rfl)) hF hE)
set_option maxRecDepth 100000 in
set_option maxHeartbeats 4000000 in
theorem lw_carry {K : KT} {l : Launch} {ad : Nat → Nat} {b : Nat}  (hN : kN K = 10) (C : Ctx K l cL_law RL wsL_law room_1 shW ad) {k c lst fst : Nat} {x : Int32} {w : Nat → Int64} {F : FS} {μ : Mem} (hM : Mid k c w F) (hF : RepF μ F) (hE : EW w μ) (hf : fst < 27) (hl : fst ≤ lst) (hl2 : lst < 27) (hnext : ∀ c w F μ, Inv (k + 1) c w F → RepF μ F → EW w μ → JW K (2729, 120158) shW ad μ 51 [(4, .int (nI (k + 1))), (3, .int (nI c)), (2, .ref (ad 88)), (1, .ref (ad 0)), (0, .ref b)] []) : JW K (2729, 120158) shW ad μ 309 [(8, .int (nI lst)), (7, .int (nI fst)), (6, .int (nI 7)), (5, .int x), (4, .int (nI k)), (3, .int (nI c)), (2, .ref (ad 88)), (1, .ref (ad 0)), (0, .ref b)] [] := by
  have hok := hM.1
  refine jw_aload_n C dL_law_309 rfl 7 rfl ?_
  rcases hM.2.2.2.2.1 with ⟨hp, hq⟩ | ⟨hp, hq⟩
  · -- an order
    have e := fCarry_v (os := [(2, 5, 5, 0)]) (F := F) (v := 1) (by rw [hp]; exact rd_x) (by decide)
    have hk2 := fCarry_ok hok
    rw [e] at hk2
    have hnn : ¬ (1 : Int32) < 0 := by decide
    refine jx_carry C XW hF hE hok e gL_law_X5_carryOut (Nat.le_of_ble_eq_true rfl) (Nat.le_of_ble_eq_true rfl) ⟨Nat.le_of_ble_eq_true rfl, Nat.le_of_ble_eq_true rfl⟩ (Nat.le_of_ble_eq_true rfl) dL_law_310 (fun μ hF hE => ?_)
    refine jw_goto (tgt := 322) C dL_law_313 (by decide) ?_
    have h3 : ¬ (1 : Int32) < 0 := hnn
    exact lw_ok hN C (Or.inl h3) (fun e => h3 (by rw [e]; decide)) hF hE (fun μ hF hE => hnext _ _ _ μ (mid_next hM hk2 rfl rfl (Or.inr ⟨hp, rfl⟩)) hF hE)
  · -- none
    have e := fCarry_bad (x := 0) (F := F) (by rw [hp]; exact rd_0)
    refine jx_carry C XW hF hE hok e gL_law_X5_carryOut (Nat.le_of_ble_eq_true rfl) (Nat.le_of_ble_eq_true rfl) ⟨Nat.le_of_ble_eq_true rfl, Nat.le_of_ble_eq_true rfl⟩ (Nat.le_of_ble_eq_true rfl) dL_law_310 (fun μ hF hE => ?_)
    refine jw_goto (tgt := 322) C dL_law_313 (by decide) ?_
    have hk3 := fPut_ok (a := 13688) hok
    rw [put_x hp] at hk3
    exact lw_bad hN C hok hp hF hE (fun μ hF hE => hnext _ _ _ μ (mid_stay hM hp hk3 rfl rfl rfl) hF hE)
set_option maxRecDepth 100000 in
set_option maxHeartbeats 4000000 in
theorem lw_read {K : KT} {l : Launch} {ad : Nat → Nat} {b : Nat}  (hN : kN K = 10) (C : Ctx K l cL_law RL wsL_law room_1 shW ad) {k c lst fst : Nat} {x : Int32} {w : Nat → Int64} {F : FS} {μ : Mem} (hM : Mid k c w F) (hF : RepF μ F) (hE : EW w μ) (hf : fst < 27) (hl : fst ≤ lst) (hl2 : lst < 27) (hnext : ∀ c w F μ, Inv (k + 1) c w F → RepF μ F → EW w μ → JW K (2729, 120158) shW ad μ 51 [(4, .int (nI (k + 1))), (3, .int (nI c)), (2, .ref (ad 88)), (1, .ref (ad 0)), (0, .ref b)] []) : JW K (2729, 120158) shW ad μ 316 [(8, .int (nI lst)), (7, .int (nI fst)), (6, .int (nI 8)), (5, .int x), (4, .int (nI k)), (3, .int (nI c)), (2, .ref (ad 88)), (1, .ref (ad 0)), (0, .ref b)] [] := by
  have hok := hM.1
  refine jw_aload_n C dL_law_316 rfl 7 rfl ?_
  refine jw_iload C dL_law_317 1 rfl ?_
  have e := fRead_v (k := fst) (F := F) hf rfl
  have hk2 := fRead_ok (k := nI fst) hok
  rw [e] at hk2
  refine jx_read C XW hF hE hok e gL_law_X5_read (Nat.le_of_ble_eq_true rfl) (Nat.le_of_ble_eq_true rfl) ⟨Nat.le_of_ble_eq_true rfl, Nat.le_of_ble_eq_true rfl⟩ (Nat.le_of_ble_eq_true rfl) dL_law_319 (fun μ hF hE => ?_)
  have hr := rdK_ok hok.1.2.2.2 hf
  have hv : (¬ encV (rdK (sWT F) fst) < 0 ∨ (8 = 8 ∧ encV (rdK (sWT F) fst) = -6)) ∧ ¬ encV (rdK (sWT F) fst) = -3 := by
    cases hc : rdK (sWT F) fst with
    | none => exact ⟨Or.inr ⟨rfl, rfl⟩, by decide⟩
    | some y =>
      have hy := hr y hc
      have hnn : ¬ nI y < 0 := nI_pos (by omega)
      exact ⟨Or.inl hnn, fun e => hnn (by rw [show nI y = -3 from e]; decide)⟩
  exact lw_ok hN C hv.1 hv.2 hF hE (fun μ hF hE => hnext _ _ _ μ (mid_next hM hk2 rfl rfl (Or.inl rfl)) hF hE)
set_option maxRecDepth 100000 in
set_option maxHeartbeats 4000000 in
theorem lw_178 {K : KT} {l : Launch} {ad : Nat → Nat} {b : Nat}  (hN : kN K = 10) (C : Ctx K l cL_law RL wsL_law room_1 shW ad) {kd : Nat} (hkd : kd < 9) {k c lst fst : Nat} {x : Int32} {w : Nat → Int64} {F : FS} {μ : Mem} (hM : Mid k c w F) (hF : RepF μ F) (hE : EW w μ) (hf : fst < 27) (hl : fst ≤ lst) (hl2 : lst < 27) (hnext : ∀ c w F μ, Inv (k + 1) c w F → RepF μ F → EW w μ → JW K (2729, 120158) shW ad μ 51 [(4, .int (nI (k + 1))), (3, .int (nI c)), (2, .ref (ad 88)), (1, .ref (ad 0)), (0, .ref b)] []) : JW K (2729, 120158) shW ad μ 178 [(8, .int (nI lst)), (7, .int (nI fst)), (6, .int (nI kd)), (5, .int x), (4, .int (nI k)), (3, .int (nI c)), (2, .ref (ad 88)), (1, .ref (ad 0)), (0, .ref b)] [] := by
  rcases (show kd = 0 ∨ kd = 1 ∨ kd = 2 ∨ kd = 3 ∨ kd = 4 ∨ kd = 5 ∨ kd = 6 ∨ kd = 7 ∨ kd = 8 by omega) with rfl | rfl | rfl | rfl | rfl | rfl | rfl | rfl | rfl
  · refine jw_iload C dL_law_178 2 rfl ?_
    refine jw_iconst (v := 2) C dL_law_180 (by decide) ?_
    refine jw_icmp_ge C 207 dL_law_181 (by decide) (fun c => absurd c (by decide)) (fun _ => ?_)
    exact lw_send0 hN C hM hF hE hf hl hl2 hnext
  · refine jw_iload C dL_law_178 2 rfl ?_
    refine jw_iconst (v := 2) C dL_law_180 (by decide) ?_
    refine jw_icmp_ge C 207 dL_law_181 (by decide) (fun c => absurd c (by decide)) (fun _ => ?_)
    exact lw_send0 hN C hM hF hE hf hl hl2 hnext
  · refine jw_iload C dL_law_178 2 rfl ?_
    refine jw_iconst (v := 2) C dL_law_180 (by decide) ?_
    refine jw_icmp_ge C 207 dL_law_181 (by decide) (fun _ => ?_) (fun c => absurd (by decide) c)
    refine jw_iload C dL_law_207 2 rfl ?_
    refine jw_iconst (v := 4) C dL_law_209 (by decide) ?_
    refine jw_icmp_ge C 236 dL_law_210 (by decide) (fun c => absurd c (by decide)) (fun _ => ?_)
    exact lw_send1 hN C hM hF hE hf hl hl2 hnext
  · refine jw_iload C dL_law_178 2 rfl ?_
    refine jw_iconst (v := 2) C dL_law_180 (by decide) ?_
    refine jw_icmp_ge C 207 dL_law_181 (by decide) (fun _ => ?_) (fun c => absurd (by decide) c)
    refine jw_iload C dL_law_207 2 rfl ?_
    refine jw_iconst (v := 4) C dL_law_209 (by decide) ?_
    refine jw_icmp_ge C 236 dL_law_210 (by decide) (fun c => absurd c (by decide)) (fun _ => ?_)
    exact lw_send1 hN C hM hF hE hf hl hl2 hnext
  · refine jw_iload C dL_law_178 2 rfl ?_
    refine jw_iconst (v := 2) C dL_law_180 (by decide) ?_
    refine jw_icmp_ge C 207 dL_law_181 (by decide) (fun _ => ?_) (fun c => absurd (by decide) c)
    refine jw_iload C dL_law_207 2 rfl ?_
    refine jw_iconst (v := 4) C dL_law_209 (by decide) ?_
    refine jw_icmp_ge C 236 dL_law_210 (by decide) (fun _ => ?_) (fun c => absurd (by decide) c)
    refine jw_iload C dL_law_236 2 rfl ?_
    refine jw_iconst (v := 4) C dL_law_238 (by decide) ?_
    refine jw_icmp_ne C 255 dL_law_239 (by decide) (fun c => absurd rfl c) (fun _ => ?_)
    exact lw_send2 hN C hM hF hE hf hl hl2 hnext
  · refine jw_iload C dL_law_178 2 rfl ?_
    refine jw_iconst (v := 2) C dL_law_180 (by decide) ?_
    refine jw_icmp_ge C 207 dL_law_181 (by decide) (fun _ => ?_) (fun c => absurd (by decide) c)
    refine jw_iload C dL_law_207 2 rfl ?_
    refine jw_iconst (v := 4) C dL_law_209 (by decide) ?_
    refine jw_icmp_ge C 236 dL_law_210 (by decide) (fun _ => ?_) (fun c => absurd (by decide) c)
    refine jw_iload C dL_law_236 2 rfl ?_
    refine jw_iconst (v := 4) C dL_law_238 (by decide) ?_
    refine jw_icmp_ne C 255 dL_law_239 (by decide) (fun _ => ?_) (fun c => absurd c (by decide))
    refine jw_iload C dL_law_255 2 rfl ?_
    refine jw_iconst (v := 5) C dL_law_257 (by decide) ?_
    refine jw_icmp_ne C 277 dL_law_258 (by decide) (fun c => absurd rfl c) (fun _ => ?_)
    exact lw_empty hN C hM hF hE hf hl hl2 hnext
  · refine jw_iload C dL_law_178 2 rfl ?_
    refine jw_iconst (v := 2) C dL_law_180 (by decide) ?_
    refine jw_icmp_ge C 207 dL_law_181 (by decide) (fun _ => ?_) (fun c => absurd (by decide) c)
    refine jw_iload C dL_law_207 2 rfl ?_
    refine jw_iconst (v := 4) C dL_law_209 (by decide) ?_
    refine jw_icmp_ge C 236 dL_law_210 (by decide) (fun _ => ?_) (fun c => absurd (by decide) c)
    refine jw_iload C dL_law_236 2 rfl ?_
    refine jw_iconst (v := 4) C dL_law_238 (by decide) ?_
    refine jw_icmp_ne C 255 dL_law_239 (by decide) (fun _ => ?_) (fun c => absurd c (by decide))
    refine jw_iload C dL_law_255 2 rfl ?_
    refine jw_iconst (v := 5) C dL_law_257 (by decide) ?_
    refine jw_icmp_ne C 277 dL_law_258 (by decide) (fun _ => ?_) (fun c => absurd c (by decide))
    refine jw_iload C dL_law_277 2 rfl ?_
    refine jw_bipush (v := 6) C dL_law_279 (by decide) ?_
    refine jw_icmp_ne C 302 dL_law_281 (by decide) (fun c => absurd rfl c) (fun _ => ?_)
    exact lw_set hN C hM hF hE hf hl hl2 hnext
  · refine jw_iload C dL_law_178 2 rfl ?_
    refine jw_iconst (v := 2) C dL_law_180 (by decide) ?_
    refine jw_icmp_ge C 207 dL_law_181 (by decide) (fun _ => ?_) (fun c => absurd (by decide) c)
    refine jw_iload C dL_law_207 2 rfl ?_
    refine jw_iconst (v := 4) C dL_law_209 (by decide) ?_
    refine jw_icmp_ge C 236 dL_law_210 (by decide) (fun _ => ?_) (fun c => absurd (by decide) c)
    refine jw_iload C dL_law_236 2 rfl ?_
    refine jw_iconst (v := 4) C dL_law_238 (by decide) ?_
    refine jw_icmp_ne C 255 dL_law_239 (by decide) (fun _ => ?_) (fun c => absurd c (by decide))
    refine jw_iload C dL_law_255 2 rfl ?_
    refine jw_iconst (v := 5) C dL_law_257 (by decide) ?_
    refine jw_icmp_ne C 277 dL_law_258 (by decide) (fun _ => ?_) (fun c => absurd c (by decide))
    refine jw_iload C dL_law_277 2 rfl ?_
    refine jw_bipush (v := 6) C dL_law_279 (by decide) ?_
    refine jw_icmp_ne C 302 dL_law_281 (by decide) (fun _ => ?_) (fun c => absurd c (by decide))
    refine jw_iload C dL_law_302 2 rfl ?_
    refine jw_bipush (v := 7) C dL_law_304 (by decide) ?_
    refine jw_icmp_ne C 316 dL_law_306 (by decide) (fun c => absurd rfl c) (fun _ => ?_)
    exact lw_carry hN C hM hF hE hf hl hl2 hnext
  · refine jw_iload C dL_law_178 2 rfl ?_
    refine jw_iconst (v := 2) C dL_law_180 (by decide) ?_
    refine jw_icmp_ge C 207 dL_law_181 (by decide) (fun _ => ?_) (fun c => absurd (by decide) c)
    refine jw_iload C dL_law_207 2 rfl ?_
    refine jw_iconst (v := 4) C dL_law_209 (by decide) ?_
    refine jw_icmp_ge C 236 dL_law_210 (by decide) (fun _ => ?_) (fun c => absurd (by decide) c)
    refine jw_iload C dL_law_236 2 rfl ?_
    refine jw_iconst (v := 4) C dL_law_238 (by decide) ?_
    refine jw_icmp_ne C 255 dL_law_239 (by decide) (fun _ => ?_) (fun c => absurd c (by decide))
    refine jw_iload C dL_law_255 2 rfl ?_
    refine jw_iconst (v := 5) C dL_law_257 (by decide) ?_
    refine jw_icmp_ne C 277 dL_law_258 (by decide) (fun _ => ?_) (fun c => absurd c (by decide))
    refine jw_iload C dL_law_277 2 rfl ?_
    refine jw_bipush (v := 6) C dL_law_279 (by decide) ?_
    refine jw_icmp_ne C 302 dL_law_281 (by decide) (fun _ => ?_) (fun c => absurd c (by decide))
    refine jw_iload C dL_law_302 2 rfl ?_
    refine jw_bipush (v := 7) C dL_law_304 (by decide) ?_
    refine jw_icmp_ne C 316 dL_law_306 (by decide) (fun _ => ?_) (fun c => absurd c (by decide))
    exact lw_read hN C hM hF hE hf hl hl2 hnext
set_option maxRecDepth 100000 in
set_option maxHeartbeats 4000000 in
theorem lw_139 {K : KT} {l : Launch} {ad : Nat → Nat} {b : Nat}  (hN : kN K = 10) (C : Ctx K l cL_law RL wsL_law room_1 shW ad) {k c kd lst fst : Nat} {x : Int32} {w : Nat → Int64} {F : FS} {μ : Mem} (hk40 : k < 40) (hok : FOk F) (hc : c ≤ k + (if k ≤ 30 then 0 else 1)) (hH : HistOk c w F.2.1) (hp : padC k c F.2.2.2) (hs : 20 ≤ k → slotC F.2.2.1) (hF : RepF μ F) (hE : EW w μ) (hkd : kd < 9) (hf : fst < 27) (hl : fst ≤ lst) (hl2 : lst < 27) (hnext : ∀ c w F μ, Inv (k + 1) c w F → RepF μ F → EW w μ → JW K (2729, 120158) shW ad μ 51 [(4, .int (nI (k + 1))), (3, .int (nI c)), (2, .ref (ad 88)), (1, .ref (ad 0)), (0, .ref b)] []) : JW K (2729, 120158) shW ad μ 139 [(8, .int (nI lst)), (7, .int (nI fst)), (6, .int (nI kd)), (5, .int x), (4, .int (nI k)), (3, .int (nI c)), (2, .ref (ad 88)), (1, .ref (ad 0)), (0, .ref b)] [] := by
  have hN_3 : 3 < kN K := by rw [hN]; decide
  have hc41 : c ≤ 41 := by split at hc <;> omega
  refine jw_aload_n C dL_law_139 rfl 6 rfl ?_
  refine jw_iload_n C dL_law_140 rfl 5 rfl ?_
  refine jw_aload_n C dL_law_141 rfl 7 rfl ?_
  refine jx_seen C XW hF hE hok gL_law_L_seen (Nat.le_of_ble_eq_true rfl) (Nat.le_of_ble_eq_true rfl) ⟨Nat.le_of_ble_eq_true rfl, Nat.le_of_ble_eq_true rfl⟩ (Nat.le_of_ble_eq_true rfl) dL_law_142 (fun μ hF hE => ?_)
  refine jw_last C rfl (show shW[88]? = some (.inl (4, 64)) from rfl) (vinI (show c < 64 by omega) (by decide)) dL_law_145 ?_
  rw [nI_clamp (show c < 2 ^ 31 by omega)]
  have hE := EW_up hE (c) (fSeen F.1)
  have hF := RepF_up hF (lgU (μ 88) (c) (fSeen F.1))
  have hH1 := hH.set (fSeen F.1)
  have hw1 : wup w c (fSeen F.1) c = fSeen F.1 := by unfold wup; rw [if_pos rfl]
  refine jw_iload C dL_law_146 4 rfl ?_
  refine jw_bipush (v := 30) C dL_law_148 (by decide) ?_
  by_cases h30 : k = 30
  · subst h30
    refine jw_icmp_ne C 178 dL_law_150 (by decide) (fun c => absurd rfl c) (fun _ => ?_)
    obtain ⟨t0, t1, hs0, hs1⟩ := hs (by decide)
    have e := fRest_v (i := 1) (F := F) (by decide) hs1 rfl
    have hk2 := fRest_ok (s := nI 1) hok
    rw [e] at hk2
    refine jw_aload_n C dL_law_153 rfl 7 rfl ?_
    refine jw_iconst (v := 1) C dL_law_154 (by decide) ?_
    refine jx_restore C XW hF hE hok e gL_law_X5_restore (Nat.le_of_ble_eq_true rfl) (Nat.le_of_ble_eq_true rfl) ⟨Nat.le_of_ble_eq_true rfl, Nat.le_of_ble_eq_true rfl⟩ (Nat.le_of_ble_eq_true rfl) dL_law_155 (fun μ hF hE => ?_)
    refine jw_aload_n C dL_law_158 rfl 7 rfl ?_
    refine jw_iconst (v := 0) C dL_law_159 (by decide) ?_
    refine jx_count C XW hF hE hk2 count_0 gL_law_X5_count (Nat.le_of_ble_eq_true rfl) (Nat.le_of_ble_eq_true rfl) ⟨Nat.le_of_ble_eq_true rfl, Nat.le_of_ble_eq_true rfl⟩ (Nat.le_of_ble_eq_true rfl) dL_law_160 (fun μ hF hE => ?_)
    refine jw_icmp_eq C 168 dL_law_163 (by decide) (fun _ => ?_) (fun c => absurd rfl c)
    refine jw_iinc (lw := [(3, .int (nI (c + 1))), (8, .int _), (7, .int _), (6, .int _), (5, .int _), (4, .int _), (2, .ref _), (1, .ref _), (0, .ref _)]) (q := 5) C dL_law_168 rfl (show nI c + Int32.ofInt 1 = nI (c + 1) from nI_add c 1) hN_3 rfl ?_
    refine jw_sub (lw := [(8, .int _), (7, .int _), (6, .int _), (5, .int _), (4, .int _), (3, .int _), (2, .ref _), (1, .ref _), (0, .ref _)]) [1, 2, 3, 4, 5, 0, 6, 7, 8] rfl ?_
    have hok := hk2
    refine jw_aload_n C dL_law_171 rfl 6 rfl ?_
    refine jw_iload_n C dL_law_172 rfl 5 rfl ?_
    refine jw_aload_n C dL_law_173 rfl 7 rfl ?_
    refine jx_seen C XW hF hE hok gL_law_L_seen (Nat.le_of_ble_eq_true rfl) (Nat.le_of_ble_eq_true rfl) ⟨Nat.le_of_ble_eq_true rfl, Nat.le_of_ble_eq_true rfl⟩ (Nat.le_of_ble_eq_true rfl) dL_law_174 (fun μ hF hE => ?_)
    refine jw_last C rfl (show shW[88]? = some (.inl (4, 64)) from rfl) (vinI (show c + 1 < 64 by omega) (by decide)) dL_law_177 ?_
    rw [nI_clamp (show c + 1 < 2 ^ 31 by omega)]
    have hE := EW_up hE (c + 1) (fSeen (fGo F t1).1)
    have hF := RepF_up hF (lgU (μ 88) (c + 1) (fSeen (fGo F t1).1))
    refine lw_178 hN C hkd ⟨hk2, ?_, (HistOk.push hH1 hw1).set _, ?_, ?_, fun _ => ⟨t0, t1, hs0, hs1⟩⟩ hF hE hf hl hl2 hnext
    · simp at hc ⊢; omega
    · unfold wup; rw [if_pos rfl]
    · rcases hp with ⟨p1, p2⟩ | ⟨p1, p2⟩
      · exact Or.inl ⟨p1, by omega⟩
      · exact Or.inr ⟨p1, by omega⟩
  · refine jw_icmp_ne C 178 dL_law_150 (by decide) (fun _ => ?_) (fun e => absurd (nI_inj (b := 30) (by omega) (by decide) e) h30)
    refine lw_178 hN C hkd ⟨hok, ?_, hH1, hw1, hp, hs⟩ hF hE hf hl hl2 hnext
    split at hc <;> split <;> omega
set_option maxRecDepth 100000 in
set_option maxHeartbeats 4000000 in
theorem lw_104 {K : KT} {l : Launch} {ad : Nat → Nat} {b : Nat}  (hN : kN K = 10) (C : Ctx K l cL_law RL wsL_law room_1 shW ad) {k c kd lst fst : Nat} {x : Int32} {w : Nat → Int64} {F : FS} {μ : Mem} (hk40 : k < 40) (hok : FOk F) (hc : c ≤ k + (if k ≤ 30 then 0 else 1)) (hH : HistOk c w F.2.1) (hp : padC k c F.2.2.2) (hs : 20 < k → slotC F.2.2.1) (hF : RepF μ F) (hE : EW w μ) (hkd : kd < 9) (hf : fst < 27) (hl : fst ≤ lst) (hl2 : lst < 27) (hnext : ∀ c w F μ, Inv (k + 1) c w F → RepF μ F → EW w μ → JW K (2729, 120158) shW ad μ 51 [(4, .int (nI (k + 1))), (3, .int (nI c)), (2, .ref (ad 88)), (1, .ref (ad 0)), (0, .ref b)] []) : JW K (2729, 120158) shW ad μ 104 [(8, .int (nI lst)), (7, .int (nI fst)), (6, .int (nI kd)), (5, .int x), (4, .int (nI k)), (3, .int (nI c)), (2, .ref (ad 88)), (1, .ref (ad 0)), (0, .ref b)] [] := by
  refine jw_iload C dL_law_104 4 rfl ?_
  refine jw_bipush (v := 20) C dL_law_106 (by decide) ?_
  by_cases h20 : k = 20
  · subst h20
    refine jw_icmp_ne C 139 dL_law_108 (by decide) (fun c => absurd rfl c) (fun _ => ?_)
    have e := fSave_v (i := 0) (F := F) (by decide) rfl
    have hk2 := fSave_ok (s := nI 0) hok
    rw [e] at hk2
    refine jw_aload_n C dL_law_111 rfl 7 rfl ?_
    refine jw_iconst (v := 0) C dL_law_112 (by decide) ?_
    refine jx_save C XW hF hE hok e gL_law_X5_save (Nat.le_of_ble_eq_true rfl) (Nat.le_of_ble_eq_true rfl) ⟨Nat.le_of_ble_eq_true rfl, Nat.le_of_ble_eq_true rfl⟩ (Nat.le_of_ble_eq_true rfl) dL_law_113 (fun μ hF hE => ?_)
    refine jw_aload_n C dL_law_116 rfl 7 rfl ?_
    refine jw_iconst (v := 0) C dL_law_117 (by decide) ?_
    refine jx_count C XW hF hE hk2 count_0 gL_law_X5_count (Nat.le_of_ble_eq_true rfl) (Nat.le_of_ble_eq_true rfl) ⟨Nat.le_of_ble_eq_true rfl, Nat.le_of_ble_eq_true rfl⟩ (Nat.le_of_ble_eq_true rfl) dL_law_118 (fun μ hF hE => ?_)
    refine jw_icmp_ne C 137 dL_law_121 (by decide) (fun c => absurd rfl c) (fun _ => ?_)
    have e := fSave_v (i := 1) (F := (F.1, F.2.1, up F.2.2.1 0 (some F.1), F.2.2.2)) (by decide) rfl
    have hk3 := fSave_ok (s := nI 1) hk2
    rw [e] at hk3
    refine jw_aload_n C dL_law_124 rfl 7 rfl ?_
    refine jw_iconst (v := 1) C dL_law_125 (by decide) ?_
    refine jx_save C XW hF hE hk2 e gL_law_X5_save (Nat.le_of_ble_eq_true rfl) (Nat.le_of_ble_eq_true rfl) ⟨Nat.le_of_ble_eq_true rfl, Nat.le_of_ble_eq_true rfl⟩ (Nat.le_of_ble_eq_true rfl) dL_law_126 (fun μ hF hE => ?_)
    refine jw_aload_n C dL_law_129 rfl 7 rfl ?_
    refine jw_iconst (v := 0) C dL_law_130 (by decide) ?_
    refine jx_count C XW hF hE hk3 count_0 gL_law_X5_count (Nat.le_of_ble_eq_true rfl) (Nat.le_of_ble_eq_true rfl) ⟨Nat.le_of_ble_eq_true rfl, Nat.le_of_ble_eq_true rfl⟩ (Nat.le_of_ble_eq_true rfl) dL_law_131 (fun μ hF hE => ?_)
    refine jw_icmp_eq C 139 dL_law_134 (by decide) (fun _ => ?_) (fun c => absurd rfl c)
    exact lw_139 hN C hk40 hk3 hc hH hp (fun _ => ⟨F.1, F.1, rfl, rfl⟩) hF hE hkd hf hl hl2 hnext
  · refine jw_icmp_ne C 139 dL_law_108 (by decide) (fun _ => ?_) (fun e => absurd (nI_inj (b := 20) (by omega) (by decide) e) h20)
    exact lw_139 hN C hk40 hok hc hH hp (fun h => hs (by omega)) hF hE hkd hf hl hl2 hnext
set_option maxRecDepth 100000 in
set_option maxHeartbeats 4000000 in
theorem lw_body {K : KT} {l : Launch} {ad : Nat → Nat} {b : Nat}  (hN : kN K = 10) (C : Ctx K l cL_law RL wsL_law room_1 shW ad) {L : Nat} {xs : Nat → Int32} (hX : va_X b L xs (kS K) (kS K).heap) (hbl : b < (kS K).heap.size) (hbA : ¬ kA K b) (hL : L ≤ 260) {k c : Nat} {w : Nat → Int64} {F : FS} {μ : Mem} (hk40 : k < 40) (hI : Inv k c w F) (hF : RepF μ F) (hE : EW w μ) (hnext : ∀ c w F μ, Inv (k + 1) c w F → RepF μ F → EW w μ → JW K (2729, 120158) shW ad μ 51 [(4, .int (nI (k + 1))), (3, .int (nI c)), (2, .ref (ad 88)), (1, .ref (ad 0)), (0, .ref b)] []) : JW K (2729, 120158) shW ad μ 51 [(4, .int (nI k)), (3, .int (nI c)), (2, .ref (ad 88)), (1, .ref (ad 0)), (0, .ref b)] [] := by
  have hN_5 : 5 < kN K := by rw [hN]; decide
  have hN_6 : 6 < kN K := by rw [hN]; decide
  have hN_7 : 7 < kN K := by rw [hN]; decide
  have hN_8 : 8 < kN K := by rw [hN]; decide
  refine jw_iload C dL_law_51 0 rfl ?_
  refine jw_bipush (v := 40) C dL_law_53 (by decide) ?_
  refine jw_icmp_ge C 382 dL_law_55 (by decide) (fun c1 => absurd c1 (nI_ge (b := 40) hk40 (by decide))) (fun _ => ?_)
  refine jw_aload_n C dL_law_58 rfl 4 rfl ?_
  refine jw_iload C dL_law_59 0 rfl ?_
  refine jw_callF (E := EXs b L xs) (As := [.ref b, .int (nI k)]) (rest := []) C (fun a U g mk q => ⟨va_X.moved (u := U) (U := U.calling g mk a) (Vm.Alike.refl U.vm) q.1, q.2⟩) (fun H locs hS U hU hW => ⟨by rw [hU]; exact (hX.kept (hS.2.1 b hbl hbA)).moved hW.alike, by rw [hU]; exact Nat.lt_of_lt_of_le hbl hS.1⟩) (cnL_drawn l hL (show k < 2 ^ 31 by omega)) miL_drawn gL_law_L_drawn rfl rfl ⟨Nat.le_of_ble_eq_true rfl, Nat.le_of_ble_eq_true rfl⟩ rfl rfl (by decide) dL_law_61 ⟨Nat.le_of_ble_eq_true rfl, Nat.le_of_ble_eq_true rfl⟩ (fun v hv => ?_)
  obtain ⟨x, rfl⟩ := hv
  refine jw_istore (lw := [(5, .int _), (4, .int _), (3, .int _), (2, .ref _), (1, .ref _), (0, .ref _)]) C dL_law_64 hN_5 rfl ?_
  refine jw_iload C dL_law_66 0 rfl ?_
  refine jw_bipush (v := 9) C dL_law_68 (by decide) ?_
  refine jx_part 9 C rfl (by decide) (by decide) gL_law_L_part (Nat.le_of_ble_eq_true rfl) (Nat.le_of_ble_eq_true rfl) ⟨Nat.le_of_ble_eq_true rfl, Nat.le_of_ble_eq_true rfl⟩ (Nat.le_of_ble_eq_true rfl) dL_law_70 (fun kd hkd => ?_)
  refine jw_istore (lw := [(6, .int _), (5, .int _), (4, .int _), (3, .int _), (2, .ref _), (1, .ref _), (0, .ref _)]) C dL_law_73 hN_6 rfl ?_
  refine jw_iload C dL_law_75 1 rfl ?_
  refine jw_iconst (v := 4) C dL_law_77 (by decide) ?_
  refine jw_ishr C dL_law_78 ?_
  refine jw_bipush (v := 27) C dL_law_79 (by decide) ?_
  refine jx_part 27 C rfl (by decide) (by decide) gL_law_L_part (Nat.le_of_ble_eq_true rfl) (Nat.le_of_ble_eq_true rfl) ⟨Nat.le_of_ble_eq_true rfl, Nat.le_of_ble_eq_true rfl⟩ (Nat.le_of_ble_eq_true rfl) dL_law_81 (fun fst hfst => ?_)
  refine jw_istore (lw := [(7, .int _), (6, .int _), (5, .int _), (4, .int _), (3, .int _), (2, .ref _), (1, .ref _), (0, .ref _)]) C dL_law_84 hN_7 rfl ?_
  refine jw_iload C dL_law_86 0 rfl ?_
  refine jw_iload C dL_law_88 2 rfl ?_
  refine jw_bipush (v := 9) C dL_law_90 (by decide) ?_
  refine jw_ishr C dL_law_92 ?_
  refine jw_bipush (v := 27) C dL_law_93 (by decide) ?_
  refine jw_iload C dL_law_95 0 rfl ?_
  refine jw_isub C dL_law_97 ?_
  have e27 : (27 : Int32) - nI fst = nI (27 - fst) := nI_sub (show fst ≤ 27 by omega)
  rw [e27]
  refine jx_part (27 - fst) C rfl (by omega) (by omega) gL_law_L_part (Nat.le_of_ble_eq_true rfl) (Nat.le_of_ble_eq_true rfl) ⟨Nat.le_of_ble_eq_true rfl, Nat.le_of_ble_eq_true rfl⟩ (Nat.le_of_ble_eq_true rfl) dL_law_98 (fun g hg => ?_)
  refine jw_iadd C dL_law_101 ?_
  have el : nI fst + nI g = nI (fst + g) := nI_add fst g
  rw [el]
  refine jw_istore (lw := [(8, .int _), (7, .int _), (6, .int _), (5, .int _), (4, .int _), (3, .int _), (2, .ref _), (1, .ref _), (0, .ref _)]) C dL_law_102 hN_8 rfl ?_
  obtain ⟨i1, i2, i3, i4, i5⟩ := hI
  exact lw_104 hN C hk40 i1 i2 i3 i4 i5 hF hE hkd hfst (Nat.le_add_right _ _) (by omega) hnext
set_option maxRecDepth 100000 in
set_option maxHeartbeats 4000000 in
theorem lw_loop {K : KT} {l : Launch} {ad : Nat → Nat} {b : Nat}  (hN : kN K = 10) (C : Ctx K l cL_law RL wsL_law room_1 shW ad) {L : Nat} {xs : Nat → Int32} (hX : va_X b L xs (kS K) (kS K).heap) (hbl : b < (kS K).heap.size) (hbA : ¬ kA K b) (hL : L ≤ 260) (hend : ∀ c w F μ, Inv 40 c w F → RepF μ F → EW w μ → JW K (2729, 120158) shW ad μ 382 [(4, .int (nI 40)), (3, .int (nI c)), (2, .ref (ad 88)), (1, .ref (ad 0)), (0, .ref b)] []) : ∀ (m k c : Nat) (w : Nat → Int64) (F : FS) (μ : Mem), k + m = 40 → Inv k c w F → RepF μ F → EW w μ → JW K (2729, 120158) shW ad μ 51 [(4, .int (nI k)), (3, .int (nI c)), (2, .ref (ad 88)), (1, .ref (ad 0)), (0, .ref b)] [] := by
  intro m
  induction m with
  | zero =>
    intro k c w F μ hk hI hF hE
    obtain rfl : k = 40 := by omega
    refine jw_iload C dL_law_51 0 rfl ?_
    refine jw_bipush (v := 40) C dL_law_53 (by decide) ?_
    exact jw_icmp_ge C 382 dL_law_55 (by decide) (fun _ => hend c w F μ hI hF hE) (fun c => absurd (by decide) c)
  | succ m ih =>
    intro k c w F μ hk hI hF hE
    exact lw_body hN C hX hbl hbA hL (by omega) hI hF hE (fun c w F μ h1 h2 h3 => ih (k + 1) c w F μ (by omega) h1 h2 h3)
set_option maxRecDepth 100000 in
set_option maxHeartbeats 4000000 in
theorem lw_u {K : KT} {l : Launch} {ad : Nat → Nat} {b : Nat}  (hN : kN K = 10) (C : Ctx K l cL_law RL wsL_law room_1 shW ad) (hret : ∀ μ lv, JW K (2729, 120158) shW ad μ 468 lv [.int 1]) {c : Nat} (hc5 : 6 ≤ c) (hc : c ≤ 41) {w : Nat → Int64} {R : (Nat → Option TS) × List Nat} : ∀ (hs : List TS) (T : TS) (j : Nat) (μ : Mem), hs.length + j = 6 → FOk (T, hs, R) → (∀ i t, hs[i]? = some t → w (c - j - i) = fSeen t) → RepF μ (T, hs, R) → EW w μ → JW K (2729, 120158) shW ad μ 415 [(4, .int (nI j)), (3, .int (nI c)), (2, .ref (ad 88)), (1, .ref (ad 0)), (0, .ref b)] [] := by
  have hN_4 : 4 < kN K := by rw [hN]; decide
  intro hs
  induction hs with
  | nil =>
    intro T j μ hj hok hT hF hE
    obtain rfl : j = 6 := by simpa using hj
    refine jw_iload C dL_law_415 0 rfl ?_
    refine jw_iconst (v := 5) C dL_law_417 (by decide) ?_
    refine jw_icmp_gt C 454 dL_law_418 (by decide) (fun _ => ?_) (fun c => absurd (by decide) c)
    refine jw_aload_n C dL_law_454 rfl 3 rfl ?_
    refine jx_undo C XW hF hE hok (fUndo_0 T R) gL_law_X5_undo (Nat.le_of_ble_eq_true rfl) (Nat.le_of_ble_eq_true rfl) ⟨Nat.le_of_ble_eq_true rfl, Nat.le_of_ble_eq_true rfl⟩ (Nat.le_of_ble_eq_true rfl) dL_law_455 (fun μ hF hE => ?_)
    refine jw_bipush (v := (-5)) C dL_law_458 (by decide) ?_
    refine jw_icmp_ne C 467 dL_law_460 (by decide) (fun c => absurd rfl c) (fun _ => ?_)
    refine jw_iconst (v := 1) C dL_law_463 (by decide) ?_
    refine jw_goto (tgt := 468) C dL_law_464 (by decide) ?_
    exact hret _ _
  | cons t1 hs ih =>
    intro T j μ hj hok hT hF hE
    have hj5 : hs.length + 1 + j = 6 := by rw [List.length_cons] at hj; exact hj
    have hj5 : hs.length + 1 + j = 6 := by rw [List.length_cons] at hj; exact hj
    refine jw_iload C dL_law_415 0 rfl ?_
    refine jw_iconst (v := 5) C dL_law_417 (by decide) ?_
    refine jw_icmp_gt C 454 dL_law_418 (by decide) (fun c1 => absurd c1 (nI_nlt (a := 5) (show j ≤ 5 by omega) (by decide))) (fun _ => ?_)
    refine jw_aload_n C dL_law_421 rfl 3 rfl ?_
    have hk2 := fUndo_ok hok
    rw [fUndo_v] at hk2
    refine jx_undo C XW hF hE hok (fUndo_v T t1 hs R) gL_law_X5_undo (Nat.le_of_ble_eq_true rfl) (Nat.le_of_ble_eq_true rfl) ⟨Nat.le_of_ble_eq_true rfl, Nat.le_of_ble_eq_true rfl⟩ (Nat.le_of_ble_eq_true rfl) dL_law_422 (fun μ hF hE => ?_)
    refine jw_iconst (v := 5) C dL_law_425 (by decide) ?_
    refine jw_iload C dL_law_426 0 rfl ?_
    refine jw_isub C dL_law_428 ?_
    have ej : (5 : Int32) - nI j = nI (5 - j) := nI_sub (show j ≤ 5 by omega)
    have ehl : hs.length = 5 - j := by omega
    rw [ej, ehl]
    refine jw_icmp_ne C 446 dL_law_429 (by decide) (fun c => absurd rfl c) (fun _ => ?_)
    refine jw_aload_n C dL_law_432 rfl 3 rfl ?_
    refine jx_seen C XW hF hE hk2 gL_law_L_seen (Nat.le_of_ble_eq_true rfl) (Nat.le_of_ble_eq_true rfl) ⟨Nat.le_of_ble_eq_true rfl, Nat.le_of_ble_eq_true rfl⟩ (Nat.le_of_ble_eq_true rfl) dL_law_433 (fun μ hF hE => ?_)
    refine jw_aload_n C dL_law_436 rfl 2 rfl ?_
    refine jw_iload_n C dL_law_437 rfl 1 rfl ?_
    refine jw_iload C dL_law_438 0 rfl ?_
    refine jw_isub C dL_law_440 ?_
    have ec : nI c - nI j = nI (c - j) := nI_sub (show j ≤ c by omega)
    rw [ec]
    refine jw_lald C rfl (show shW[88]? = some (.inl (4, 64)) from rfl) (vinI (show c - j < 64 by omega) (by decide)) dL_law_441 ?_
    have hw := hT 0 t1 rfl
    rw [nI_clamp (show c - j < 2 ^ 31 by omega), hE (c - j) (by omega), show w (c - j) = fSeen t1 from hw]
    refine jw_lcmp C dL_law_442 ?_
    refine jw_if_eq C 448 dL_law_443 (by decide) (fun _ => ?_) (fun c => absurd ((lg_cmp_eq _ _).mpr rfl) c)
    refine jw_iinc (lw := [(4, .int (nI (j + 1))), (3, .int _), (2, .ref _), (1, .ref _), (0, .ref _)]) (q := 0) C dL_law_448 rfl (show nI j + Int32.ofInt 1 = nI (j + 1) from nI_add j 1) hN_4 rfl ?_
    refine jw_goto (tgt := 415) C dL_law_451 (by decide) ?_
    exact ih t1 (j + 1) μ (by rw [List.length_cons] at hj; omega) hk2 (fun i t hi => by have := hT (i + 1) t (by rw [List.getElem?_cons_succ]; exact hi); rw [← this]; congr 1; omega) hF hE
set_option maxRecDepth 100000 in
set_option maxHeartbeats 4000000 in
theorem lw_end {K : KT} {l : Launch} {ad : Nat → Nat} {b : Nat}  (hN : kN K = 10) (C : Ctx K l cL_law RL wsL_law room_1 shW ad) (hret : ∀ μ lv, JW K (2729, 120158) shW ad μ 468 lv [.int 1]) {c : Nat} {w : Nat → Int64} {F : FS} {μ : Mem} (hI : Inv 40 c w F) (hF : RepF μ F) (hE : EW w μ) : JW K (2729, 120158) shW ad μ 382 [(4, .int (nI 40)), (3, .int (nI c)), (2, .ref (ad 88)), (1, .ref (ad 0)), (0, .ref b)] [] := by
  have hN_4 : 4 < kN K := by rw [hN]; decide
  obtain ⟨hok, i2, i3, i4, i5⟩ := hI
  obtain ⟨t0, t1, hs0, -⟩ := i5 (by decide)
  have hc41 : c ≤ 41 := by simpa using i2
  have hc20 : 20 ≤ c := by rcases i4 with ⟨-, h⟩ | ⟨-, h⟩ <;> omega
  have e := fRest_v (i := 0) (F := F) (by decide) hs0 rfl
  have hk2 := fRest_ok (s := nI 0) hok
  rw [e] at hk2
  refine jw_aload_n C dL_law_382 rfl 3 rfl ?_
  refine jw_iconst (v := 0) C dL_law_383 (by decide) ?_
  refine jx_restore C XW hF hE hok e gL_law_X5_restore (Nat.le_of_ble_eq_true rfl) (Nat.le_of_ble_eq_true rfl) ⟨Nat.le_of_ble_eq_true rfl, Nat.le_of_ble_eq_true rfl⟩ (Nat.le_of_ble_eq_true rfl) dL_law_384 (fun μ hF hE => ?_)
  refine jw_aload_n C dL_law_387 rfl 3 rfl ?_
  refine jw_iconst (v := 0) C dL_law_388 (by decide) ?_
  refine jx_count C XW hF hE hk2 count_0 gL_law_X5_count (Nat.le_of_ble_eq_true rfl) (Nat.le_of_ble_eq_true rfl) ⟨Nat.le_of_ble_eq_true rfl, Nat.le_of_ble_eq_true rfl⟩ (Nat.le_of_ble_eq_true rfl) dL_law_389 (fun μ hF hE => ?_)
  refine jw_icmp_ne C 410 dL_law_392 (by decide) (fun c => absurd rfl c) (fun _ => ?_)
  refine jw_aload_n C dL_law_395 rfl 3 rfl ?_
  have hl6 : F.2.1.length = 6 := by rw [i3.1]; omega
  have et : (F.1 :: F.2.1).take 6 = F.1 :: F.2.1.take 5 := rfl
  have hk3 := fUndo_ok hk2
  have eu : fUndo (fGo F t0) = (5, F.1, F.2.1.take 5, F.2.2) := by
    show (nI (F.2.1.take 5).length, _) = _
    rw [List.length_take, hl6]
    rfl
  rw [eu] at hk3
  refine jx_undo C XW hF hE hk2 eu gL_law_X5_undo (Nat.le_of_ble_eq_true rfl) (Nat.le_of_ble_eq_true rfl) ⟨Nat.le_of_ble_eq_true rfl, Nat.le_of_ble_eq_true rfl⟩ (Nat.le_of_ble_eq_true rfl) dL_law_396 (fun μ hF hE => ?_)
  refine jw_iconst (v := 5) C dL_law_399 (by decide) ?_
  refine jw_icmp_ne C 410 dL_law_400 (by decide) (fun c => absurd rfl c) (fun _ => ?_)
  refine jw_aload_n C dL_law_403 rfl 3 rfl ?_
  refine jx_refused C XW hF hE hk3 gL_law_L_refused (Nat.le_of_ble_eq_true rfl) (Nat.le_of_ble_eq_true rfl) ⟨Nat.le_of_ble_eq_true rfl, Nat.le_of_ble_eq_true rfl⟩ (Nat.le_of_ble_eq_true rfl) dL_law_404 (fun μ hF hE => ?_)
  refine jw_if_ne C 412 dL_law_407 (by decide) (fun _ => ?_) (fun c => absurd c (by decide))
  refine jw_iconst (v := 1) C dL_law_412 (by decide) ?_
  refine jw_istore (lw := [(4, .int _), (3, .int _), (2, .ref _), (1, .ref _), (0, .ref _)]) C dL_law_413 hN_4 rfl ?_
  refine lw_u hN C hret (by omega) hc41 (F.2.1.take 5) F.1 1 μ (by rw [List.length_take, hl6]; rfl) hk3 (fun i t hi => ?_) hF hE
  rw [List.getElem?_take] at hi
  split at hi
  · exact i3.2 i t hi
  · cases hi
