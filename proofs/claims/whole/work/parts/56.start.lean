/-! THE LAW: its loop, its start -/
theorem jw_tabIn {K : KT} {l : Launch} {cc : ByteArray} {own : String} {Ts : List Cond} {rm : Room} {sh : List Ds} {ad : Nat → Nat} {cs : Nat × Nat} {μ : Mem} {pc : Nat} {lv : List (Nat × Value)} {rest : List Value} (C : Ctx K l cc own Ts rm sh ad) {dflt lo hi : Int} {offs : Array Int} {len : Nat} {x : Int32} {off : Int} {tgt : Nat} (d : decode cc pc = .ok (.tableswitch dflt lo hi offs, len)) (h1 : ¬ x.toInt < lo) (h2 : ¬ hi < x.toInt) (ho : offs[(x.toInt - lo).toNat]? = some off) (ht : (pc : Int) + off = (tgt : Int)) (kk : JW K cs sh ad μ tgt lv rest) : JW K cs sh ad μ pc lv (.int x :: rest) := fun H locs ls hP hS hl => lv_tableIn C.x C.b d h1 h2 ho ht (kk H locs ls hP hS hl)
theorem jw_tabOut {K : KT} {l : Launch} {cc : ByteArray} {own : String} {Ts : List Cond} {rm : Room} {sh : List Ds} {ad : Nat → Nat} {cs : Nat × Nat} {μ : Mem} {pc : Nat} {lv : List (Nat × Value)} {rest : List Value} (C : Ctx K l cc own Ts rm sh ad) {dflt lo hi : Int} {offs : Array Int} {len : Nat} {x : Int32} {tgt : Nat} (d : decode cc pc = .ok (.tableswitch dflt lo hi offs, len)) (h : x.toInt < lo ∨ hi < x.toInt) (ht : (pc : Int) + dflt = (tgt : Int)) (kk : JW K cs sh ad μ tgt lv rest) : JW K cs sh ad μ pc lv (.int x :: rest) := fun H locs ls hP hS hl => lv_tableOut C.x C.b d h ht (kk H locs ls hP hS hl)
theorem neg_5 : ∀ L, L < 5 → nI L - (5 : Int32) < 0 := by decide +kernel
theorem gt_5 {L i : Nat} (hL : L ≤ 2560) (hi : i < 2 ^ 31) (h : ¬ i + 5 ≤ L) : nI L - (5 : Int32) < nI i := by
  rcases Nat.lt_or_ge L 5 with g | g
  · have h1 := neg_5 L g
    rw [Int32.lt_iff_toInt_lt] at h1 ⊢
    rw [nI_toInt hi]
    have : (0 : Int32).toInt = 0 := by decide
    omega
  · rw [li 5, nI_sub g]
    exact nI_lt (by omega) hi
theorem le_5 {L i : Nat} (hL : L ≤ 2560) (h : i + 5 ≤ L) : ¬ nI L - (5 : Int32) < nI i := by
  rw [li 5, nI_sub (by omega)]
  exact nI_nlt (by omega) (by omega)
set_option maxRecDepth 100000 in
set_option maxHeartbeats 4000000 in
theorem law_loop {K : KT} {l : Launch} {b L : Nat} {xs : Nat → Int32} {ad : Nat → Nat} (hN : kN K = 4) (C : Ctx K l cL_law RL wsL_law room_1 shL ad) (hX : va_X b L xs (kS K) (kS K).heap) (hbl : b < (kS K).heap.size) (hbA : ¬ kA K b) (hL : L ≤ 2560) (hend : ∀ μ lv, JW K csL shL ad μ 701 lv []) : ∀ (n i : Nat) (μ : Mem) (F : FS), L + 1 ≤ i + n → i < 2 ^ 30 → RepF μ F → RepM (fun k => μ (88 + k)) F → FOk F → JW K csL shL ad μ 18 (lvL b ad i) [] := by
  have hN_3 : 3 < kN K := by rw [hN]; decide
  intro n
  induction n with
  | zero =>
    intro i μ F hn hi hF hM hok
    refine jw_iload_n C dL_law_18 rfl 0 rfl ?_
    refine jw_aload_n C dL_law_19 rfl 1 rfl ?_
    refine jw_slen C hX hbl hbA dL_law_20 ?_
    refine jw_iconst (v := 5) C dL_law_21 (by decide) ?_
    refine jw_isub C dL_law_22 ?_
    exact jw_icmp_gt C 701 dL_law_23 (by decide) (fun _ => hend _ _) (fun c => absurd (gt_5 hL (by omega) (by omega)) c)
  | succ n ih =>
    intro i μ F hn hi hF hM hok
    refine jw_iload_n C dL_law_18 rfl 0 rfl ?_
    refine jw_aload_n C dL_law_19 rfl 1 rfl ?_
    refine jw_slen C hX hbl hbA dL_law_20 ?_
    refine jw_iconst (v := 5) C dL_law_21 (by decide) ?_
    refine jw_isub C dL_law_22 ?_
    by_cases hiL : i + 5 ≤ L
    · refine jw_icmp_gt C 701 dL_law_23 (by decide) (fun c => absurd c (le_5 hL hiL)) (fun _ => ?_)
      have hnext : ∀ μ' F', RepF μ' F' → RepM (fun k => μ' (88 + k)) F' → FOk F' → JW K csL shL ad μ' 695 (lvL b ad i) [] := fun μ' F' h1 h2 h3 => by
        refine jw_iinc (lw := lvL b ad (i + 5)) (q := 0) C dL_law_695 rfl (show nI i + Int32.ofInt 5 = nI (i + 5) from nI_add i 5) hN_3 rfl ?_
        refine jw_goto (tgt := 18) C dL_law_698 (by decide) ?_
        exact ih (i + 5) μ' F' (by omega) (by omega) h1 h2 h3
      refine jw_aload_n C dL_law_26 rfl 1 rfl ?_
      refine jw_iload_n C dL_law_27 rfl 0 rfl ?_
      refine jw_sld C hX hbl hbA (vinI (show i < L by omega) (by omega)) dL_law_28 ?_
      refine jw_bipush (v := 31) C dL_law_29 (by decide) ?_
      refine jw_iand C dL_law_31 ?_
      obtain ⟨w, -, ew⟩ := wb_of32 (xs (nI i).toNatClampNeg)
      have ek : xs (nI i).toNatClampNeg &&& (31 : Int32) = nI (w % 2 ^ 5) := by rw [ew]; exact nI_mask w 5
      rw [ek]
      have hk : w % 2 ^ 5 < 32 := Nat.mod_lt _ (by decide)
      generalize w % 2 ^ 5 = k at hk
      rcases (show k = 0 ∨ k = 1 ∨ k = 2 ∨ k = 3 ∨ k = 4 ∨ k = 5 ∨ k = 6 ∨ k = 7 ∨ k = 8 ∨ k = 9 ∨ k = 10 ∨ k = 11 ∨ k = 12 ∨ k = 13 ∨ k = 14 ∨ k = 15 ∨ k = 16 ∨ k = 17 ∨ k = 18 ∨ k = 19 ∨ k = 20 ∨ 21 ≤ k by omega) with rfl | rfl | rfl | rfl | rfl | rfl | rfl | rfl | rfl | rfl | rfl | rfl | rfl | rfl | rfl | rfl | rfl | rfl | rfl | rfl | rfl | h21
      · exact jw_tabIn C dL_law_32 (off := 100) (tgt := 132) (by decide) (by decide) (by decide) (by decide) (lwc_set C hX hbl hbA hiL hL hF hM hok hnext)
      · exact jw_tabIn C dL_law_32 (off := 133) (tgt := 165) (by decide) (by decide) (by decide) (by decide) (lwc_send C hX hbl hbA hiL hL hF hM hok hnext)
      · exact jw_tabIn C dL_law_32 (off := 186) (tgt := 218) (by decide) (by decide) (by decide) (by decide) (lwc_empty C hX hbl hbA hiL hL hF hM hok hnext)
      · exact jw_tabIn C dL_law_32 (off := 209) (tgt := 241) (by decide) (by decide) (by decide) (by decide) (lwc_read C hX hbl hbA hiL hL hF hM hok hnext)
      · exact jw_tabIn C dL_law_32 (off := 232) (tgt := 264) (by decide) (by decide) (by decide) (by decide) (lwc_stone C hX hbl hbA hiL hL hF hM hok hnext)
      · exact jw_tabIn C dL_law_32 (off := 275) (tgt := 307) (by decide) (by decide) (by decide) (by decide) (lwc_ofNode C hX hbl hbA hiL hL hF hM hok hnext)
      · exact jw_tabIn C dL_law_32 (off := 308) (tgt := 340) (by decide) (by decide) (by decide) (by decide) (lwc_ofKey C hX hbl hbA hiL hL hF hM hok hnext)
      · exact jw_tabIn C dL_law_32 (off := 341) (tgt := 373) (by decide) (by decide) (by decide) (by decide) (lwc_count C hX hbl hbA hiL hL hF hM hok hnext)
      · exact jw_tabIn C dL_law_32 (off := 364) (tgt := 396) (by decide) (by decide) (by decide) (by decide) (lwc_sum C hX hbl hbA hiL hL hF hM hok hnext)
      · exact jw_tabIn C dL_law_32 (off := 397) (tgt := 429) (by decide) (by decide) (by decide) (by decide) (lwc_heaviest C hX hbl hbA hiL hL hF hM hok hnext)
      · exact jw_tabIn C dL_law_32 (off := 420) (tgt := 452) (by decide) (by decide) (by decide) (by decide) (lwc_wouldSink C hX hbl hbA hiL hL hF hM hok hnext)
      · exact jw_tabIn C dL_law_32 (off := 443) (tgt := 475) (by decide) (by decide) (by decide) (by decide) (lwc_worstKey C hX hbl hbA hiL hL hF hM hok hnext)
      · exact jw_tabIn C dL_law_32 (off := 466) (tgt := 498) (by decide) (by decide) (by decide) (by decide) (lwc_toEmptyAll C hX hbl hbA hiL hL hF hM hok hnext)
      · exact jw_tabIn C dL_law_32 (off := 479) (tgt := 511) (by decide) (by decide) (by decide) (by decide) (lwc_same C hX hbl hbA hiL hL hF hM hok hnext)
      · exact jw_tabIn C dL_law_32 (off := 512) (tgt := 544) (by decide) (by decide) (by decide) (by decide) (lwc_put C hX hbl hbA hiL hL hF hM hok hnext)
      · exact jw_tabIn C dL_law_32 (off := 565) (tgt := 597) (by decide) (by decide) (by decide) (by decide) (lwc_wipe C hX hbl hbA hiL hL hF hM hok hnext)
      · exact jw_tabIn C dL_law_32 (off := 578) (tgt := 610) (by decide) (by decide) (by decide) (by decide) (lwc_fault C hX hbl hbA hiL hL hF hM hok hnext)
      · exact jw_tabIn C dL_law_32 (off := 591) (tgt := 623) (by decide) (by decide) (by decide) (by decide) (lwc_carryOut C hX hbl hbA hiL hL hF hM hok hnext)
      · exact jw_tabIn C dL_law_32 (off := 604) (tgt := 636) (by decide) (by decide) (by decide) (by decide) (lwc_undo C hX hbl hbA hiL hL hF hM hok hnext)
      · exact jw_tabIn C dL_law_32 (off := 617) (tgt := 649) (by decide) (by decide) (by decide) (by decide) (lwc_save C hX hbl hbA hiL hL hF hM hok hnext)
      · exact jw_tabIn C dL_law_32 (off := 640) (tgt := 672) (by decide) (by decide) (by decide) (by decide) (lwc_restore C hX hbl hbA hiL hL hF hM hok hnext)
      · exact jw_tabOut C dL_law_32 (tgt := 695) (Or.inr (by rw [nI_toInt (by omega)]; omega)) (by decide) (hnext μ F hF hM hok)
    · exact jw_icmp_gt C 701 dL_law_23 (by decide) (fun _ => hend _ _) (fun c => absurd (gt_5 hL (by omega) hiL) c)
/-! the first state -/
def w0 : WT := (fun _ => ([], 0, 0, 0), fun _ => none, 0)
def t00 : TS := (4, 1, 0, 0, w0)
def F00 : FS := (t00, [], fun _ => none, [])
theorem F00_ok : FOk F00 := by
  refine ⟨⟨by decide, by decide, by decide, fun k _ x h => (by cases h), fun n _ => ⟨Nat.zero_le _, fun s h => (by cases h)⟩⟩, fun t h => (by cases h), fun i t h => (by cases h), Nat.zero_le _, Nat.zero_le _, fun c h => (by cases h)⟩
theorem mT_0 {k j : Nat} (h : k ≠ 1) (h2 : k ≠ 2) : mT 27 k j = 0 := by
  unfold mT
  rw [if_neg (by omega), if_neg (by omega), if_neg (by omega)]
theorem RepT_0 : RepT (mT 27) t00 := by
  refine ⟨rfl, rfl, rfl, rfl, fun n hn => ⟨⟨?_, fun i s h => (by cases h)⟩, ?_, ?_, ?_⟩, fun k hk => ?_, rfl⟩
  · exact mT_0 (by decide) (by decide)
  · exact mT_0 (by decide) (by decide)
  · exact mT_0 (by decide) (by decide)
  · exact mT_0 (by decide) (by decide)
  · show mT 27 2 k = -6
    unfold mT
    rw [if_neg (by omega), if_neg (by omega), if_pos ⟨rfl, hk⟩]
theorem mM_0 {k j : Nat} (h : ¬ (k = 1 ∧ (j = 0 ∨ j = 1 ∨ (6 ≤ j ∧ j < 33)))) : mM 27 k j = 0 := by
  unfold mM
  rw [if_neg (by omega), if_neg (by omega), if_neg (by omega)]
theorem RepM_0 : RepM (mM 27) F00 := by
  refine ⟨⟨rfl, rfl, rfl, rfl, fun n hn => ⟨⟨?_, fun i s h => (by cases h)⟩, ?_, ?_, ?_⟩, fun k hk => ?_, rfl, rfl⟩, ⟨Nat.zero_le _, rfl, fun j t h => (by cases h)⟩, fun i hi => mM_0 (by omega), rfl, fun i c h => (by cases h)⟩
  · exact mM_0 (by omega)
  · exact mM_0 (by omega)
  · exact mM_0 (by omega)
  · exact mM_0 (by omega)
  · show mM 27 1 (6 + k) = -6
    unfold mM
    rw [if_neg (by omega), if_neg (by omega), if_pos (by omega)]
theorem RepF_0 {μ : Mem} (h : QX μ) : RepF μ F00 := by
  obtain ⟨h1, h2, h3, h4, -⟩ := h
  refine ⟨RepT_congr (fun k hk => h1 k hk) RepT_0, ⟨Nat.zero_le _, 0, by decide, congrFun h2 0, congrFun h2 1, fun j t h => (by cases h)⟩, fun i hi => congrFun h3 i, congrFun h4 0, fun i c h => (by cases h)⟩
theorem kindK {s : State} {args : Array Value} {ty : FieldType} (h : (Cond.arrayClass ty).before args s = true) : ∃ cA : ClassId, ArrOfT s cA ty ∧ s.vm.findClass ("[" ++ ty.toString) = some cA := by
  obtain ⟨cA, kA, comp, h1, h2, h3⟩ := Cond.arrayClass_spec h
  exact ⟨cA, fun n z => ⟨fun k h => (by cases h), kA, h2, comp, h3⟩, h1⟩
theorem kindO {s : State} {args : Array Value} {C : String} (h : (Cond.arrayOver (.object C)).before args s = true) : ∃ cA : ClassId, ArrOfT s cA (.object C) ∧ va_RA s cA (.object C) := by
  obtain ⟨comp, cA, kA, h1, h2, h3, h4, h5⟩ := Cond.arrayOver_spec h
  exact ⟨cA, fun n z => ⟨fun k h => (by cases h), kA, h3, comp, h4⟩, kA, comp, h3, h4, h1, h5⟩
set_option maxRecDepth 100000 in
set_option maxHeartbeats 4000000 in
theorem kSt_0 {s : State} {b : Nat} (hts : ∀ w ∈ lw_tbl, w.before #[Value.ref b] s = true) (hgv : (Jvm.Cond.and given_1 narrow_1).before #[Value.ref b] s = true) : kSt (fun q : Nat => s.heap.size ≤ q) s s.heap := by
  have hs := flat_of_before _ hgv
  have hA : ∀ a : Nat, a < s.heap.size → ¬ (fun q : Nat => s.heap.size ≤ q) a := fun a h q => absurd h (Nat.not_lt.mpr q)
  obtain ⟨t1, e1, hT1⟩ := va_Tof (tm := .static RX2 "FIRST_KEYS" "[I") (ty := .int) (N := 13) (f := fun j => .int (tbF j)) (A := fun q : Nat => s.heap.size ≤ q) (by decide) (hs (.arrayOf (.static RX2 "FIRST_KEYS" "[I") .int) (by decide +kernel)) (va_eqt (hs (.eq (.length (.static RX2 "FIRST_KEYS" "[I")) (.int 13)) (by decide +kernel))) (fun j hj => by
    rcases (show j = 0 ∨ j = 1 ∨ j = 2 ∨ j = 3 ∨ j = 4 ∨ j = 5 ∨ j = 6 ∨ j = 7 ∨ j = 8 ∨ j = 9 ∨ j = 10 ∨ j = 11 ∨ j = 12 by omega) with rfl | rfl | rfl | rfl | rfl | rfl | rfl | rfl | rfl | rfl | rfl | rfl | rfl <;> exact va_eqt (hs _ (by decide +kernel))) hA
  obtain ⟨t2, e2, hT2⟩ := va_Tof (tm := .static RX2 "KEYS_OF_CHILD" "[I") (ty := .int) (N := 13) (f := fun j => .int (tbK j)) (A := fun q : Nat => s.heap.size ≤ q) (by decide) (hs (.arrayOf (.static RX2 "KEYS_OF_CHILD" "[I") .int) (by decide +kernel)) (va_eqt (hs (.eq (.length (.static RX2 "KEYS_OF_CHILD" "[I")) (.int 13)) (by decide +kernel))) (fun j hj => by
    rcases (show j = 0 ∨ j = 1 ∨ j = 2 ∨ j = 3 ∨ j = 4 ∨ j = 5 ∨ j = 6 ∨ j = 7 ∨ j = 8 ∨ j = 9 ∨ j = 10 ∨ j = 11 ∨ j = 12 by omega) with rfl | rfl | rfl | rfl | rfl | rfl | rfl | rfl | rfl | rfl | rfl | rfl | rfl <;> exact va_eqt (hs _ (by decide +kernel))) hA
  exact ⟨t1, t2, va_Zof (hts _ (by decide +kernel)) (hts (.initialized RX2) (by decide +kernel)) e1 hA, hT1, va_Zof (hts _ (by decide +kernel)) (hts (.initialized RX2) (by decide +kernel)) e2 hA, hT2⟩
theorem wLi (k : Nat) {w : Cond} (h : wsL_law[k]? = some w) : w ∈ wsL_law := List.mem_of_getElem? h
set_option maxRecDepth 100000 in
set_option maxHeartbeats 8000000 in
theorem law_start {K : KT} {l : Launch} {b L : Nat} {xs : Nat → Int32} (hN : kN K = 4) (C : Ctx K l cL_law RL wsL_law room_1 [] (fun _ => 0)) (hE : EX5 (kS K)) (hX : va_X b L xs (kS K) (kS K).heap) (hbl : b < (kS K).heap.size) (hbA : ¬ kA K b) (hL : L ≤ 2560) (hend : ∀ ad μ lv, Ctx K l cL_law RL wsL_law room_1 shL ad → JW K csL shL ad μ 701 lv []) : JW K (0, 0) [] (fun _ => 0) μ0 0 [(0, .ref b)] [] := by
  have hN_1 : 1 < kN K := by rw [hN]; decide
  have hN_2 : 2 < kN K := by rw [hN]; decide
  have hN_3 : 3 < kN K := by rw [hN]; decide
  refine jw_new C inlX5 tyX5 tyX5_ok (wLi 0 rfl) (wLi 1 rfl) (wLi 2 rfl) (ci := 3) (N := 6) (fs := [.inl 0, .inl 0, .inl 0, .inl 0, .inl 0, .inl 0]) rfl (fun j hj => by rcases (show j = 0 ∨ j = 1 ∨ j = 2 ∨ j = 3 ∨ j = 4 ∨ j = 5 by omega) with rfl | rfl | rfl | rfl | rfl | rfl <;> rfl) rfl (Nat.le_of_ble_eq_true rfl) (Nat.le_of_ble_eq_true rfl) rfl rfl dL_law_0 (fun q1 C1 => ?_)
  refine jw_dup C1 dL_law_3 rfl ?_
  refine jw_callG (sh := []) C1 (fun a U g mk q => ⟨va_AO.moved (u := U) (U := U.calling g mk a) (Vm.Alike.refl U.vm) q.1, va_Nw.same rfl rfl q.2⟩) (fun U hW => ⟨va_AO.moved hW.alike hE.1, va_Nw.warmM hW hE.2⟩) (cgX5_init l) rfl rfl rfl rfl gL_law_X5_init rfl (wLi 2 rfl) (wLi 7 rfl) (wLi 8 rfl) rfl (by decide) rfl rfl ⟨(Nat.le_of_ble_eq_true rfl), (Nat.le_of_ble_eq_true rfl)⟩ (Nat.le_of_ble_eq_true rfl) dL_law_4 ⟨(Nat.le_of_ble_eq_true rfl), (Nat.le_of_ble_eq_true rfl)⟩ (fun ad1 μ1 hA1 hlo1 hQ1 C2 => ?_)
  have w1 : ad1 0 = q1 := hA1 0 (by decide)
  have hQX : QX μ1 := by
    have e : (fun k => μ1 (([] : List Ds).length + k)) = μ1 := by funext k; show μ1 (0 + k) = μ1 k; rw [Nat.zero_add]
    rw [e] at hQ1
    exact hQ1
  have eL : gro ([] : List Ds).length [] shX = shX := by decide +kernel
  refine jw_lay eL ?_
  have C2 : Ctx K l cL_law RL wsL_law room_1 shX ad1 := by rw [eL] at C2; exact C2
  refine jw_astore_n (lw := [(1, .ref _), (0, .ref _)]) C2 dL_law_7 rfl hN_1 rfl ?_
  have m88 : μ1 shX.length = fun _ => 0 := hQX.2.2.2.2 88 (by decide)
  refine jw_new C2 inlX6 tyX6 tyX6_ok (wLi 3 rfl) (wLi 4 rfl) (wLi 5 rfl) (ci := 4) (N := 15) (fs := [.inl 0, .inl 0, .inr 0, .inl 0, .inl 0, .inl 0, .inl 0, .inl 0, .inl 0, .inr 1, .inr 2, .inl 0, .inr 3, .inr 4, .inr 5]) rfl (fun j hj => by rcases (show j = 0 ∨ j = 1 ∨ j = 2 ∨ j = 3 ∨ j = 4 ∨ j = 5 ∨ j = 6 ∨ j = 7 ∨ j = 8 ∨ j = 9 ∨ j = 10 ∨ j = 11 ∨ j = 12 ∨ j = 13 ∨ j = 14 by omega) with rfl | rfl | rfl | rfl | rfl | rfl | rfl | rfl | rfl | rfl | rfl | rfl | rfl | rfl | rfl <;> rfl) rfl (Nat.le_of_ble_eq_true rfl) (Nat.le_of_ble_eq_true rfl) (by decide +kernel) m88 dL_law_8 (fun q2 C3 => ?_)
  refine jw_dup C3 dL_law_11 rfl ?_
  refine jw_callG C3 (fun _ _ _ _ _ => trivial) (fun _ _ => trivial) (cgX6_init l) (by decide +kernel) rfl m88 (adN_n _ _ _) gL_law_X6_init rfl (wLi 5 rfl) (wLi 54 rfl) (wLi 55 rfl) rfl (by decide) rfl rfl ⟨(Nat.le_of_ble_eq_true rfl), (Nat.le_of_ble_eq_true rfl)⟩ (Nat.le_of_ble_eq_true rfl) dL_law_12 ⟨(Nat.le_of_ble_eq_true rfl), (Nat.le_of_ble_eq_true rfl)⟩ (fun ad2 μ2 hA2 hlo2 hQ2 C4 => ?_)
  have hlen : shX.length = 88 := rfl
  rw [hlen] at hA2 hlo2 hQ2
  have w2 : ad2 0 = q1 := ((hA2 0 (by decide)).trans (adN_k _ _ (by decide))).trans w1
  have w3 : ad2 88 = q2 := (hA2 88 (by decide)).trans (adN_n _ _ _)
  have eL2 : gro shX.length shX shM = shL := by decide +kernel
  refine jw_lay eL2 ?_
  have C4 : Ctx K l cL_law RL wsL_law room_1 shL ad2 := by rw [eL2] at C4; exact C4
  refine jw_astore_n (lw := [(2, .ref _), (1, .ref _), (0, .ref _)]) C4 dL_law_15 rfl hN_2 rfl ?_
  refine jw_iconst (v := 0) C4 dL_law_16 (by decide) ?_
  refine jw_istore_n (lw := [(3, .int _), (2, .ref _), (1, .ref _), (0, .ref _)]) C4 dL_law_17 rfl hN_3 rfl ?_
  refine jw_sub (lw := [(3, .int 0), (0, .ref b), (1, .ref q1), (2, .ref q2)]) [0, 3, 2, 1] rfl ?_
  rw [← w2, ← w3]
  have hF : RepF μ2 F00 := RepF_c (fun k hk => hlo2 k hk) (RepF_0 hQX)
  have hM : RepM (fun k => μ2 (88 + k)) F00 := by rw [hQ2]; exact RepM_0
  exact law_loop hN C4 hX hbl hbA hL (fun μ lv => hend ad2 μ lv C4) (L + 1) 0 μ2 F00 (by omega) (by decide) hF hM F00_ok
