/-! part and drawn -/
abbrev rmL_part : Room := { frames := 1, cells := 0, slots := 0, locals := 20 }
abbrev rmL_drawn : Room := { frames := 1, cells := 0, slots := 0, locals := 20 }
theorem miL_part : MI yL_part wsL_part cL_part 2 (some .int) 2 := ⟨⟨_, rfl⟩, by decide, by decide, by decide +kernel⟩
theorem miL_drawn : MI yL_drawn wsL_drawn cL_drawn 2 (some .int) 2 := ⟨⟨_, rfl⟩, by decide, by decide, by decide +kernel⟩
set_option maxRecDepth 100000 in
set_option maxHeartbeats 4000000 in
theorem cnL_part (l : Launch) (x : Int32) {m : Nat} (h1 : 1 ≤ m) (h2 : m < 2 ^ 31) (μ : Mem) : Con l yL_part wsL_part rmL_part [] (fun _ => [.int x, .int (nI m)]) μ (pI fun r _ => ∃ k, k < m ∧ r = nI k) := by
  refine Con.mk (cc := cL_part) (maxL := 2) (ret := (some .int)) (own := RL) (by decide) rfl rfl (fun _ => Nat.le_of_ble_eq_true rfl) (fun K ad hN G => ?_)
  show JW K (0, 0) [] ad μ 0 [(0, .int x), (1, .int (nI m))] []
  have C := G.1
  obtain ⟨w, -, rfl⟩ := wb_of32 x
  have em : nI w &&& (2147483647 : Int32) = nI (w % 2 ^ 31) := nI_mask w 31
  have hw : w % 2 ^ 31 < 2 ^ 31 := Nat.mod_lt _ (by decide)
  refine jw_iload_n C dL_part_0 rfl 0 rfl ?_
  refine jw_ldc (v := 2147483647) C (List.mem_of_getElem? (i := 1) rfl) dL_part_1 ?_
  refine jw_iand C dL_part_3 ?_
  refine jw_iload_n C dL_part_4 rfl 1 rfl ?_
  refine jw_irem C dL_part_5 (fun e => absurd (nI_inj (b := 0) h2 (by decide) e) (by omega)) ?_
  refine jw_iret (Q := fun r _ => ∃ k, k < m ∧ r = nI k) G ⟨w % 2 ^ 31 % m, Nat.mod_lt _ (by omega), ?_⟩ dL_part_6
  rw [em]
  exact nI_rem hw h2
theorem jx_part {K : KT} {l : Launch} {cc : ByteArray} {own : String} {Ts : List Cond} {rm : Room} {sh : List Ds} {ad : Nat → Nat} {cs : Nat × Nat} {μ : Mem} {pc index : Nat} {lv : List (Nat × Value)} {rest : List Value} {x y : Int32} (m : Nat) (C : Ctx K l cc own Ts rm sh ad) (hy : y = nI m) (h1 : 1 ≤ m) (h2 : m < 2 ^ 31) (hG : GoodIn Ts (va_wsS own index yL_part wsL_part)) (hfr : 30 ≤ rm.frames) (hlo : 1200 ≤ rm.locals) (hcs : cs.1 ≤ rm.cells ∧ cs.2 ≤ rm.slots) (hW : (rest.map fun v => v.category).sum ≤ 8) (d : decode cc pc = .ok (.invokestatic index, 3)) (kk : ∀ k, k < m → JW K cs sh ad μ (pc + 3) lv (.int (nI k) :: rest)) : JW K cs sh ad μ pc lv (.int y :: .int x :: rest) := by
  subst hy
  refine jw_eSI (Q := fun r => ∃ k, k < m ∧ r = nI k) (rest := rest) (As := [.int x, .int (nI m)]) C d (cnL_part l x h1 h2 μ) miL_part hG ⟨rfl, rfl, Nat.le_trans (Nat.le_of_ble_eq_true rfl) hfr, Nat.le_trans (Nat.le_of_ble_eq_true rfl) hlo⟩ rfl rfl rfl hW hcs (fun r h => ?_)
  obtain ⟨k, hk, rfl⟩ := h
  exact kk k hk
def EXs (b L : Nat) (xs : Nat → Int32) : State → Prop := fun U => va_X b L xs U U.heap ∧ b < U.heap.size

set_option maxRecDepth 100000 in
set_option maxHeartbeats 4000000 in
theorem cnL_drawn (l : Launch) {b L k : Nat} {xs : Nat → Int32} (hL : L ≤ 260) (hk : k < 2 ^ 31) : ConF l yL_drawn wsL_drawn rmL_drawn (EXs b L xs) [.ref b, .int (nI k)] (fun v => ∃ r, v = some (.int r)) 0 0 := by
  refine ConF.mk (cc := cL_drawn) (maxL := 2) (ret := (some .int)) (own := RL) (by decide) rfl rfl (Nat.le_of_ble_eq_true rfl) (fun K hN G => ?_)
  show JW K (0, 0) [] (fun _ => 0) μ0 0 [(0, .ref b), (1, .int (nI k))] []
  have C := G.1
  obtain ⟨hX, hbl⟩ := G.2.2.2.2.1
  have hbA : ¬ kA K b := by rw [G.2.2.2.2.2]; exact Nat.not_le.mpr hbl
  have hret : ∀ (r : Int32) (lv : List (Nat × Value)), JW K (0, 0) [] (fun _ => 0) μ0 39 lv [.int r] := fun r lv => jw_fret G rfl ⟨r, rfl⟩ (Nat.le_refl _) (Nat.le_refl _) dL_drawn_39
  refine jw_aload_n C dL_drawn_0 rfl 0 rfl ?_
  refine jw_slen C hX hbl hbA dL_drawn_1 ?_
  refine jw_if_ne C 15 dL_drawn_2 (by decide) (fun c => ?_) (fun c => ?_)
  · have hL0 : 0 < L := Nat.pos_of_ne_zero (fun e => c (by rw [e]; rfl))
    refine jw_aload_n C dL_drawn_15 rfl 0 rfl ?_
    refine jw_iload_n C dL_drawn_16 rfl 1 rfl ?_
    refine jw_aload_n C dL_drawn_17 rfl 0 rfl ?_
    refine jw_slen C hX hbl hbA dL_drawn_18 ?_
    refine jw_irem C dL_drawn_19 c ?_
    rw [nI_rem hk (show L < 2 ^ 31 by omega)]
    refine jw_sld C hX hbl hbA (vinI (Nat.mod_lt _ hL0) (by omega)) dL_drawn_20 ?_
    refine jw_iload_n C dL_drawn_21 rfl 1 rfl ?_
    refine jw_bipush (v := 7) C dL_drawn_22 (by decide) ?_
    refine jw_irem C dL_drawn_24 (by decide) ?_
    refine jw_ishr C dL_drawn_25 ?_
    refine jw_iload_n C dL_drawn_26 rfl 1 rfl ?_
    refine jw_aload_n C dL_drawn_27 rfl 0 rfl ?_
    refine jw_slen C hX hbl hbA dL_drawn_28 ?_
    refine jw_idiv C dL_drawn_29 c ?_
    refine jw_bipush (v := 31) C dL_drawn_30 (by decide) ?_
    refine jw_imul C dL_drawn_32 ?_
    refine jw_ixor C dL_drawn_33 ?_
    refine jw_iload_n C dL_drawn_34 rfl 1 rfl ?_
    refine jw_ldc (v := 2654435) C (List.mem_of_getElem? (i := 1) rfl) dL_drawn_35 ?_
    refine jw_imul C dL_drawn_37 ?_
    refine jw_ixor C dL_drawn_38 ?_
    exact hret _ _
  · refine jw_sipush (v := 7919) C dL_drawn_5 (by decide) ?_
    refine jw_iload_n C dL_drawn_8 rfl 1 rfl ?_
    refine jw_imul C dL_drawn_9 ?_
    refine jw_iconst (v := 3) C dL_drawn_10 (by decide) ?_
    refine jw_iadd C dL_drawn_11 ?_
    refine jw_goto (tgt := 39) C dL_drawn_12 (by decide) ?_
    exact hret _ _
