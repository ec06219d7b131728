/-! THE LAW: one round of its loop -/
def shL : List Ds := shX ++ shM.map (dsM fun k => 88 + k)
theorem shL_x : embB shL shX (e1 0) = true := by decide +kernel
theorem shL_m : embB shL shM (e1 88) = true := by decide +kernel
theorem RepF_c {μ μ' : Mem} {F : FS} (e : ∀ k, k < 88 → μ' k = μ k) (h : RepF μ F) : RepF μ' F := by
  refine ⟨RepT_congr (fun k hk => e _ (by omega)) h.1, RepH_congr (fun k hk => e _ (by omega)) h.2.1, fun i hi => SlotX_congr hi (fun k _ h2 => e k (by omega)) (h.2.2.1 i hi), ?_⟩
  rw [e 85 (by decide), e 86 (by decide)]
  exact h.2.2.2
theorem RepM_c {μ μ' : Mem} {F : FS} (e : ∀ k, k < 10 → μ' k = μ k) (h : RepM μ F) : RepM μ' F := by
  refine ⟨by rw [e 1 (by decide)]; exact h.1, RowP_congr (by rw [e 0 (by decide)]) (e 2 (by decide)) h.2.1, fun i hi => SlotM_congr (e 3 (by decide)) (e 4 (by decide)) (h.2.2.1 i hi), ?_⟩
  rw [e 0 (by decide), e 8 (by decide)]
  exact h.2.2.2
theorem law_x {μ μ' : Mem} {F F2 : FS} (hM : RepM (fun k => μ (88 + k)) F) (h : RepF μ' F2) : RepF (glue (e1 0) shX.length μ μ') F2 ∧ RepM (fun k => glue (e1 0) shX.length μ μ' (88 + k)) F := by
  have G : ∀ k, glue (e1 0) shX.length μ μ' k = if 0 ≤ k ∧ k < 0 + 88 then μ' (k - 0) else μ k := fun k => glue_e1 0 88 μ μ' k
  refine ⟨RepF_c (fun k hk => ?_) h, RepM_c (fun k hk => ?_) hM⟩
  · rw [G, if_pos (by omega), Nat.sub_zero]
  · show glue (e1 0) shX.length μ μ' (88 + k) = μ (88 + k)
    rw [G, if_neg (by omega)]
theorem law_m {μ μ' : Mem} {F2 F3 : FS} (hF : RepF μ F3) (h : RepM μ' F2) : RepF (glue (e1 88) shM.length μ μ') F3 ∧ RepM (fun k => glue (e1 88) shM.length μ μ' (88 + k)) F2 := by
  have G : ∀ k, glue (e1 88) shM.length μ μ' k = if 88 ≤ k ∧ k < 88 + 10 then μ' (k - 88) else μ k := fun k => glue_e1 88 10 μ μ' k
  refine ⟨RepF_c (fun k hk => ?_) hF, RepM_c (fun k hk => ?_) h⟩
  · rw [G, if_neg (by omega)]
  · show glue (e1 88) shM.length μ μ' (88 + k) = μ' k
    rw [G, if_pos (by omega), Nat.add_sub_cancel_left]
theorem law_0 {μ : Mem} {F : FS} (h : RepF μ F) : RepF (fun k => μ (e1 0 k)) F := RepF_c (fun k _ => by show μ (0 + k) = μ k; rw [Nat.zero_add]) h
theorem jw_slen {K : KT} {l : Launch} {cc : ByteArray} {own : String} {Ts : List Cond} {rm : Room} {sh : List Ds} {ad : Nat → Nat} {cs : Nat × Nat} {μ : Mem} {pc : Nat} {lv : List (Nat × Value)} {rest : List Value} {b L : Nat} {xs : Nat → Int32} (C : Ctx K l cc own Ts rm sh ad) (hX : va_X b L xs (kS K) (kS K).heap) (hbl : b < (kS K).heap.size) (hbA : ¬ kA K b) (d : decode cc pc = .ok (.arraylength, 1)) (kk : JW K cs sh ad μ (pc + 1) lv (.int (nI L) :: rest)) : JW K cs sh ad μ pc lv (.ref b :: rest) := fun H locs ls hP hS hl => va_slen C.x C.b hX hbl hbA hS d (kk H locs ls hP hS hl)
theorem jw_sld {K : KT} {l : Launch} {cc : ByteArray} {own : String} {Ts : List Cond} {rm : Room} {sh : List Ds} {ad : Nat → Nat} {cs : Nat × Nat} {μ : Mem} {pc : Nat} {lv : List (Nat × Value)} {rest : List Value} {b L : Nat} {xs : Nat → Int32} (C : Ctx K l cc own Ts rm sh ad) (hX : va_X b L xs (kS K) (kS K).heap) (hbl : b < (kS K).heap.size) (hbA : ¬ kA K b) {i : Int32} (hin : vp_in i L) (d : decode cc pc = .ok (.iaload, 1)) (kk : JW K cs sh ad μ (pc + 1) lv (.int (xs i.toNatClampNeg) :: rest)) : JW K cs sh ad μ pc lv (.int i :: .ref b :: rest) := fun H locs ls hP hS hl => va_sld C.x C.b hX hbl hbA hS hin d (kk H locs ls hP hS hl)
abbrev lvL (b : Nat) (ad : Nat → Nat) (i : Nat) : List (Nat × Value) := [(3, .int (nI i)), (0, .ref b), (1, .ref (ad 0)), (2, .ref (ad 88))]
abbrev csL : Nat × Nat := (98, 17765)
theorem wL_74 : Cond.constantLong RL 74 4294967295 ∈ wsL_law := List.mem_of_getElem? (i := 6) rfl
set_option maxRecDepth 100000 in
set_option maxHeartbeats 4000000 in
theorem lwc_set {K : KT} {l : Launch} {b L : Nat} {xs : Nat → Int32} {ad : Nat → Nat} {μ : Mem} {F : FS} {i : Nat} (C : Ctx K l cL_law RL wsL_law room_1 shL ad) (hX : va_X b L xs (kS K) (kS K).heap) (hbl : b < (kS K).heap.size) (hbA : ¬ kA K b) (hi : i + 5 ≤ L) (hL : L ≤ 2560) (hF : RepF μ F) (hM : RepM (fun k => μ (88 + k)) F) (hok : FOk F) (hnext : ∀ μ' F', RepF μ' F' → RepM (fun k => μ' (88 + k)) F' → FOk F' → JW K csL shL ad μ' 695 (lvL b ad i) []) : JW K csL shL ad μ 132 (lvL b ad i) [] := by
  have s1 : nI i + (1 : Int32) = nI (i + 1) := by rw [li 1, nI_add]
  have s2 : nI i + (2 : Int32) = nI (i + 2) := by rw [li 2, nI_add]
  have s3 : nI i + (3 : Int32) = nI (i + 3) := by rw [li 3, nI_add]
  have s4 : nI i + (4 : Int32) = nI (i + 4) := by rw [li 4, nI_add]
  refine jw_aload_n C dL_law_132 rfl 2 rfl ?_
  refine jw_aload_n C dL_law_133 rfl 1 rfl ?_
  refine jw_iload_n C dL_law_134 rfl 0 rfl ?_
  refine jw_iconst (v := 1) C dL_law_135 (by decide) ?_
  refine jw_iadd C dL_law_136 ?_
  rw [s1]
  refine jw_sld C hX hbl hbA (vinI (show i + 1 < L by omega) (by omega)) dL_law_137 ?_
  refine jw_aload_n C dL_law_138 rfl 1 rfl ?_
  refine jw_iload_n C dL_law_139 rfl 0 rfl ?_
  refine jw_iconst (v := 2) C dL_law_140 (by decide) ?_
  refine jw_iadd C dL_law_141 ?_
  rw [s2]
  refine jw_sld C hX hbl hbA (vinI (show i + 2 < L by omega) (by omega)) dL_law_142 ?_
  refine jw_gVI (b := 0) (rest := []) C dL_law_143 (e1 0) shL_x (ctX5_set l (xs (nI (i + 1)).toNatClampNeg) (xs (nI (i + 2)).toNatClampNeg) (fun k => μ (e1 0 k)) (fun r μ' => r = (fSet (xs (nI (i + 1)).toNatClampNeg) (xs (nI (i + 2)).toNatClampNeg) F).1 ∧ RepF μ' (fSet (xs (nI (i + 1)).toNatClampNeg) (xs (nI (i + 2)).toNatClampNeg) F).2) (x_set (law_0 hF) hok (fun _ h => ⟨rfl, h⟩))) miX5_set rfl rfl gL_law_X5_set rfl ⟨rfl, rfl, (Nat.le_of_ble_eq_true rfl), (Nat.le_of_ble_eq_true rfl)⟩ rfl rfl rfl (Nat.le_of_ble_eq_true rfl) ⟨(Nat.le_of_ble_eq_true rfl), (Nat.le_of_ble_eq_true rfl)⟩ (fun r1 μ1 h1 => ?_)
  obtain ⟨e1r, hF1⟩ := h1
  obtain ⟨g1, g2⟩ := law_x hM hF1
  refine jw_aload_n C dL_law_146 rfl 3 rfl ?_
  refine jw_aload_n C dL_law_147 rfl 1 rfl ?_
  refine jw_iload_n C dL_law_148 rfl 0 rfl ?_
  refine jw_iconst (v := 1) C dL_law_149 (by decide) ?_
  refine jw_iadd C dL_law_150 ?_
  rw [s1]
  refine jw_sld C hX hbl hbA (vinI (show i + 1 < L by omega) (by omega)) dL_law_151 ?_
  refine jw_aload_n C dL_law_152 rfl 1 rfl ?_
  refine jw_iload_n C dL_law_153 rfl 0 rfl ?_
  refine jw_iconst (v := 2) C dL_law_154 (by decide) ?_
  refine jw_iadd C dL_law_155 ?_
  rw [s2]
  refine jw_sld C hX hbl hbA (vinI (show i + 2 < L by omega) (by omega)) dL_law_156 ?_
  refine jw_gVI (b := 88) (rest := [.int r1]) C dL_law_157 (e1 88) shL_m (ctX6_set l (xs (nI (i + 1)).toNatClampNeg) (xs (nI (i + 2)).toNatClampNeg) (fun k => glue (e1 0) shX.length μ μ1 (e1 88 k)) (fun r μ' => r = (fSet (xs (nI (i + 1)).toNatClampNeg) (xs (nI (i + 2)).toNatClampNeg) F).1 ∧ RepM μ' (fSet (xs (nI (i + 1)).toNatClampNeg) (xs (nI (i + 2)).toNatClampNeg) F).2) (m_set g2 hok (fun _ h => ⟨rfl, h⟩))) miX6_set rfl rfl gL_law_X6_set rfl ⟨rfl, rfl, (Nat.le_of_ble_eq_true rfl), (Nat.le_of_ble_eq_true rfl)⟩ rfl rfl rfl (Nat.le_of_ble_eq_true rfl) ⟨(Nat.le_of_ble_eq_true rfl), (Nat.le_of_ble_eq_true rfl)⟩ (fun r2 μ2 h2 => ?_)
  obtain ⟨e2r, hM2⟩ := h2
  obtain ⟨k1, k2⟩ := law_m g1 hM2
  refine jw_icmp_eq C 695 dL_law_160 (by decide) (fun _ => hnext _ (fSet (xs (nI (i + 1)).toNatClampNeg) (xs (nI (i + 2)).toNatClampNeg) F).2 k1 k2 (fSet_ok hok)) (fun c => absurd (e1r.trans e2r.symm) c)
set_option maxRecDepth 100000 in
set_option maxHeartbeats 4000000 in
theorem lwc_send {K : KT} {l : Launch} {b L : Nat} {xs : Nat → Int32} {ad : Nat → Nat} {μ : Mem} {F : FS} {i : Nat} (C : Ctx K l cL_law RL wsL_law room_1 shL ad) (hX : va_X b L xs (kS K) (kS K).heap) (hbl : b < (kS K).heap.size) (hbA : ¬ kA K b) (hi : i + 5 ≤ L) (hL : L ≤ 2560) (hF : RepF μ F) (hM : RepM (fun k => μ (88 + k)) F) (hok : FOk F) (hnext : ∀ μ' F', RepF μ' F' → RepM (fun k => μ' (88 + k)) F' → FOk F' → JW K csL shL ad μ' 695 (lvL b ad i) []) : JW K csL shL ad μ 165 (lvL b ad i) [] := by
  have s1 : nI i + (1 : Int32) = nI (i + 1) := by rw [li 1, nI_add]
  have s2 : nI i + (2 : Int32) = nI (i + 2) := by rw [li 2, nI_add]
  have s3 : nI i + (3 : Int32) = nI (i + 3) := by rw [li 3, nI_add]
  have s4 : nI i + (4 : Int32) = nI (i + 4) := by rw [li 4, nI_add]
  refine jw_aload_n C dL_law_165 rfl 2 rfl ?_
  refine jw_aload_n C dL_law_166 rfl 1 rfl ?_
  refine jw_iload_n C dL_law_167 rfl 0 rfl ?_
  refine jw_iconst (v := 1) C dL_law_168 (by decide) ?_
  refine jw_iadd C dL_law_169 ?_
  rw [s1]
  refine jw_sld C hX hbl hbA (vinI (show i + 1 < L by omega) (by omega)) dL_law_170 ?_
  refine jw_aload_n C dL_law_171 rfl 1 rfl ?_
  refine jw_iload_n C dL_law_172 rfl 0 rfl ?_
  refine jw_iconst (v := 2) C dL_law_173 (by decide) ?_
  refine jw_iadd C dL_law_174 ?_
  rw [s2]
  refine jw_sld C hX hbl hbA (vinI (show i + 2 < L by omega) (by omega)) dL_law_175 ?_
  refine jw_aload_n C dL_law_176 rfl 1 rfl ?_
  refine jw_iload_n C dL_law_177 rfl 0 rfl ?_
  refine jw_iconst (v := 3) C dL_law_178 (by decide) ?_
  refine jw_iadd C dL_law_179 ?_
  rw [s3]
  refine jw_sld C hX hbl hbA (vinI (show i + 3 < L by omega) (by omega)) dL_law_180 ?_
  refine jw_aload_n C dL_law_181 rfl 1 rfl ?_
  refine jw_iload_n C dL_law_182 rfl 0 rfl ?_
  refine jw_iconst (v := 4) C dL_law_183 (by decide) ?_
  refine jw_iadd C dL_law_184 ?_
  rw [s4]
  refine jw_sld C hX hbl hbA (vinI (show i + 4 < L by omega) (by omega)) dL_law_185 ?_
  refine jw_gVI (b := 0) (rest := []) C dL_law_186 (e1 0) shL_x (ctX5_send l (xs (nI (i + 1)).toNatClampNeg) (xs (nI (i + 2)).toNatClampNeg) (xs (nI (i + 3)).toNatClampNeg) (xs (nI (i + 4)).toNatClampNeg) (fun k => μ (e1 0 k)) (fun r μ' => r = (fSend (xs (nI (i + 1)).toNatClampNeg) (xs (nI (i + 2)).toNatClampNeg) (xs (nI (i + 3)).toNatClampNeg) (xs (nI (i + 4)).toNatClampNeg) F).1 ∧ RepF μ' (fSend (xs (nI (i + 1)).toNatClampNeg) (xs (nI (i + 2)).toNatClampNeg) (xs (nI (i + 3)).toNatClampNeg) (xs (nI (i + 4)).toNatClampNeg) F).2) (x_send (law_0 hF) hok (fun _ h => ⟨rfl, h⟩))) miX5_send rfl rfl gL_law_X5_send rfl ⟨rfl, rfl, (Nat.le_of_ble_eq_true rfl), (Nat.le_of_ble_eq_true rfl)⟩ rfl rfl rfl (Nat.le_of_ble_eq_true rfl) ⟨(Nat.le_of_ble_eq_true rfl), (Nat.le_of_ble_eq_true rfl)⟩ (fun r1 μ1 h1 => ?_)
  obtain ⟨e1r, hF1⟩ := h1
  obtain ⟨g1, g2⟩ := law_x hM hF1
  refine jw_aload_n C dL_law_189 rfl 3 rfl ?_
  refine jw_aload_n C dL_law_190 rfl 1 rfl ?_
  refine jw_iload_n C dL_law_191 rfl 0 rfl ?_
  refine jw_iconst (v := 1) C dL_law_192 (by decide) ?_
  refine jw_iadd C dL_law_193 ?_
  rw [s1]
  refine jw_sld C hX hbl hbA (vinI (show i + 1 < L by omega) (by omega)) dL_law_194 ?_
  refine jw_aload_n C dL_law_195 rfl 1 rfl ?_
  refine jw_iload_n C dL_law_196 rfl 0 rfl ?_
  refine jw_iconst (v := 2) C dL_law_197 (by decide) ?_
  refine jw_iadd C dL_law_198 ?_
  rw [s2]
  refine jw_sld C hX hbl hbA (vinI (show i + 2 < L by omega) (by omega)) dL_law_199 ?_
  refine jw_aload_n C dL_law_200 rfl 1 rfl ?_
  refine jw_iload_n C dL_law_201 rfl 0 rfl ?_
  refine jw_iconst (v := 3) C dL_law_202 (by decide) ?_
  refine jw_iadd C dL_law_203 ?_
  rw [s3]
  refine jw_sld C hX hbl hbA (vinI (show i + 3 < L by omega) (by omega)) dL_law_204 ?_
  refine jw_aload_n C dL_law_205 rfl 1 rfl ?_
  refine jw_iload_n C dL_law_206 rfl 0 rfl ?_
  refine jw_iconst (v := 4) C dL_law_207 (by decide) ?_
  refine jw_iadd C dL_law_208 ?_
  rw [s4]
  refine jw_sld C hX hbl hbA (vinI (show i + 4 < L by omega) (by omega)) dL_law_209 ?_
  refine jw_gVI (b := 88) (rest := [.int r1]) C dL_law_210 (e1 88) shL_m (ctX6_send l (xs (nI (i + 1)).toNatClampNeg) (xs (nI (i + 2)).toNatClampNeg) (xs (nI (i + 3)).toNatClampNeg) (xs (nI (i + 4)).toNatClampNeg) (fun k => glue (e1 0) shX.length μ μ1 (e1 88 k)) (fun r μ' => r = (fSend (xs (nI (i + 1)).toNatClampNeg) (xs (nI (i + 2)).toNatClampNeg) (xs (nI (i + 3)).toNatClampNeg) (xs (nI (i + 4)).toNatClampNeg) F).1 ∧ RepM μ' (fSend (xs (nI (i + 1)).toNatClampNeg) (xs (nI (i + 2)).toNatClampNeg) (xs (nI (i + 3)).toNatClampNeg) (xs (nI (i + 4)).toNatClampNeg) F).2) (m_send g2 hok (fun _ h => ⟨rfl, h⟩))) miX6_send rfl rfl gL_law_X6_send rfl ⟨rfl, rfl, (Nat.le_of_ble_eq_true rfl), (Nat.le_of_ble_eq_true rfl)⟩ rfl rfl rfl (Nat.le_of_ble_eq_true rfl) ⟨(Nat.le_of_ble_eq_true rfl), (Nat.le_of_ble_eq_true rfl)⟩ (fun r2 μ2 h2 => ?_)
  obtain ⟨e2r, hM2⟩ := h2
  obtain ⟨k1, k2⟩ := law_m g1 hM2
  refine jw_icmp_eq C 695 dL_law_213 (by decide) (fun _ => hnext _ (fSend (xs (nI (i + 1)).toNatClampNeg) (xs (nI (i + 2)).toNatClampNeg) (xs (nI (i + 3)).toNatClampNeg) (xs (nI (i + 4)).toNatClampNeg) F).2 k1 k2 (fSend_ok hok)) (fun c => absurd (e1r.trans e2r.symm) c)
set_option maxRecDepth 100000 in
set_option maxHeartbeats 4000000 in
theorem lwc_empty {K : KT} {l : Launch} {b L : Nat} {xs : Nat → Int32} {ad : Nat → Nat} {μ : Mem} {F : FS} {i : Nat} (C : Ctx K l cL_law RL wsL_law room_1 shL ad) (hX : va_X b L xs (kS K) (kS K).heap) (hbl : b < (kS K).heap.size) (hbA : ¬ kA K b) (hi : i + 5 ≤ L) (hL : L ≤ 2560) (hF : RepF μ F) (hM : RepM (fun k => μ (88 + k)) F) (hok : FOk F) (hnext : ∀ μ' F', RepF μ' F' → RepM (fun k => μ' (88 + k)) F' → FOk F' → JW K csL shL ad μ' 695 (lvL b ad i) []) : JW K csL shL ad μ 218 (lvL b ad i) [] := by
  have s1 : nI i + (1 : Int32) = nI (i + 1) := by rw [li 1, nI_add]
  have s2 : nI i + (2 : Int32) = nI (i + 2) := by rw [li 2, nI_add]
  have s3 : nI i + (3 : Int32) = nI (i + 3) := by rw [li 3, nI_add]
  have s4 : nI i + (4 : Int32) = nI (i + 4) := by rw [li 4, nI_add]
  refine jw_aload_n C dL_law_218 rfl 2 rfl ?_
  refine jw_aload_n C dL_law_219 rfl 1 rfl ?_
  refine jw_iload_n C dL_law_220 rfl 0 rfl ?_
  refine jw_iconst (v := 1) C dL_law_221 (by decide) ?_
  refine jw_iadd C dL_law_222 ?_
  rw [s1]
  refine jw_sld C hX hbl hbA (vinI (show i + 1 < L by omega) (by omega)) dL_law_223 ?_
  refine jw_gVI (b := 0) (rest := []) C dL_law_224 (e1 0) shL_x (ctX5_empty l (xs (nI (i + 1)).toNatClampNeg) (fun k => μ (e1 0 k)) (fun r μ' => r = (fEmpty (xs (nI (i + 1)).toNatClampNeg) F).1 ∧ RepF μ' (fEmpty (xs (nI (i + 1)).toNatClampNeg) F).2) (x_empty (law_0 hF) hok (fun _ h => ⟨rfl, h⟩))) miX5_empty rfl rfl gL_law_X5_empty rfl ⟨rfl, rfl, (Nat.le_of_ble_eq_true rfl), (Nat.le_of_ble_eq_true rfl)⟩ rfl rfl rfl (Nat.le_of_ble_eq_true rfl) ⟨(Nat.le_of_ble_eq_true rfl), (Nat.le_of_ble_eq_true rfl)⟩ (fun r1 μ1 h1 => ?_)
  obtain ⟨e1r, hF1⟩ := h1
  obtain ⟨g1, g2⟩ := law_x hM hF1
  refine jw_aload_n C dL_law_227 rfl 3 rfl ?_
  refine jw_aload_n C dL_law_228 rfl 1 rfl ?_
  refine jw_iload_n C dL_law_229 rfl 0 rfl ?_
  refine jw_iconst (v := 1) C dL_law_230 (by decide) ?_
  refine jw_iadd C dL_law_231 ?_
  rw [s1]
  refine jw_sld C hX hbl hbA (vinI (show i + 1 < L by omega) (by omega)) dL_law_232 ?_
  refine jw_gVI (b := 88) (rest := [.int r1]) C dL_law_233 (e1 88) shL_m (ctX6_empty l (xs (nI (i + 1)).toNatClampNeg) (fun k => glue (e1 0) shX.length μ μ1 (e1 88 k)) (fun r μ' => r = (fEmpty (xs (nI (i + 1)).toNatClampNeg) F).1 ∧ RepM μ' (fEmpty (xs (nI (i + 1)).toNatClampNeg) F).2) (m_empty g2 hok (fun _ h => ⟨rfl, h⟩))) miX6_empty rfl rfl gL_law_X6_empty rfl ⟨rfl, rfl, (Nat.le_of_ble_eq_true rfl), (Nat.le_of_ble_eq_true rfl)⟩ rfl rfl rfl (Nat.le_of_ble_eq_true rfl) ⟨(Nat.le_of_ble_eq_true rfl), (Nat.le_of_ble_eq_true rfl)⟩ (fun r2 μ2 h2 => ?_)
  obtain ⟨e2r, hM2⟩ := h2
  obtain ⟨k1, k2⟩ := law_m g1 hM2
  refine jw_icmp_eq C 695 dL_law_236 (by decide) (fun _ => hnext _ (fEmpty (xs (nI (i + 1)).toNatClampNeg) F).2 k1 k2 (fEmpty_ok hok)) (fun c => absurd (e1r.trans e2r.symm) c)
set_option maxRecDepth 100000 in
set_option maxHeartbeats 4000000 in
theorem lwc_read {K : KT} {l : Launch} {b L : Nat} {xs : Nat → Int32} {ad : Nat → Nat} {μ : Mem} {F : FS} {i : Nat} (C : Ctx K l cL_law RL wsL_law room_1 shL ad) (hX : va_X b L xs (kS K) (kS K).heap) (hbl : b < (kS K).heap.size) (hbA : ¬ kA K b) (hi : i + 5 ≤ L) (hL : L ≤ 2560) (hF : RepF μ F) (hM : RepM (fun k => μ (88 + k)) F) (hok : FOk F) (hnext : ∀ μ' F', RepF μ' F' → RepM (fun k => μ' (88 + k)) F' → FOk F' → JW K csL shL ad μ' 695 (lvL b ad i) []) : JW K csL shL ad μ 241 (lvL b ad i) [] := by
  have s1 : nI i + (1 : Int32) = nI (i + 1) := by rw [li 1, nI_add]
  have s2 : nI i + (2 : Int32) = nI (i + 2) := by rw [li 2, nI_add]
  have s3 : nI i + (3 : Int32) = nI (i + 3) := by rw [li 3, nI_add]
  have s4 : nI i + (4 : Int32) = nI (i + 4) := by rw [li 4, nI_add]
  refine jw_aload_n C dL_law_241 rfl 2 rfl ?_
  refine jw_aload_n C dL_law_242 rfl 1 rfl ?_
  refine jw_iload_n C dL_law_243 rfl 0 rfl ?_
  refine jw_iconst (v := 1) C dL_law_244 (by decide) ?_
  refine jw_iadd C dL_law_245 ?_
  rw [s1]
  refine jw_sld C hX hbl hbA (vinI (show i + 1 < L by omega) (by omega)) dL_law_246 ?_
  refine jw_gVI (b := 0) (rest := []) C dL_law_247 (e1 0) shL_x (ctX5_read l (xs (nI (i + 1)).toNatClampNeg) (fun k => μ (e1 0 k)) (fun r μ' => r = (fRead (xs (nI (i + 1)).toNatClampNeg) F).1 ∧ RepF μ' (fRead (xs (nI (i + 1)).toNatClampNeg) F).2) (x_read (law_0 hF) hok (fun _ h => ⟨rfl, h⟩))) miX5_read rfl rfl gL_law_X5_read rfl ⟨rfl, rfl, (Nat.le_of_ble_eq_true rfl), (Nat.le_of_ble_eq_true rfl)⟩ rfl rfl rfl (Nat.le_of_ble_eq_true rfl) ⟨(Nat.le_of_ble_eq_true rfl), (Nat.le_of_ble_eq_true rfl)⟩ (fun r1 μ1 h1 => ?_)
  obtain ⟨e1r, hF1⟩ := h1
  obtain ⟨g1, g2⟩ := law_x hM hF1
  refine jw_aload_n C dL_law_250 rfl 3 rfl ?_
  refine jw_aload_n C dL_law_251 rfl 1 rfl ?_
  refine jw_iload_n C dL_law_252 rfl 0 rfl ?_
  refine jw_iconst (v := 1) C dL_law_253 (by decide) ?_
  refine jw_iadd C dL_law_254 ?_
  rw [s1]
  refine jw_sld C hX hbl hbA (vinI (show i + 1 < L by omega) (by omega)) dL_law_255 ?_
  refine jw_gVI (b := 88) (rest := [.int r1]) C dL_law_256 (e1 88) shL_m (ctX6_read l (xs (nI (i + 1)).toNatClampNeg) (fun k => glue (e1 0) shX.length μ μ1 (e1 88 k)) (fun r μ' => r = (fRead (xs (nI (i + 1)).toNatClampNeg) F).1 ∧ RepM μ' (fRead (xs (nI (i + 1)).toNatClampNeg) F).2) (m_read g2 hok (fun _ h => ⟨rfl, h⟩))) miX6_read rfl rfl gL_law_X6_read rfl ⟨rfl, rfl, (Nat.le_of_ble_eq_true rfl), (Nat.le_of_ble_eq_true rfl)⟩ rfl rfl rfl (Nat.le_of_ble_eq_true rfl) ⟨(Nat.le_of_ble_eq_true rfl), (Nat.le_of_ble_eq_true rfl)⟩ (fun r2 μ2 h2 => ?_)
  obtain ⟨e2r, hM2⟩ := h2
  obtain ⟨k1, k2⟩ := law_m g1 hM2
  refine jw_icmp_eq C 695 dL_law_259 (by decide) (fun _ => hnext _ (fRead (xs (nI (i + 1)).toNatClampNeg) F).2 k1 k2 (fRead_ok hok)) (fun c => absurd (e1r.trans e2r.symm) c)
set_option maxRecDepth 100000 in
set_option maxHeartbeats 4000000 in
theorem lwc_stone {K : KT} {l : Launch} {b L : Nat} {xs : Nat → Int32} {ad : Nat → Nat} {μ : Mem} {F : FS} {i : Nat} (C : Ctx K l cL_law RL wsL_law room_1 shL ad) (hX : va_X b L xs (kS K) (kS K).heap) (hbl : b < (kS K).heap.size) (hbA : ¬ kA K b) (hi : i + 5 ≤ L) (hL : L ≤ 2560) (hF : RepF μ F) (hM : RepM (fun k => μ (88 + k)) F) (hok : FOk F) (hnext : ∀ μ' F', RepF μ' F' → RepM (fun k => μ' (88 + k)) F' → FOk F' → JW K csL shL ad μ' 695 (lvL b ad i) []) : JW K csL shL ad μ 264 (lvL b ad i) [] := by
  have s1 : nI i + (1 : Int32) = nI (i + 1) := by rw [li 1, nI_add]
  have s2 : nI i + (2 : Int32) = nI (i + 2) := by rw [li 2, nI_add]
  have s3 : nI i + (3 : Int32) = nI (i + 3) := by rw [li 3, nI_add]
  have s4 : nI i + (4 : Int32) = nI (i + 4) := by rw [li 4, nI_add]
  refine jw_aload_n C dL_law_264 rfl 2 rfl ?_
  refine jw_aload_n C dL_law_265 rfl 1 rfl ?_
  refine jw_iload_n C dL_law_266 rfl 0 rfl ?_
  refine jw_iconst (v := 1) C dL_law_267 (by decide) ?_
  refine jw_iadd C dL_law_268 ?_
  rw [s1]
  refine jw_sld C hX hbl hbA (vinI (show i + 1 < L by omega) (by omega)) dL_law_269 ?_
  refine jw_aload_n C dL_law_270 rfl 1 rfl ?_
  refine jw_iload_n C dL_law_271 rfl 0 rfl ?_
  refine jw_iconst (v := 2) C dL_law_272 (by decide) ?_
  refine jw_iadd C dL_law_273 ?_
  rw [s2]
  refine jw_sld C hX hbl hbA (vinI (show i + 2 < L by omega) (by omega)) dL_law_274 ?_
  refine jw_aload_n C dL_law_275 rfl 1 rfl ?_
  refine jw_iload_n C dL_law_276 rfl 0 rfl ?_
  refine jw_iconst (v := 3) C dL_law_277 (by decide) ?_
  refine jw_iadd C dL_law_278 ?_
  rw [s3]
  refine jw_sld C hX hbl hbA (vinI (show i + 3 < L by omega) (by omega)) dL_law_279 ?_
  refine jw_gVI (b := 0) (rest := []) C dL_law_280 (e1 0) shL_x (ctX5_stone l (xs (nI (i + 1)).toNatClampNeg) (xs (nI (i + 2)).toNatClampNeg) (xs (nI (i + 3)).toNatClampNeg) (fun k => μ (e1 0 k)) (fun r μ' => r = (fStone (xs (nI (i + 1)).toNatClampNeg) (xs (nI (i + 2)).toNatClampNeg) (xs (nI (i + 3)).toNatClampNeg) F) ∧ RepF μ' F) (x_stone (law_0 hF) hok ⟨rfl, law_0 hF⟩)) miX5_stone rfl rfl gL_law_X5_stone rfl ⟨rfl, rfl, (Nat.le_of_ble_eq_true rfl), (Nat.le_of_ble_eq_true rfl)⟩ rfl rfl rfl (Nat.le_of_ble_eq_true rfl) ⟨(Nat.le_of_ble_eq_true rfl), (Nat.le_of_ble_eq_true rfl)⟩ (fun r1 μ1 h1 => ?_)
  obtain ⟨e1r, hF1⟩ := h1
  obtain ⟨g1, g2⟩ := law_x hM hF1
  refine jw_aload_n C dL_law_283 rfl 3 rfl ?_
  refine jw_aload_n C dL_law_284 rfl 1 rfl ?_
  refine jw_iload_n C dL_law_285 rfl 0 rfl ?_
  refine jw_iconst (v := 1) C dL_law_286 (by decide) ?_
  refine jw_iadd C dL_law_287 ?_
  rw [s1]
  refine jw_sld C hX hbl hbA (vinI (show i + 1 < L by omega) (by omega)) dL_law_288 ?_
  refine jw_aload_n C dL_law_289 rfl 1 rfl ?_
  refine jw_iload_n C dL_law_290 rfl 0 rfl ?_
  refine jw_iconst (v := 2) C dL_law_291 (by decide) ?_
  refine jw_iadd C dL_law_292 ?_
  rw [s2]
  refine jw_sld C hX hbl hbA (vinI (show i + 2 < L by omega) (by omega)) dL_law_293 ?_
  refine jw_aload_n C dL_law_294 rfl 1 rfl ?_
  refine jw_iload_n C dL_law_295 rfl 0 rfl ?_
  refine jw_iconst (v := 3) C dL_law_296 (by decide) ?_
  refine jw_iadd C dL_law_297 ?_
  rw [s3]
  refine jw_sld C hX hbl hbA (vinI (show i + 3 < L by omega) (by omega)) dL_law_298 ?_
  refine jw_gVI (b := 88) (rest := [.int r1]) C dL_law_299 (e1 88) shL_m (ctX6_stone l (xs (nI (i + 1)).toNatClampNeg) (xs (nI (i + 2)).toNatClampNeg) (xs (nI (i + 3)).toNatClampNeg) (fun k => glue (e1 0) shX.length μ μ1 (e1 88 k)) (fun r μ' => r = (fStone (xs (nI (i + 1)).toNatClampNeg) (xs (nI (i + 2)).toNatClampNeg) (xs (nI (i + 3)).toNatClampNeg) F) ∧ RepM μ' F) (m_stone g2 hok ⟨rfl, g2⟩)) miX6_stone rfl rfl gL_law_X6_stone rfl ⟨rfl, rfl, (Nat.le_of_ble_eq_true rfl), (Nat.le_of_ble_eq_true rfl)⟩ rfl rfl rfl (Nat.le_of_ble_eq_true rfl) ⟨(Nat.le_of_ble_eq_true rfl), (Nat.le_of_ble_eq_true rfl)⟩ (fun r2 μ2 h2 => ?_)
  obtain ⟨e2r, hM2⟩ := h2
  obtain ⟨k1, k2⟩ := law_m g1 hM2
  refine jw_icmp_eq C 695 dL_law_302 (by decide) (fun _ => hnext _ F k1 k2 hok) (fun c => absurd (e1r.trans e2r.symm) c)
set_option maxRecDepth 100000 in
set_option maxHeartbeats 4000000 in
theorem lwc_ofNode {K : KT} {l : Launch} {b L : Nat} {xs : Nat → Int32} {ad : Nat → Nat} {μ : Mem} {F : FS} {i : Nat} (C : Ctx K l cL_law RL wsL_law room_1 shL ad) (hX : va_X b L xs (kS K) (kS K).heap) (hbl : b < (kS K).heap.size) (hbA : ¬ kA K b) (hi : i + 5 ≤ L) (hL : L ≤ 2560) (hF : RepF μ F) (hM : RepM (fun k => μ (88 + k)) F) (hok : FOk F) (hnext : ∀ μ' F', RepF μ' F' → RepM (fun k => μ' (88 + k)) F' → FOk F' → JW K csL shL ad μ' 695 (lvL b ad i) []) : JW K csL shL ad μ 307 (lvL b ad i) [] := by
  have s1 : nI i + (1 : Int32) = nI (i + 1) := by rw [li 1, nI_add]
  have s2 : nI i + (2 : Int32) = nI (i + 2) := by rw [li 2, nI_add]
  have s3 : nI i + (3 : Int32) = nI (i + 3) := by rw [li 3, nI_add]
  have s4 : nI i + (4 : Int32) = nI (i + 4) := by rw [li 4, nI_add]
  refine jw_aload_n C dL_law_307 rfl 2 rfl ?_
  refine jw_aload_n C dL_law_308 rfl 1 rfl ?_
  refine jw_iload_n C dL_law_309 rfl 0 rfl ?_
  refine jw_iconst (v := 1) C dL_law_310 (by decide) ?_
  refine jw_iadd C dL_law_311 ?_
  rw [s1]
  refine jw_sld C hX hbl hbA (vinI (show i + 1 < L by omega) (by omega)) dL_law_312 ?_
  refine jw_aload_n C dL_law_313 rfl 1 rfl ?_
  refine jw_iload_n C dL_law_314 rfl 0 rfl ?_
  refine jw_iconst (v := 2) C dL_law_315 (by decide) ?_
  refine jw_iadd C dL_law_316 ?_
  rw [s2]
  refine jw_sld C hX hbl hbA (vinI (show i + 2 < L by omega) (by omega)) dL_law_317 ?_
  refine jw_gVI (b := 0) (rest := []) C dL_law_318 (e1 0) shL_x (ctX5_ofNode l (xs (nI (i + 1)).toNatClampNeg) (xs (nI (i + 2)).toNatClampNeg) (fun k => μ (e1 0 k)) (fun r μ' => r = (fNode (xs (nI (i + 1)).toNatClampNeg) (xs (nI (i + 2)).toNatClampNeg) F) ∧ RepF μ' F) (x_node (law_0 hF) hok ⟨rfl, law_0 hF⟩)) miX5_ofNode rfl rfl gL_law_X5_ofNode rfl ⟨rfl, rfl, (Nat.le_of_ble_eq_true rfl), (Nat.le_of_ble_eq_true rfl)⟩ rfl rfl rfl (Nat.le_of_ble_eq_true rfl) ⟨(Nat.le_of_ble_eq_true rfl), (Nat.le_of_ble_eq_true rfl)⟩ (fun r1 μ1 h1 => ?_)
  obtain ⟨e1r, hF1⟩ := h1
  obtain ⟨g1, g2⟩ := law_x hM hF1
  refine jw_aload_n C dL_law_321 rfl 3 rfl ?_
  refine jw_aload_n C dL_law_322 rfl 1 rfl ?_
  refine jw_iload_n C dL_law_323 rfl 0 rfl ?_
  refine jw_iconst (v := 1) C dL_law_324 (by decide) ?_
  refine jw_iadd C dL_law_325 ?_
  rw [s1]
  refine jw_sld C hX hbl hbA (vinI (show i + 1 < L by omega) (by omega)) dL_law_326 ?_
  refine jw_aload_n C dL_law_327 rfl 1 rfl ?_
  refine jw_iload_n C dL_law_328 rfl 0 rfl ?_
  refine jw_iconst (v := 2) C dL_law_329 (by decide) ?_
  refine jw_iadd C dL_law_330 ?_
  rw [s2]
  refine jw_sld C hX hbl hbA (vinI (show i + 2 < L by omega) (by omega)) dL_law_331 ?_
  refine jw_gVI (b := 88) (rest := [.int r1]) C dL_law_332 (e1 88) shL_m (ctX6_ofNode l (xs (nI (i + 1)).toNatClampNeg) (xs (nI (i + 2)).toNatClampNeg) (fun k => glue (e1 0) shX.length μ μ1 (e1 88 k)) (fun r μ' => r = (fNode (xs (nI (i + 1)).toNatClampNeg) (xs (nI (i + 2)).toNatClampNeg) F) ∧ RepM μ' F) (m_node g2 ⟨rfl, g2⟩)) miX6_ofNode rfl rfl gL_law_X6_ofNode rfl ⟨rfl, rfl, (Nat.le_of_ble_eq_true rfl), (Nat.le_of_ble_eq_true rfl)⟩ rfl rfl rfl (Nat.le_of_ble_eq_true rfl) ⟨(Nat.le_of_ble_eq_true rfl), (Nat.le_of_ble_eq_true rfl)⟩ (fun r2 μ2 h2 => ?_)
  obtain ⟨e2r, hM2⟩ := h2
  obtain ⟨k1, k2⟩ := law_m g1 hM2
  refine jw_icmp_eq C 695 dL_law_335 (by decide) (fun _ => hnext _ F k1 k2 hok) (fun c => absurd (e1r.trans e2r.symm) c)
set_option maxRecDepth 100000 in
set_option maxHeartbeats 4000000 in
theorem lwc_ofKey {K : KT} {l : Launch} {b L : Nat} {xs : Nat → Int32} {ad : Nat → Nat} {μ : Mem} {F : FS} {i : Nat} (C : Ctx K l cL_law RL wsL_law room_1 shL ad) (hX : va_X b L xs (kS K) (kS K).heap) (hbl : b < (kS K).heap.size) (hbA : ¬ kA K b) (hi : i + 5 ≤ L) (hL : L ≤ 2560) (hF : RepF μ F) (hM : RepM (fun k => μ (88 + k)) F) (hok : FOk F) (hnext : ∀ μ' F', RepF μ' F' → RepM (fun k => μ' (88 + k)) F' → FOk F' → JW K csL shL ad μ' 695 (lvL b ad i) []) : JW K csL shL ad μ 340 (lvL b ad i) [] := by
  have s1 : nI i + (1 : Int32) = nI (i + 1) := by rw [li 1, nI_add]
  have s2 : nI i + (2 : Int32) = nI (i + 2) := by rw [li 2, nI_add]
  have s3 : nI i + (3 : Int32) = nI (i + 3) := by rw [li 3, nI_add]
  have s4 : nI i + (4 : Int32) = nI (i + 4) := by rw [li 4, nI_add]
  refine jw_aload_n C dL_law_340 rfl 2 rfl ?_
  refine jw_aload_n C dL_law_341 rfl 1 rfl ?_
  refine jw_iload_n C dL_law_342 rfl 0 rfl ?_
  refine jw_iconst (v := 1) C dL_law_343 (by decide) ?_
  refine jw_iadd C dL_law_344 ?_
  rw [s1]
  refine jw_sld C hX hbl hbA (vinI (show i + 1 < L by omega) (by omega)) dL_law_345 ?_
  refine jw_aload_n C dL_law_346 rfl 1 rfl ?_
  refine jw_iload_n C dL_law_347 rfl 0 rfl ?_
  refine jw_iconst (v := 2) C dL_law_348 (by decide) ?_
  refine jw_iadd C dL_law_349 ?_
  rw [s2]
  refine jw_sld C hX hbl hbA (vinI (show i + 2 < L by omega) (by omega)) dL_law_350 ?_
  refine jw_gVI (b := 0) (rest := []) C dL_law_351 (e1 0) shL_x (ctX5_ofKey l (xs (nI (i + 1)).toNatClampNeg) (xs (nI (i + 2)).toNatClampNeg) (fun k => μ (e1 0 k)) (fun r μ' => r = (fKey (xs (nI (i + 1)).toNatClampNeg) (xs (nI (i + 2)).toNatClampNeg) F) ∧ RepF μ' F) (x_key (law_0 hF) hok ⟨rfl, law_0 hF⟩)) miX5_ofKey rfl rfl gL_law_X5_ofKey rfl ⟨rfl, rfl, (Nat.le_of_ble_eq_true rfl), (Nat.le_of_ble_eq_true rfl)⟩ rfl rfl rfl (Nat.le_of_ble_eq_true rfl) ⟨(Nat.le_of_ble_eq_true rfl), (Nat.le_of_ble_eq_true rfl)⟩ (fun r1 μ1 h1 => ?_)
  obtain ⟨e1r, hF1⟩ := h1
  obtain ⟨g1, g2⟩ := law_x hM hF1
  refine jw_aload_n C dL_law_354 rfl 3 rfl ?_
  refine jw_aload_n C dL_law_355 rfl 1 rfl ?_
  refine jw_iload_n C dL_law_356 rfl 0 rfl ?_
  refine jw_iconst (v := 1) C dL_law_357 (by decide) ?_
  refine jw_iadd C dL_law_358 ?_
  rw [s1]
  refine jw_sld C hX hbl hbA (vinI (show i + 1 < L by omega) (by omega)) dL_law_359 ?_
  refine jw_aload_n C dL_law_360 rfl 1 rfl ?_
  refine jw_iload_n C dL_law_361 rfl 0 rfl ?_
  refine jw_iconst (v := 2) C dL_law_362 (by decide) ?_
  refine jw_iadd C dL_law_363 ?_
  rw [s2]
  refine jw_sld C hX hbl hbA (vinI (show i + 2 < L by omega) (by omega)) dL_law_364 ?_
  refine jw_gVI (b := 88) (rest := [.int r1]) C dL_law_365 (e1 88) shL_m (ctX6_ofKey l (xs (nI (i + 1)).toNatClampNeg) (xs (nI (i + 2)).toNatClampNeg) (fun k => glue (e1 0) shX.length μ μ1 (e1 88 k)) (fun r μ' => r = (fKey (xs (nI (i + 1)).toNatClampNeg) (xs (nI (i + 2)).toNatClampNeg) F) ∧ RepM μ' F) (m_key g2 hok ⟨rfl, g2⟩)) miX6_ofKey rfl rfl gL_law_X6_ofKey rfl ⟨rfl, rfl, (Nat.le_of_ble_eq_true rfl), (Nat.le_of_ble_eq_true rfl)⟩ rfl rfl rfl (Nat.le_of_ble_eq_true rfl) ⟨(Nat.le_of_ble_eq_true rfl), (Nat.le_of_ble_eq_true rfl)⟩ (fun r2 μ2 h2 => ?_)
  obtain ⟨e2r, hM2⟩ := h2
  obtain ⟨k1, k2⟩ := law_m g1 hM2
  refine jw_icmp_eq C 695 dL_law_368 (by decide) (fun _ => hnext _ F k1 k2 hok) (fun c => absurd (e1r.trans e2r.symm) c)
set_option maxRecDepth 100000 in
set_option maxHeartbeats 4000000 in
theorem lwc_count {K : KT} {l : Launch} {b L : Nat} {xs : Nat → Int32} {ad : Nat → Nat} {μ : Mem} {F : FS} {i : Nat} (C : Ctx K l cL_law RL wsL_law room_1 shL ad) (hX : va_X b L xs (kS K) (kS K).heap) (hbl : b < (kS K).heap.size) (hbA : ¬ kA K b) (hi : i + 5 ≤ L) (hL : L ≤ 2560) (hF : RepF μ F) (hM : RepM (fun k => μ (88 + k)) F) (hok : FOk F) (hnext : ∀ μ' F', RepF μ' F' → RepM (fun k => μ' (88 + k)) F' → FOk F' → JW K csL shL ad μ' 695 (lvL b ad i) []) : JW K csL shL ad μ 373 (lvL b ad i) [] := by
  have s1 : nI i + (1 : Int32) = nI (i + 1) := by rw [li 1, nI_add]
  have s2 : nI i + (2 : Int32) = nI (i + 2) := by rw [li 2, nI_add]
  have s3 : nI i + (3 : Int32) = nI (i + 3) := by rw [li 3, nI_add]
  have s4 : nI i + (4 : Int32) = nI (i + 4) := by rw [li 4, nI_add]
  refine jw_aload_n C dL_law_373 rfl 2 rfl ?_
  refine jw_aload_n C dL_law_374 rfl 1 rfl ?_
  refine jw_iload_n C dL_law_375 rfl 0 rfl ?_
  refine jw_iconst (v := 1) C dL_law_376 (by decide) ?_
  refine jw_iadd C dL_law_377 ?_
  rw [s1]
  refine jw_sld C hX hbl hbA (vinI (show i + 1 < L by omega) (by omega)) dL_law_378 ?_
  refine jw_gVI (b := 0) (rest := []) C dL_law_379 (e1 0) shL_x (ctX5_count l (xs (nI (i + 1)).toNatClampNeg) (fun k => μ (e1 0 k)) (fun r μ' => r = (fCount (xs (nI (i + 1)).toNatClampNeg) F) ∧ RepF μ' F) (x_count (law_0 hF) hok ⟨rfl, law_0 hF⟩)) miX5_count rfl rfl gL_law_X5_count rfl ⟨rfl, rfl, (Nat.le_of_ble_eq_true rfl), (Nat.le_of_ble_eq_true rfl)⟩ rfl rfl rfl (Nat.le_of_ble_eq_true rfl) ⟨(Nat.le_of_ble_eq_true rfl), (Nat.le_of_ble_eq_true rfl)⟩ (fun r1 μ1 h1 => ?_)
  obtain ⟨e1r, hF1⟩ := h1
  obtain ⟨g1, g2⟩ := law_x hM hF1
  refine jw_aload_n C dL_law_382 rfl 3 rfl ?_
  refine jw_aload_n C dL_law_383 rfl 1 rfl ?_
  refine jw_iload_n C dL_law_384 rfl 0 rfl ?_
  refine jw_iconst (v := 1) C dL_law_385 (by decide) ?_
  refine jw_iadd C dL_law_386 ?_
  rw [s1]
  refine jw_sld C hX hbl hbA (vinI (show i + 1 < L by omega) (by omega)) dL_law_387 ?_
  refine jw_gVI (b := 88) (rest := [.int r1]) C dL_law_388 (e1 88) shL_m (ctX6_count l (xs (nI (i + 1)).toNatClampNeg) (fun k => glue (e1 0) shX.length μ μ1 (e1 88 k)) (fun r μ' => r = (fCount (xs (nI (i + 1)).toNatClampNeg) F) ∧ RepM μ' F) (m_count g2 hok ⟨rfl, g2⟩)) miX6_count rfl rfl gL_law_X6_count rfl ⟨rfl, rfl, (Nat.le_of_ble_eq_true rfl), (Nat.le_of_ble_eq_true rfl)⟩ rfl rfl rfl (Nat.le_of_ble_eq_true rfl) ⟨(Nat.le_of_ble_eq_true rfl), (Nat.le_of_ble_eq_true rfl)⟩ (fun r2 μ2 h2 => ?_)
  obtain ⟨e2r, hM2⟩ := h2
  obtain ⟨k1, k2⟩ := law_m g1 hM2
  refine jw_icmp_eq C 695 dL_law_391 (by decide) (fun _ => hnext _ F k1 k2 hok) (fun c => absurd (e1r.trans e2r.symm) c)
set_option maxRecDepth 100000 in
set_option maxHeartbeats 4000000 in
theorem lwc_sum {K : KT} {l : Launch} {b L : Nat} {xs : Nat → Int32} {ad : Nat → Nat} {μ : Mem} {F : FS} {i : Nat} (C : Ctx K l cL_law RL wsL_law room_1 shL ad) (hX : va_X b L xs (kS K) (kS K).heap) (hbl : b < (kS K).heap.size) (hbA : ¬ kA K b) (hi : i + 5 ≤ L) (hL : L ≤ 2560) (hF : RepF μ F) (hM : RepM (fun k => μ (88 + k)) F) (hok : FOk F) (hnext : ∀ μ' F', RepF μ' F' → RepM (fun k => μ' (88 + k)) F' → FOk F' → JW K csL shL ad μ' 695 (lvL b ad i) []) : JW K csL shL ad μ 396 (lvL b ad i) [] := by
  have s1 : nI i + (1 : Int32) = nI (i + 1) := by rw [li 1, nI_add]
  have s2 : nI i + (2 : Int32) = nI (i + 2) := by rw [li 2, nI_add]
  have s3 : nI i + (3 : Int32) = nI (i + 3) := by rw [li 3, nI_add]
  have s4 : nI i + (4 : Int32) = nI (i + 4) := by rw [li 4, nI_add]
  refine jw_aload_n C dL_law_396 rfl 2 rfl ?_
  refine jw_aload_n C dL_law_397 rfl 1 rfl ?_
  refine jw_iload_n C dL_law_398 rfl 0 rfl ?_
  refine jw_iconst (v := 1) C dL_law_399 (by decide) ?_
  refine jw_iadd C dL_law_400 ?_
  rw [s1]
  refine jw_sld C hX hbl hbA (vinI (show i + 1 < L by omega) (by omega)) dL_law_401 ?_
  refine jw_aload_n C dL_law_402 rfl 1 rfl ?_
  refine jw_iload_n C dL_law_403 rfl 0 rfl ?_
  refine jw_iconst (v := 2) C dL_law_404 (by decide) ?_
  refine jw_iadd C dL_law_405 ?_
  rw [s2]
  refine jw_sld C hX hbl hbA (vinI (show i + 2 < L by omega) (by omega)) dL_law_406 ?_
  refine jw_gVI (b := 0) (rest := []) C dL_law_407 (e1 0) shL_x (ctX5_sum l (xs (nI (i + 1)).toNatClampNeg) (xs (nI (i + 2)).toNatClampNeg) (fun k => μ (e1 0 k)) (fun r μ' => r = (fSum (xs (nI (i + 1)).toNatClampNeg) (xs (nI (i + 2)).toNatClampNeg) F) ∧ RepF μ' F) (x_sum (law_0 hF) hok ⟨rfl, law_0 hF⟩)) miX5_sum rfl rfl gL_law_X5_sum rfl ⟨rfl, rfl, (Nat.le_of_ble_eq_true rfl), (Nat.le_of_ble_eq_true rfl)⟩ rfl rfl rfl (Nat.le_of_ble_eq_true rfl) ⟨(Nat.le_of_ble_eq_true rfl), (Nat.le_of_ble_eq_true rfl)⟩ (fun r1 μ1 h1 => ?_)
  obtain ⟨e1r, hF1⟩ := h1
  obtain ⟨g1, g2⟩ := law_x hM hF1
  refine jw_aload_n C dL_law_410 rfl 3 rfl ?_
  refine jw_aload_n C dL_law_411 rfl 1 rfl ?_
  refine jw_iload_n C dL_law_412 rfl 0 rfl ?_
  refine jw_iconst (v := 1) C dL_law_413 (by decide) ?_
  refine jw_iadd C dL_law_414 ?_
  rw [s1]
  refine jw_sld C hX hbl hbA (vinI (show i + 1 < L by omega) (by omega)) dL_law_415 ?_
  refine jw_aload_n C dL_law_416 rfl 1 rfl ?_
  refine jw_iload_n C dL_law_417 rfl 0 rfl ?_
  refine jw_iconst (v := 2) C dL_law_418 (by decide) ?_
  refine jw_iadd C dL_law_419 ?_
  rw [s2]
  refine jw_sld C hX hbl hbA (vinI (show i + 2 < L by omega) (by omega)) dL_law_420 ?_
  refine jw_gVI (b := 88) (rest := [.int r1]) C dL_law_421 (e1 88) shL_m (ctX6_sum l (xs (nI (i + 1)).toNatClampNeg) (xs (nI (i + 2)).toNatClampNeg) (fun k => glue (e1 0) shX.length μ μ1 (e1 88 k)) (fun r μ' => r = (fSum (xs (nI (i + 1)).toNatClampNeg) (xs (nI (i + 2)).toNatClampNeg) F) ∧ RepM μ' F) (m_sum g2 hok ⟨rfl, g2⟩)) miX6_sum rfl rfl gL_law_X6_sum rfl ⟨rfl, rfl, (Nat.le_of_ble_eq_true rfl), (Nat.le_of_ble_eq_true rfl)⟩ rfl rfl rfl (Nat.le_of_ble_eq_true rfl) ⟨(Nat.le_of_ble_eq_true rfl), (Nat.le_of_ble_eq_true rfl)⟩ (fun r2 μ2 h2 => ?_)
  obtain ⟨e2r, hM2⟩ := h2
  obtain ⟨k1, k2⟩ := law_m g1 hM2
  refine jw_icmp_eq C 695 dL_law_424 (by decide) (fun _ => hnext _ F k1 k2 hok) (fun c => absurd (e1r.trans e2r.symm) c)
set_option maxRecDepth 100000 in
set_option maxHeartbeats 4000000 in
theorem lwc_heaviest {K : KT} {l : Launch} {b L : Nat} {xs : Nat → Int32} {ad : Nat → Nat} {μ : Mem} {F : FS} {i : Nat} (C : Ctx K l cL_law RL wsL_law room_1 shL ad) (hX : va_X b L xs (kS K) (kS K).heap) (hbl : b < (kS K).heap.size) (hbA : ¬ kA K b) (hi : i + 5 ≤ L) (hL : L ≤ 2560) (hF : RepF μ F) (hM : RepM (fun k => μ (88 + k)) F) (hok : FOk F) (hnext : ∀ μ' F', RepF μ' F' → RepM (fun k => μ' (88 + k)) F' → FOk F' → JW K csL shL ad μ' 695 (lvL b ad i) []) : JW K csL shL ad μ 429 (lvL b ad i) [] := by
  have s1 : nI i + (1 : Int32) = nI (i + 1) := by rw [li 1, nI_add]
  have s2 : nI i + (2 : Int32) = nI (i + 2) := by rw [li 2, nI_add]
  have s3 : nI i + (3 : Int32) = nI (i + 3) := by rw [li 3, nI_add]
  have s4 : nI i + (4 : Int32) = nI (i + 4) := by rw [li 4, nI_add]
  refine jw_aload_n C dL_law_429 rfl 2 rfl ?_
  refine jw_aload_n C dL_law_430 rfl 1 rfl ?_
  refine jw_iload_n C dL_law_431 rfl 0 rfl ?_
  refine jw_iconst (v := 1) C dL_law_432 (by decide) ?_
  refine jw_iadd C dL_law_433 ?_
  rw [s1]
  refine jw_sld C hX hbl hbA (vinI (show i + 1 < L by omega) (by omega)) dL_law_434 ?_
  refine jw_gVI (b := 0) (rest := []) C dL_law_435 (e1 0) shL_x (ctX5_heaviest l (xs (nI (i + 1)).toNatClampNeg) (fun k => μ (e1 0 k)) (fun r μ' => r = (fHeavy (xs (nI (i + 1)).toNatClampNeg) F) ∧ RepF μ' F) (x_heavy (law_0 hF) hok ⟨rfl, law_0 hF⟩)) miX5_heaviest rfl rfl gL_law_X5_heaviest rfl ⟨rfl, rfl, (Nat.le_of_ble_eq_true rfl), (Nat.le_of_ble_eq_true rfl)⟩ rfl rfl rfl (Nat.le_of_ble_eq_true rfl) ⟨(Nat.le_of_ble_eq_true rfl), (Nat.le_of_ble_eq_true rfl)⟩ (fun r1 μ1 h1 => ?_)
  obtain ⟨e1r, hF1⟩ := h1
  obtain ⟨g1, g2⟩ := law_x hM hF1
  refine jw_aload_n C dL_law_438 rfl 3 rfl ?_
  refine jw_aload_n C dL_law_439 rfl 1 rfl ?_
  refine jw_iload_n C dL_law_440 rfl 0 rfl ?_
  refine jw_iconst (v := 1) C dL_law_441 (by decide) ?_
  refine jw_iadd C dL_law_442 ?_
  rw [s1]
  refine jw_sld C hX hbl hbA (vinI (show i + 1 < L by omega) (by omega)) dL_law_443 ?_
  refine jw_gVI (b := 88) (rest := [.int r1]) C dL_law_444 (e1 88) shL_m (ctX6_heaviest l (xs (nI (i + 1)).toNatClampNeg) (fun k => glue (e1 0) shX.length μ μ1 (e1 88 k)) (fun r μ' => r = (fHeavy (xs (nI (i + 1)).toNatClampNeg) F) ∧ RepM μ' F) (m_heavy g2 hok ⟨rfl, g2⟩)) miX6_heaviest rfl rfl gL_law_X6_heaviest rfl ⟨rfl, rfl, (Nat.le_of_ble_eq_true rfl), (Nat.le_of_ble_eq_true rfl)⟩ rfl rfl rfl (Nat.le_of_ble_eq_true rfl) ⟨(Nat.le_of_ble_eq_true rfl), (Nat.le_of_ble_eq_true rfl)⟩ (fun r2 μ2 h2 => ?_)
  obtain ⟨e2r, hM2⟩ := h2
  obtain ⟨k1, k2⟩ := law_m g1 hM2
  refine jw_icmp_eq C 695 dL_law_447 (by decide) (fun _ => hnext _ F k1 k2 hok) (fun c => absurd (e1r.trans e2r.symm) c)
set_option maxRecDepth 100000 in
set_option maxHeartbeats 4000000 in
theorem lwc_wouldSink {K : KT} {l : Launch} {b L : Nat} {xs : Nat → Int32} {ad : Nat → Nat} {μ : Mem} {F : FS} {i : Nat} (C : Ctx K l cL_law RL wsL_law room_1 shL ad) (hX : va_X b L xs (kS K) (kS K).heap) (hbl : b < (kS K).heap.size) (hbA : ¬ kA K b) (hi : i + 5 ≤ L) (hL : L ≤ 2560) (hF : RepF μ F) (hM : RepM (fun k => μ (88 + k)) F) (hok : FOk F) (hnext : ∀ μ' F', RepF μ' F' → RepM (fun k => μ' (88 + k)) F' → FOk F' → JW K csL shL ad μ' 695 (lvL b ad i) []) : JW K csL shL ad μ 452 (lvL b ad i) [] := by
  have s1 : nI i + (1 : Int32) = nI (i + 1) := by rw [li 1, nI_add]
  have s2 : nI i + (2 : Int32) = nI (i + 2) := by rw [li 2, nI_add]
  have s3 : nI i + (3 : Int32) = nI (i + 3) := by rw [li 3, nI_add]
  have s4 : nI i + (4 : Int32) = nI (i + 4) := by rw [li 4, nI_add]
  refine jw_aload_n C dL_law_452 rfl 2 rfl ?_
  refine jw_aload_n C dL_law_453 rfl 1 rfl ?_
  refine jw_iload_n C dL_law_454 rfl 0 rfl ?_
  refine jw_iconst (v := 1) C dL_law_455 (by decide) ?_
  refine jw_iadd C dL_law_456 ?_
  rw [s1]
  refine jw_sld C hX hbl hbA (vinI (show i + 1 < L by omega) (by omega)) dL_law_457 ?_
  refine jw_gVI (b := 0) (rest := []) C dL_law_458 (e1 0) shL_x (ctX5_wouldSink l (xs (nI (i + 1)).toNatClampNeg) (fun k => μ (e1 0 k)) (fun r μ' => r = (fWould (xs (nI (i + 1)).toNatClampNeg) F) ∧ RepF μ' F) (x_would (law_0 hF) hok (fun _ h => ⟨rfl, h⟩))) miX5_wouldSink rfl rfl gL_law_X5_wouldSink rfl ⟨rfl, rfl, (Nat.le_of_ble_eq_true rfl), (Nat.le_of_ble_eq_true rfl)⟩ rfl rfl rfl (Nat.le_of_ble_eq_true rfl) ⟨(Nat.le_of_ble_eq_true rfl), (Nat.le_of_ble_eq_true rfl)⟩ (fun r1 μ1 h1 => ?_)
  obtain ⟨e1r, hF1⟩ := h1
  obtain ⟨g1, g2⟩ := law_x hM hF1
  refine jw_aload_n C dL_law_461 rfl 3 rfl ?_
  refine jw_aload_n C dL_law_462 rfl 1 rfl ?_
  refine jw_iload_n C dL_law_463 rfl 0 rfl ?_
  refine jw_iconst (v := 1) C dL_law_464 (by decide) ?_
  refine jw_iadd C dL_law_465 ?_
  rw [s1]
  refine jw_sld C hX hbl hbA (vinI (show i + 1 < L by omega) (by omega)) dL_law_466 ?_
  refine jw_gVI (b := 88) (rest := [.int r1]) C dL_law_467 (e1 88) shL_m (ctX6_wouldSink l (xs (nI (i + 1)).toNatClampNeg) (fun k => glue (e1 0) shX.length μ μ1 (e1 88 k)) (fun r μ' => r = (fWould (xs (nI (i + 1)).toNatClampNeg) F) ∧ RepM μ' F) (m_would g2 hok (fun _ h => ⟨rfl, h⟩))) miX6_wouldSink rfl rfl gL_law_X6_wouldSink rfl ⟨rfl, rfl, (Nat.le_of_ble_eq_true rfl), (Nat.le_of_ble_eq_true rfl)⟩ rfl rfl rfl (Nat.le_of_ble_eq_true rfl) ⟨(Nat.le_of_ble_eq_true rfl), (Nat.le_of_ble_eq_true rfl)⟩ (fun r2 μ2 h2 => ?_)
  obtain ⟨e2r, hM2⟩ := h2
  obtain ⟨k1, k2⟩ := law_m g1 hM2
  refine jw_icmp_eq C 695 dL_law_470 (by decide) (fun _ => hnext _ F k1 k2 hok) (fun c => absurd (e1r.trans e2r.symm) c)
set_option maxRecDepth 100000 in
set_option maxHeartbeats 4000000 in
theorem lwc_worstKey {K : KT} {l : Launch} {b L : Nat} {xs : Nat → Int32} {ad : Nat → Nat} {μ : Mem} {F : FS} {i : Nat} (C : Ctx K l cL_law RL wsL_law room_1 shL ad) (hX : va_X b L xs (kS K) (kS K).heap) (hbl : b < (kS K).heap.size) (hbA : ¬ kA K b) (hi : i + 5 ≤ L) (hL : L ≤ 2560) (hF : RepF μ F) (hM : RepM (fun k => μ (88 + k)) F) (hok : FOk F) (hnext : ∀ μ' F', RepF μ' F' → RepM (fun k => μ' (88 + k)) F' → FOk F' → JW K csL shL ad μ' 695 (lvL b ad i) []) : JW K csL shL ad μ 475 (lvL b ad i) [] := by
  have s1 : nI i + (1 : Int32) = nI (i + 1) := by rw [li 1, nI_add]
  have s2 : nI i + (2 : Int32) = nI (i + 2) := by rw [li 2, nI_add]
  have s3 : nI i + (3 : Int32) = nI (i + 3) := by rw [li 3, nI_add]
  have s4 : nI i + (4 : Int32) = nI (i + 4) := by rw [li 4, nI_add]
  refine jw_aload_n C dL_law_475 rfl 2 rfl ?_
  refine jw_aload_n C dL_law_476 rfl 1 rfl ?_
  refine jw_iload_n C dL_law_477 rfl 0 rfl ?_
  refine jw_iconst (v := 1) C dL_law_478 (by decide) ?_
  refine jw_iadd C dL_law_479 ?_
  rw [s1]
  refine jw_sld C hX hbl hbA (vinI (show i + 1 < L by omega) (by omega)) dL_law_480 ?_
  refine jw_gVI (b := 0) (rest := []) C dL_law_481 (e1 0) shL_x (ctX5_worstKey l (xs (nI (i + 1)).toNatClampNeg) (fun k => μ (e1 0 k)) (fun r μ' => r = (fWorst (xs (nI (i + 1)).toNatClampNeg) F) ∧ RepF μ' F) (x_worst (law_0 hF) hok (fun _ h => ⟨rfl, h⟩))) miX5_worstKey rfl rfl gL_law_X5_worstKey rfl ⟨rfl, rfl, (Nat.le_of_ble_eq_true rfl), (Nat.le_of_ble_eq_true rfl)⟩ rfl rfl rfl (Nat.le_of_ble_eq_true rfl) ⟨(Nat.le_of_ble_eq_true rfl), (Nat.le_of_ble_eq_true rfl)⟩ (fun r1 μ1 h1 => ?_)
  obtain ⟨e1r, hF1⟩ := h1
  obtain ⟨g1, g2⟩ := law_x hM hF1
  refine jw_aload_n C dL_law_484 rfl 3 rfl ?_
  refine jw_aload_n C dL_law_485 rfl 1 rfl ?_
  refine jw_iload_n C dL_law_486 rfl 0 rfl ?_
  refine jw_iconst (v := 1) C dL_law_487 (by decide) ?_
  refine jw_iadd C dL_law_488 ?_
  rw [s1]
  refine jw_sld C hX hbl hbA (vinI (show i + 1 < L by omega) (by omega)) dL_law_489 ?_
  refine jw_gVI (b := 88) (rest := [.int r1]) C dL_law_490 (e1 88) shL_m (ctX6_worstKey l (xs (nI (i + 1)).toNatClampNeg) (fun k => glue (e1 0) shX.length μ μ1 (e1 88 k)) (fun r μ' => r = (fWorst (xs (nI (i + 1)).toNatClampNeg) F) ∧ RepM μ' F) (m_worst g2 hok (fun _ h => ⟨rfl, h⟩))) miX6_worstKey rfl rfl gL_law_X6_worstKey rfl ⟨rfl, rfl, (Nat.le_of_ble_eq_true rfl), (Nat.le_of_ble_eq_true rfl)⟩ rfl rfl rfl (Nat.le_of_ble_eq_true rfl) ⟨(Nat.le_of_ble_eq_true rfl), (Nat.le_of_ble_eq_true rfl)⟩ (fun r2 μ2 h2 => ?_)
  obtain ⟨e2r, hM2⟩ := h2
  obtain ⟨k1, k2⟩ := law_m g1 hM2
  refine jw_icmp_eq C 695 dL_law_493 (by decide) (fun _ => hnext _ F k1 k2 hok) (fun c => absurd (e1r.trans e2r.symm) c)
set_option maxRecDepth 100000 in
set_option maxHeartbeats 4000000 in
theorem lwc_toEmptyAll {K : KT} {l : Launch} {b L : Nat} {xs : Nat → Int32} {ad : Nat → Nat} {μ : Mem} {F : FS} {i : Nat} (C : Ctx K l cL_law RL wsL_law room_1 shL ad) (hX : va_X b L xs (kS K) (kS K).heap) (hbl : b < (kS K).heap.size) (hbA : ¬ kA K b) (hi : i + 5 ≤ L) (hL : L ≤ 2560) (hF : RepF μ F) (hM : RepM (fun k => μ (88 + k)) F) (hok : FOk F) (hnext : ∀ μ' F', RepF μ' F' → RepM (fun k => μ' (88 + k)) F' → FOk F' → JW K csL shL ad μ' 695 (lvL b ad i) []) : JW K csL shL ad μ 498 (lvL b ad i) [] := by
  have s1 : nI i + (1 : Int32) = nI (i + 1) := by rw [li 1, nI_add]
  have s2 : nI i + (2 : Int32) = nI (i + 2) := by rw [li 2, nI_add]
  have s3 : nI i + (3 : Int32) = nI (i + 3) := by rw [li 3, nI_add]
  have s4 : nI i + (4 : Int32) = nI (i + 4) := by rw [li 4, nI_add]
  refine jw_aload_n C dL_law_498 rfl 2 rfl ?_
  refine jw_gVI (b := 0) (rest := []) C dL_law_499 (e1 0) shL_x (ctX5_toEmptyAll l (fun k => μ (e1 0 k)) (fun r μ' => r = (fToE F) ∧ RepF μ' F) (x_toE (law_0 hF) hok (fun _ h => ⟨rfl, h⟩))) miX5_toEmptyAll rfl rfl gL_law_X5_toEmptyAll rfl ⟨rfl, rfl, (Nat.le_of_ble_eq_true rfl), (Nat.le_of_ble_eq_true rfl)⟩ rfl rfl rfl (Nat.le_of_ble_eq_true rfl) ⟨(Nat.le_of_ble_eq_true rfl), (Nat.le_of_ble_eq_true rfl)⟩ (fun r1 μ1 h1 => ?_)
  obtain ⟨e1r, hF1⟩ := h1
  obtain ⟨g1, g2⟩ := law_x hM hF1
  refine jw_aload_n C dL_law_502 rfl 3 rfl ?_
  refine jw_gVI (b := 88) (rest := [.int r1]) C dL_law_503 (e1 88) shL_m (ctX6_toEmptyAll l (fun k => glue (e1 0) shX.length μ μ1 (e1 88 k)) (fun r μ' => r = (fToE F) ∧ RepM μ' F) (m_toE g2 hok (fun _ h => ⟨rfl, h⟩))) miX6_toEmptyAll rfl rfl gL_law_X6_toEmptyAll rfl ⟨rfl, rfl, (Nat.le_of_ble_eq_true rfl), (Nat.le_of_ble_eq_true rfl)⟩ rfl rfl rfl (Nat.le_of_ble_eq_true rfl) ⟨(Nat.le_of_ble_eq_true rfl), (Nat.le_of_ble_eq_true rfl)⟩ (fun r2 μ2 h2 => ?_)
  obtain ⟨e2r, hM2⟩ := h2
  obtain ⟨k1, k2⟩ := law_m g1 hM2
  refine jw_icmp_eq C 695 dL_law_506 (by decide) (fun _ => hnext _ F k1 k2 hok) (fun c => absurd (e1r.trans e2r.symm) c)
set_option maxRecDepth 100000 in
set_option maxHeartbeats 4000000 in
theorem lwc_same {K : KT} {l : Launch} {b L : Nat} {xs : Nat → Int32} {ad : Nat → Nat} {μ : Mem} {F : FS} {i : Nat} (C : Ctx K l cL_law RL wsL_law room_1 shL ad) (hX : va_X b L xs (kS K) (kS K).heap) (hbl : b < (kS K).heap.size) (hbA : ¬ kA K b) (hi : i + 5 ≤ L) (hL : L ≤ 2560) (hF : RepF μ F) (hM : RepM (fun k => μ (88 + k)) F) (hok : FOk F) (hnext : ∀ μ' F', RepF μ' F' → RepM (fun k => μ' (88 + k)) F' → FOk F' → JW K csL shL ad μ' 695 (lvL b ad i) []) : JW K csL shL ad μ 511 (lvL b ad i) [] := by
  have s1 : nI i + (1 : Int32) = nI (i + 1) := by rw [li 1, nI_add]
  have s2 : nI i + (2 : Int32) = nI (i + 2) := by rw [li 2, nI_add]
  have s3 : nI i + (3 : Int32) = nI (i + 3) := by rw [li 3, nI_add]
  have s4 : nI i + (4 : Int32) = nI (i + 4) := by rw [li 4, nI_add]
  refine jw_aload_n C dL_law_511 rfl 2 rfl ?_
  refine jw_aload_n C dL_law_512 rfl 1 rfl ?_
  refine jw_iload_n C dL_law_513 rfl 0 rfl ?_
  refine jw_iconst (v := 1) C dL_law_514 (by decide) ?_
  refine jw_iadd C dL_law_515 ?_
  rw [s1]
  refine jw_sld C hX hbl hbA (vinI (show i + 1 < L by omega) (by omega)) dL_law_516 ?_
  refine jw_aload_n C dL_law_517 rfl 1 rfl ?_
  refine jw_iload_n C dL_law_518 rfl 0 rfl ?_
  refine jw_iconst (v := 2) C dL_law_519 (by decide) ?_
  refine jw_iadd C dL_law_520 ?_
  rw [s2]
  refine jw_sld C hX hbl hbA (vinI (show i + 2 < L by omega) (by omega)) dL_law_521 ?_
  refine jw_gVI (b := 0) (rest := []) C dL_law_522 (e1 0) shL_x (ctX5_same l (xs (nI (i + 1)).toNatClampNeg) (xs (nI (i + 2)).toNatClampNeg) (fun k => μ (e1 0 k)) (fun r μ' => r = (fSame (xs (nI (i + 1)).toNatClampNeg) (xs (nI (i + 2)).toNatClampNeg) F) ∧ RepF μ' F) (x_same (law_0 hF) hok ⟨rfl, law_0 hF⟩)) miX5_same rfl rfl gL_law_X5_same rfl ⟨rfl, rfl, (Nat.le_of_ble_eq_true rfl), (Nat.le_of_ble_eq_true rfl)⟩ rfl rfl rfl (Nat.le_of_ble_eq_true rfl) ⟨(Nat.le_of_ble_eq_true rfl), (Nat.le_of_ble_eq_true rfl)⟩ (fun r1 μ1 h1 => ?_)
  obtain ⟨e1r, hF1⟩ := h1
  obtain ⟨g1, g2⟩ := law_x hM hF1
  refine jw_aload_n C dL_law_525 rfl 3 rfl ?_
  refine jw_aload_n C dL_law_526 rfl 1 rfl ?_
  refine jw_iload_n C dL_law_527 rfl 0 rfl ?_
  refine jw_iconst (v := 1) C dL_law_528 (by decide) ?_
  refine jw_iadd C dL_law_529 ?_
  rw [s1]
  refine jw_sld C hX hbl hbA (vinI (show i + 1 < L by omega) (by omega)) dL_law_530 ?_
  refine jw_aload_n C dL_law_531 rfl 1 rfl ?_
  refine jw_iload_n C dL_law_532 rfl 0 rfl ?_
  refine jw_iconst (v := 2) C dL_law_533 (by decide) ?_
  refine jw_iadd C dL_law_534 ?_
  rw [s2]
  refine jw_sld C hX hbl hbA (vinI (show i + 2 < L by omega) (by omega)) dL_law_535 ?_
  refine jw_gVI (b := 88) (rest := [.int r1]) C dL_law_536 (e1 88) shL_m (ctX6_same l (xs (nI (i + 1)).toNatClampNeg) (xs (nI (i + 2)).toNatClampNeg) (fun k => glue (e1 0) shX.length μ μ1 (e1 88 k)) (fun r μ' => r = (fSame (xs (nI (i + 1)).toNatClampNeg) (xs (nI (i + 2)).toNatClampNeg) F) ∧ RepM μ' F) (m_same g2 hok ⟨rfl, g2⟩)) miX6_same rfl rfl gL_law_X6_same rfl ⟨rfl, rfl, (Nat.le_of_ble_eq_true rfl), (Nat.le_of_ble_eq_true rfl)⟩ rfl rfl rfl (Nat.le_of_ble_eq_true rfl) ⟨(Nat.le_of_ble_eq_true rfl), (Nat.le_of_ble_eq_true rfl)⟩ (fun r2 μ2 h2 => ?_)
  obtain ⟨e2r, hM2⟩ := h2
  obtain ⟨k1, k2⟩ := law_m g1 hM2
  refine jw_icmp_eq C 695 dL_law_539 (by decide) (fun _ => hnext _ F k1 k2 hok) (fun c => absurd (e1r.trans e2r.symm) c)
set_option maxRecDepth 100000 in
set_option maxHeartbeats 4000000 in
theorem lwc_put {K : KT} {l : Launch} {b L : Nat} {xs : Nat → Int32} {ad : Nat → Nat} {μ : Mem} {F : FS} {i : Nat} (C : Ctx K l cL_law RL wsL_law room_1 shL ad) (hX : va_X b L xs (kS K) (kS K).heap) (hbl : b < (kS K).heap.size) (hbA : ¬ kA K b) (hi : i + 5 ≤ L) (hL : L ≤ 2560) (hF : RepF μ F) (hM : RepM (fun k => μ (88 + k)) F) (hok : FOk F) (hnext : ∀ μ' F', RepF μ' F' → RepM (fun k => μ' (88 + k)) F' → FOk F' → JW K csL shL ad μ' 695 (lvL b ad i) []) : JW K csL shL ad μ 544 (lvL b ad i) [] := by
  have s1 : nI i + (1 : Int32) = nI (i + 1) := by rw [li 1, nI_add]
  have s2 : nI i + (2 : Int32) = nI (i + 2) := by rw [li 2, nI_add]
  have s3 : nI i + (3 : Int32) = nI (i + 3) := by rw [li 3, nI_add]
  have s4 : nI i + (4 : Int32) = nI (i + 4) := by rw [li 4, nI_add]
  refine jw_aload_n C dL_law_544 rfl 2 rfl ?_
  refine jw_aload_n C dL_law_545 rfl 1 rfl ?_
  refine jw_iload_n C dL_law_546 rfl 0 rfl ?_
  refine jw_iconst (v := 1) C dL_law_547 (by decide) ?_
  refine jw_iadd C dL_law_548 ?_
  rw [s1]
  refine jw_sld C hX hbl hbA (vinI (show i + 1 < L by omega) (by omega)) dL_law_549 ?_
  refine jw_i2l C dL_law_550 ?_
  refine jw_bipush (v := 32) C dL_law_551 (by decide) ?_
  refine jw_lshl C dL_law_553 ?_
  refine jw_aload_n C dL_law_554 rfl 1 rfl ?_
  refine jw_iload_n C dL_law_555 rfl 0 rfl ?_
  refine jw_iconst (v := 2) C dL_law_556 (by decide) ?_
  refine jw_iadd C dL_law_557 ?_
  rw [s2]
  refine jw_sld C hX hbl hbA (vinI (show i + 2 < L by omega) (by omega)) dL_law_558 ?_
  refine jw_i2l C dL_law_559 ?_
  refine jw_ldc2 C wL_74 dL_law_560 ?_
  refine jw_land C dL_law_563 ?_
  refine jw_lor C dL_law_564 ?_
  refine jw_gVI (b := 0) (rest := []) C dL_law_565 (e1 0) shL_x (ctX5_put l (((xs (nI (i + 1)).toNatClampNeg).toInt64 <<< ((32 : Int32).toInt64 &&& 63)) ||| ((xs (nI (i + 2)).toNatClampNeg).toInt64 &&& 4294967295)) (fun k => μ (e1 0 k)) (fun r μ' => r = (fPut (((xs (nI (i + 1)).toNatClampNeg).toInt64 <<< ((32 : Int32).toInt64 &&& 63)) ||| ((xs (nI (i + 2)).toNatClampNeg).toInt64 &&& 4294967295)) F).1 ∧ RepF μ' (fPut (((xs (nI (i + 1)).toNatClampNeg).toInt64 <<< ((32 : Int32).toInt64 &&& 63)) ||| ((xs (nI (i + 2)).toNatClampNeg).toInt64 &&& 4294967295)) F).2) (x_put (law_0 hF) hok (fun _ h => ⟨rfl, h⟩))) miX5_put rfl rfl gL_law_X5_put rfl ⟨rfl, rfl, (Nat.le_of_ble_eq_true rfl), (Nat.le_of_ble_eq_true rfl)⟩ rfl rfl rfl (Nat.le_of_ble_eq_true rfl) ⟨(Nat.le_of_ble_eq_true rfl), (Nat.le_of_ble_eq_true rfl)⟩ (fun r1 μ1 h1 => ?_)
  obtain ⟨e1r, hF1⟩ := h1
  obtain ⟨g1, g2⟩ := law_x hM hF1
  refine jw_aload_n C dL_law_568 rfl 3 rfl ?_
  refine jw_aload_n C dL_law_569 rfl 1 rfl ?_
  refine jw_iload_n C dL_law_570 rfl 0 rfl ?_
  refine jw_iconst (v := 1) C dL_law_571 (by decide) ?_
  refine jw_iadd C dL_law_572 ?_
  rw [s1]
  refine jw_sld C hX hbl hbA (vinI (show i + 1 < L by omega) (by omega)) dL_law_573 ?_
  refine jw_i2l C dL_law_574 ?_
  refine jw_bipush (v := 32) C dL_law_575 (by decide) ?_
  refine jw_lshl C dL_law_577 ?_
  refine jw_aload_n C dL_law_578 rfl 1 rfl ?_
  refine jw_iload_n C dL_law_579 rfl 0 rfl ?_
  refine jw_iconst (v := 2) C dL_law_580 (by decide) ?_
  refine jw_iadd C dL_law_581 ?_
  rw [s2]
  refine jw_sld C hX hbl hbA (vinI (show i + 2 < L by omega) (by omega)) dL_law_582 ?_
  refine jw_i2l C dL_law_583 ?_
  refine jw_ldc2 C wL_74 dL_law_584 ?_
  refine jw_land C dL_law_587 ?_
  refine jw_lor C dL_law_588 ?_
  refine jw_gVI (b := 88) (rest := [.int r1]) C dL_law_589 (e1 88) shL_m (ctX6_put l (((xs (nI (i + 1)).toNatClampNeg).toInt64 <<< ((32 : Int32).toInt64 &&& 63)) ||| ((xs (nI (i + 2)).toNatClampNeg).toInt64 &&& 4294967295)) (fun k => glue (e1 0) shX.length μ μ1 (e1 88 k)) (fun r μ' => r = (fPut (((xs (nI (i + 1)).toNatClampNeg).toInt64 <<< ((32 : Int32).toInt64 &&& 63)) ||| ((xs (nI (i + 2)).toNatClampNeg).toInt64 &&& 4294967295)) F).1 ∧ RepM μ' (fPut (((xs (nI (i + 1)).toNatClampNeg).toInt64 <<< ((32 : Int32).toInt64 &&& 63)) ||| ((xs (nI (i + 2)).toNatClampNeg).toInt64 &&& 4294967295)) F).2) (m_put g2 hok (fun _ h => ⟨rfl, h⟩))) miX6_put rfl rfl gL_law_X6_put rfl ⟨rfl, rfl, (Nat.le_of_ble_eq_true rfl), (Nat.le_of_ble_eq_true rfl)⟩ rfl rfl rfl (Nat.le_of_ble_eq_true rfl) ⟨(Nat.le_of_ble_eq_true rfl), (Nat.le_of_ble_eq_true rfl)⟩ (fun r2 μ2 h2 => ?_)
  obtain ⟨e2r, hM2⟩ := h2
  obtain ⟨k1, k2⟩ := law_m g1 hM2
  refine jw_icmp_eq C 695 dL_law_592 (by decide) (fun _ => hnext _ (fPut (((xs (nI (i + 1)).toNatClampNeg).toInt64 <<< ((32 : Int32).toInt64 &&& 63)) ||| ((xs (nI (i + 2)).toNatClampNeg).toInt64 &&& 4294967295)) F).2 k1 k2 (fPut_ok hok)) (fun c => absurd (e1r.trans e2r.symm) c)
set_option maxRecDepth 100000 in
set_option maxHeartbeats 4000000 in
theorem lwc_wipe {K : KT} {l : Launch} {b L : Nat} {xs : Nat → Int32} {ad : Nat → Nat} {μ : Mem} {F : FS} {i : Nat} (C : Ctx K l cL_law RL wsL_law room_1 shL ad) (hX : va_X b L xs (kS K) (kS K).heap) (hbl : b < (kS K).heap.size) (hbA : ¬ kA K b) (hi : i + 5 ≤ L) (hL : L ≤ 2560) (hF : RepF μ F) (hM : RepM (fun k => μ (88 + k)) F) (hok : FOk F) (hnext : ∀ μ' F', RepF μ' F' → RepM (fun k => μ' (88 + k)) F' → FOk F' → JW K csL shL ad μ' 695 (lvL b ad i) []) : JW K csL shL ad μ 597 (lvL b ad i) [] := by
  have s1 : nI i + (1 : Int32) = nI (i + 1) := by rw [li 1, nI_add]
  have s2 : nI i + (2 : Int32) = nI (i + 2) := by rw [li 2, nI_add]
  have s3 : nI i + (3 : Int32) = nI (i + 3) := by rw [li 3, nI_add]
  have s4 : nI i + (4 : Int32) = nI (i + 4) := by rw [li 4, nI_add]
  refine jw_aload_n C dL_law_597 rfl 2 rfl ?_
  refine jw_gVI (b := 0) (rest := []) C dL_law_598 (e1 0) shL_x (ctX5_wipe l (fun k => μ (e1 0 k)) (fun r μ' => r = (fWipe F).1 ∧ RepF μ' (fWipe F).2) (x_wipe (law_0 hF) (fun _ h => ⟨rfl, h⟩))) miX5_wipe rfl rfl gL_law_X5_wipe rfl ⟨rfl, rfl, (Nat.le_of_ble_eq_true rfl), (Nat.le_of_ble_eq_true rfl)⟩ rfl rfl rfl (Nat.le_of_ble_eq_true rfl) ⟨(Nat.le_of_ble_eq_true rfl), (Nat.le_of_ble_eq_true rfl)⟩ (fun r1 μ1 h1 => ?_)
  obtain ⟨e1r, hF1⟩ := h1
  obtain ⟨g1, g2⟩ := law_x hM hF1
  refine jw_aload_n C dL_law_601 rfl 3 rfl ?_
  refine jw_gVI (b := 88) (rest := [.int r1]) C dL_law_602 (e1 88) shL_m (ctX6_wipe l (fun k => glue (e1 0) shX.length μ μ1 (e1 88 k)) (fun r μ' => r = (fWipe F).1 ∧ RepM μ' (fWipe F).2) (m_wipe g2 (fun _ h => ⟨rfl, h⟩))) miX6_wipe rfl rfl gL_law_X6_wipe rfl ⟨rfl, rfl, (Nat.le_of_ble_eq_true rfl), (Nat.le_of_ble_eq_true rfl)⟩ rfl rfl rfl (Nat.le_of_ble_eq_true rfl) ⟨(Nat.le_of_ble_eq_true rfl), (Nat.le_of_ble_eq_true rfl)⟩ (fun r2 μ2 h2 => ?_)
  obtain ⟨e2r, hM2⟩ := h2
  obtain ⟨k1, k2⟩ := law_m g1 hM2
  refine jw_icmp_eq C 695 dL_law_605 (by decide) (fun _ => hnext _ (fWipe F).2 k1 k2 (fWipe_ok hok)) (fun c => absurd (e1r.trans e2r.symm) c)
set_option maxRecDepth 100000 in
set_option maxHeartbeats 4000000 in
theorem lwc_fault {K : KT} {l : Launch} {b L : Nat} {xs : Nat → Int32} {ad : Nat → Nat} {μ : Mem} {F : FS} {i : Nat} (C : Ctx K l cL_law RL wsL_law room_1 shL ad) (hX : va_X b L xs (kS K) (kS K).heap) (hbl : b < (kS K).heap.size) (hbA : ¬ kA K b) (hi : i + 5 ≤ L) (hL : L ≤ 2560) (hF : RepF μ F) (hM : RepM (fun k => μ (88 + k)) F) (hok : FOk F) (hnext : ∀ μ' F', RepF μ' F' → RepM (fun k => μ' (88 + k)) F' → FOk F' → JW K csL shL ad μ' 695 (lvL b ad i) []) : JW K csL shL ad μ 610 (lvL b ad i) [] := by
  have s1 : nI i + (1 : Int32) = nI (i + 1) := by rw [li 1, nI_add]
  have s2 : nI i + (2 : Int32) = nI (i + 2) := by rw [li 2, nI_add]
  have s3 : nI i + (3 : Int32) = nI (i + 3) := by rw [li 3, nI_add]
  have s4 : nI i + (4 : Int32) = nI (i + 4) := by rw [li 4, nI_add]
  refine jw_aload_n C dL_law_610 rfl 2 rfl ?_
  refine jw_gVI (b := 0) (rest := []) C dL_law_611 (e1 0) shL_x (ctX5_fault l (fun k => μ (e1 0 k)) (fun r μ' => r = (fFault F) ∧ RepF μ' F) (x_fault (law_0 hF) hok (fun _ h => ⟨rfl, h⟩))) miX5_fault rfl rfl gL_law_X5_fault rfl ⟨rfl, rfl, (Nat.le_of_ble_eq_true rfl), (Nat.le_of_ble_eq_true rfl)⟩ rfl rfl rfl (Nat.le_of_ble_eq_true rfl) ⟨(Nat.le_of_ble_eq_true rfl), (Nat.le_of_ble_eq_true rfl)⟩ (fun r1 μ1 h1 => ?_)
  obtain ⟨e1r, hF1⟩ := h1
  obtain ⟨g1, g2⟩ := law_x hM hF1
  refine jw_aload_n C dL_law_614 rfl 3 rfl ?_
  refine jw_gVI (b := 88) (rest := [.int r1]) C dL_law_615 (e1 88) shL_m (ctX6_fault l (fun k => glue (e1 0) shX.length μ μ1 (e1 88 k)) (fun r μ' => r = (fFault F) ∧ RepM μ' F) (m_fault g2 hok (fun _ h => ⟨rfl, h⟩))) miX6_fault rfl rfl gL_law_X6_fault rfl ⟨rfl, rfl, (Nat.le_of_ble_eq_true rfl), (Nat.le_of_ble_eq_true rfl)⟩ rfl rfl rfl (Nat.le_of_ble_eq_true rfl) ⟨(Nat.le_of_ble_eq_true rfl), (Nat.le_of_ble_eq_true rfl)⟩ (fun r2 μ2 h2 => ?_)
  obtain ⟨e2r, hM2⟩ := h2
  obtain ⟨k1, k2⟩ := law_m g1 hM2
  refine jw_icmp_eq C 695 dL_law_618 (by decide) (fun _ => hnext _ F k1 k2 hok) (fun c => absurd (e1r.trans e2r.symm) c)
set_option maxRecDepth 100000 in
set_option maxHeartbeats 4000000 in
theorem lwc_carryOut {K : KT} {l : Launch} {b L : Nat} {xs : Nat → Int32} {ad : Nat → Nat} {μ : Mem} {F : FS} {i : Nat} (C : Ctx K l cL_law RL wsL_law room_1 shL ad) (hX : va_X b L xs (kS K) (kS K).heap) (hbl : b < (kS K).heap.size) (hbA : ¬ kA K b) (hi : i + 5 ≤ L) (hL : L ≤ 2560) (hF : RepF μ F) (hM : RepM (fun k => μ (88 + k)) F) (hok : FOk F) (hnext : ∀ μ' F', RepF μ' F' → RepM (fun k => μ' (88 + k)) F' → FOk F' → JW K csL shL ad μ' 695 (lvL b ad i) []) : JW K csL shL ad μ 623 (lvL b ad i) [] := by
  have s1 : nI i + (1 : Int32) = nI (i + 1) := by rw [li 1, nI_add]
  have s2 : nI i + (2 : Int32) = nI (i + 2) := by rw [li 2, nI_add]
  have s3 : nI i + (3 : Int32) = nI (i + 3) := by rw [li 3, nI_add]
  have s4 : nI i + (4 : Int32) = nI (i + 4) := by rw [li 4, nI_add]
  refine jw_aload_n C dL_law_623 rfl 2 rfl ?_
  refine jw_gVI (b := 0) (rest := []) C dL_law_624 (e1 0) shL_x (ctX5_carryOut l (fun k => μ (e1 0 k)) (fun r μ' => r = (fCarry F).1 ∧ RepF μ' (fCarry F).2) (x_carry (law_0 hF) hok (fun _ h => ⟨rfl, h⟩))) miX5_carryOut rfl rfl gL_law_X5_carryOut rfl ⟨rfl, rfl, (Nat.le_of_ble_eq_true rfl), (Nat.le_of_ble_eq_true rfl)⟩ rfl rfl rfl (Nat.le_of_ble_eq_true rfl) ⟨(Nat.le_of_ble_eq_true rfl), (Nat.le_of_ble_eq_true rfl)⟩ (fun r1 μ1 h1 => ?_)
  obtain ⟨e1r, hF1⟩ := h1
  obtain ⟨g1, g2⟩ := law_x hM hF1
  refine jw_aload_n C dL_law_627 rfl 3 rfl ?_
  refine jw_gVI (b := 88) (rest := [.int r1]) C dL_law_628 (e1 88) shL_m (ctX6_carryOut l (fun k => glue (e1 0) shX.length μ μ1 (e1 88 k)) (fun r μ' => r = (fCarry F).1 ∧ RepM μ' (fCarry F).2) (m_carry g2 hok (fun _ h => ⟨rfl, h⟩))) miX6_carryOut rfl rfl gL_law_X6_carryOut rfl ⟨rfl, rfl, (Nat.le_of_ble_eq_true rfl), (Nat.le_of_ble_eq_true rfl)⟩ rfl rfl rfl (Nat.le_of_ble_eq_true rfl) ⟨(Nat.le_of_ble_eq_true rfl), (Nat.le_of_ble_eq_true rfl)⟩ (fun r2 μ2 h2 => ?_)
  obtain ⟨e2r, hM2⟩ := h2
  obtain ⟨k1, k2⟩ := law_m g1 hM2
  refine jw_icmp_eq C 695 dL_law_631 (by decide) (fun _ => hnext _ (fCarry F).2 k1 k2 (fCarry_ok hok)) (fun c => absurd (e1r.trans e2r.symm) c)
set_option maxRecDepth 100000 in
set_option maxHeartbeats 4000000 in
theorem lwc_undo {K : KT} {l : Launch} {b L : Nat} {xs : Nat → Int32} {ad : Nat → Nat} {μ : Mem} {F : FS} {i : Nat} (C : Ctx K l cL_law RL wsL_law room_1 shL ad) (hX : va_X b L xs (kS K) (kS K).heap) (hbl : b < (kS K).heap.size) (hbA : ¬ kA K b) (hi : i + 5 ≤ L) (hL : L ≤ 2560) (hF : RepF μ F) (hM : RepM (fun k => μ (88 + k)) F) (hok : FOk F) (hnext : ∀ μ' F', RepF μ' F' → RepM (fun k => μ' (88 + k)) F' → FOk F' → JW K csL shL ad μ' 695 (lvL b ad i) []) : JW K csL shL ad μ 636 (lvL b ad i) [] := by
  have s1 : nI i + (1 : Int32) = nI (i + 1) := by rw [li 1, nI_add]
  have s2 : nI i + (2 : Int32) = nI (i + 2) := by rw [li 2, nI_add]
  have s3 : nI i + (3 : Int32) = nI (i + 3) := by rw [li 3, nI_add]
  have s4 : nI i + (4 : Int32) = nI (i + 4) := by rw [li 4, nI_add]
  refine jw_aload_n C dL_law_636 rfl 2 rfl ?_
  refine jw_gVI (b := 0) (rest := []) C dL_law_637 (e1 0) shL_x (ctX5_undo l (fun k => μ (e1 0 k)) (fun r μ' => r = (fUndo F).1 ∧ RepF μ' (fUndo F).2) (x_undo (law_0 hF) hok (fun _ h => ⟨rfl, h⟩))) miX5_undo rfl rfl gL_law_X5_undo rfl ⟨rfl, rfl, (Nat.le_of_ble_eq_true rfl), (Nat.le_of_ble_eq_true rfl)⟩ rfl rfl rfl (Nat.le_of_ble_eq_true rfl) ⟨(Nat.le_of_ble_eq_true rfl), (Nat.le_of_ble_eq_true rfl)⟩ (fun r1 μ1 h1 => ?_)
  obtain ⟨e1r, hF1⟩ := h1
  obtain ⟨g1, g2⟩ := law_x hM hF1
  refine jw_aload_n C dL_law_640 rfl 3 rfl ?_
  refine jw_gVI (b := 88) (rest := [.int r1]) C dL_law_641 (e1 88) shL_m (ctX6_undo l (fun k => glue (e1 0) shX.length μ μ1 (e1 88 k)) (fun r μ' => r = (fUndo F).1 ∧ RepM μ' (fUndo F).2) (m_undo g2 hok (fun _ h => ⟨rfl, h⟩))) miX6_undo rfl rfl gL_law_X6_undo rfl ⟨rfl, rfl, (Nat.le_of_ble_eq_true rfl), (Nat.le_of_ble_eq_true rfl)⟩ rfl rfl rfl (Nat.le_of_ble_eq_true rfl) ⟨(Nat.le_of_ble_eq_true rfl), (Nat.le_of_ble_eq_true rfl)⟩ (fun r2 μ2 h2 => ?_)
  obtain ⟨e2r, hM2⟩ := h2
  obtain ⟨k1, k2⟩ := law_m g1 hM2
  refine jw_icmp_eq C 695 dL_law_644 (by decide) (fun _ => hnext _ (fUndo F).2 k1 k2 (fUndo_ok hok)) (fun c => absurd (e1r.trans e2r.symm) c)
set_option maxRecDepth 100000 in
set_option maxHeartbeats 4000000 in
theorem lwc_save {K : KT} {l : Launch} {b L : Nat} {xs : Nat → Int32} {ad : Nat → Nat} {μ : Mem} {F : FS} {i : Nat} (C : Ctx K l cL_law RL wsL_law room_1 shL ad) (hX : va_X b L xs (kS K) (kS K).heap) (hbl : b < (kS K).heap.size) (hbA : ¬ kA K b) (hi : i + 5 ≤ L) (hL : L ≤ 2560) (hF : RepF μ F) (hM : RepM (fun k => μ (88 + k)) F) (hok : FOk F) (hnext : ∀ μ' F', RepF μ' F' → RepM (fun k => μ' (88 + k)) F' → FOk F' → JW K csL shL ad μ' 695 (lvL b ad i) []) : JW K csL shL ad μ 649 (lvL b ad i) [] := by
  have s1 : nI i + (1 : Int32) = nI (i + 1) := by rw [li 1, nI_add]
  have s2 : nI i + (2 : Int32) = nI (i + 2) := by rw [li 2, nI_add]
  have s3 : nI i + (3 : Int32) = nI (i + 3) := by rw [li 3, nI_add]
  have s4 : nI i + (4 : Int32) = nI (i + 4) := by rw [li 4, nI_add]
  refine jw_aload_n C dL_law_649 rfl 2 rfl ?_
  refine jw_aload_n C dL_law_650 rfl 1 rfl ?_
  refine jw_iload_n C dL_law_651 rfl 0 rfl ?_
  refine jw_iconst (v := 1) C dL_law_652 (by decide) ?_
  refine jw_iadd C dL_law_653 ?_
  rw [s1]
  refine jw_sld C hX hbl hbA (vinI (show i + 1 < L by omega) (by omega)) dL_law_654 ?_
  refine jw_gVI (b := 0) (rest := []) C dL_law_655 (e1 0) shL_x (ctX5_save l (xs (nI (i + 1)).toNatClampNeg) (fun k => μ (e1 0 k)) (fun r μ' => r = (fSave (xs (nI (i + 1)).toNatClampNeg) F).1 ∧ RepF μ' (fSave (xs (nI (i + 1)).toNatClampNeg) F).2) (x_save (law_0 hF) hok (fun _ h => ⟨rfl, h⟩))) miX5_save rfl rfl gL_law_X5_save rfl ⟨rfl, rfl, (Nat.le_of_ble_eq_true rfl), (Nat.le_of_ble_eq_true rfl)⟩ rfl rfl rfl (Nat.le_of_ble_eq_true rfl) ⟨(Nat.le_of_ble_eq_true rfl), (Nat.le_of_ble_eq_true rfl)⟩ (fun r1 μ1 h1 => ?_)
  obtain ⟨e1r, hF1⟩ := h1
  obtain ⟨g1, g2⟩ := law_x hM hF1
  refine jw_aload_n C dL_law_658 rfl 3 rfl ?_
  refine jw_aload_n C dL_law_659 rfl 1 rfl ?_
  refine jw_iload_n C dL_law_660 rfl 0 rfl ?_
  refine jw_iconst (v := 1) C dL_law_661 (by decide) ?_
  refine jw_iadd C dL_law_662 ?_
  rw [s1]
  refine jw_sld C hX hbl hbA (vinI (show i + 1 < L by omega) (by omega)) dL_law_663 ?_
  refine jw_gVI (b := 88) (rest := [.int r1]) C dL_law_664 (e1 88) shL_m (ctX6_save l (xs (nI (i + 1)).toNatClampNeg) (fun k => glue (e1 0) shX.length μ μ1 (e1 88 k)) (fun r μ' => r = (fSave (xs (nI (i + 1)).toNatClampNeg) F).1 ∧ RepM μ' (fSave (xs (nI (i + 1)).toNatClampNeg) F).2) (m_save g2 hok (fun _ h => ⟨rfl, h⟩))) miX6_save rfl rfl gL_law_X6_save rfl ⟨rfl, rfl, (Nat.le_of_ble_eq_true rfl), (Nat.le_of_ble_eq_true rfl)⟩ rfl rfl rfl (Nat.le_of_ble_eq_true rfl) ⟨(Nat.le_of_ble_eq_true rfl), (Nat.le_of_ble_eq_true rfl)⟩ (fun r2 μ2 h2 => ?_)
  obtain ⟨e2r, hM2⟩ := h2
  obtain ⟨k1, k2⟩ := law_m g1 hM2
  refine jw_icmp_eq C 695 dL_law_667 (by decide) (fun _ => hnext _ (fSave (xs (nI (i + 1)).toNatClampNeg) F).2 k1 k2 (fSave_ok hok)) (fun c => absurd (e1r.trans e2r.symm) c)
set_option maxRecDepth 100000 in
set_option maxHeartbeats 4000000 in
theorem lwc_restore {K : KT} {l : Launch} {b L : Nat} {xs : Nat → Int32} {ad : Nat → Nat} {μ : Mem} {F : FS} {i : Nat} (C : Ctx K l cL_law RL wsL_law room_1 shL ad) (hX : va_X b L xs (kS K) (kS K).heap) (hbl : b < (kS K).heap.size) (hbA : ¬ kA K b) (hi : i + 5 ≤ L) (hL : L ≤ 2560) (hF : RepF μ F) (hM : RepM (fun k => μ (88 + k)) F) (hok : FOk F) (hnext : ∀ μ' F', RepF μ' F' → RepM (fun k => μ' (88 + k)) F' → FOk F' → JW K csL shL ad μ' 695 (lvL b ad i) []) : JW K csL shL ad μ 672 (lvL b ad i) [] := by
  have s1 : nI i + (1 : Int32) = nI (i + 1) := by rw [li 1, nI_add]
  have s2 : nI i + (2 : Int32) = nI (i + 2) := by rw [li 2, nI_add]
  have s3 : nI i + (3 : Int32) = nI (i + 3) := by rw [li 3, nI_add]
  have s4 : nI i + (4 : Int32) = nI (i + 4) := by rw [li 4, nI_add]
  refine jw_aload_n C dL_law_672 rfl 2 rfl ?_
  refine jw_aload_n C dL_law_673 rfl 1 rfl ?_
  refine jw_iload_n C dL_law_674 rfl 0 rfl ?_
  refine jw_iconst (v := 1) C dL_law_675 (by decide) ?_
  refine jw_iadd C dL_law_676 ?_
  rw [s1]
  refine jw_sld C hX hbl hbA (vinI (show i + 1 < L by omega) (by omega)) dL_law_677 ?_
  refine jw_gVI (b := 0) (rest := []) C dL_law_678 (e1 0) shL_x (ctX5_restore l (xs (nI (i + 1)).toNatClampNeg) (fun k => μ (e1 0 k)) (fun r μ' => r = (fRest (xs (nI (i + 1)).toNatClampNeg) F).1 ∧ RepF μ' (fRest (xs (nI (i + 1)).toNatClampNeg) F).2) (x_restore (law_0 hF) hok (fun _ h => ⟨rfl, h⟩))) miX5_restore rfl rfl gL_law_X5_restore rfl ⟨rfl, rfl, (Nat.le_of_ble_eq_true rfl), (Nat.le_of_ble_eq_true rfl)⟩ rfl rfl rfl (Nat.le_of_ble_eq_true rfl) ⟨(Nat.le_of_ble_eq_true rfl), (Nat.le_of_ble_eq_true rfl)⟩ (fun r1 μ1 h1 => ?_)
  obtain ⟨e1r, hF1⟩ := h1
  obtain ⟨g1, g2⟩ := law_x hM hF1
  refine jw_aload_n C dL_law_681 rfl 3 rfl ?_
  refine jw_aload_n C dL_law_682 rfl 1 rfl ?_
  refine jw_iload_n C dL_law_683 rfl 0 rfl ?_
  refine jw_iconst (v := 1) C dL_law_684 (by decide) ?_
  refine jw_iadd C dL_law_685 ?_
  rw [s1]
  refine jw_sld C hX hbl hbA (vinI (show i + 1 < L by omega) (by omega)) dL_law_686 ?_
  refine jw_gVI (b := 88) (rest := [.int r1]) C dL_law_687 (e1 88) shL_m (ctX6_restore l (xs (nI (i + 1)).toNatClampNeg) (fun k => glue (e1 0) shX.length μ μ1 (e1 88 k)) (fun r μ' => r = (fRest (xs (nI (i + 1)).toNatClampNeg) F).1 ∧ RepM μ' (fRest (xs (nI (i + 1)).toNatClampNeg) F).2) (m_restore g2 hok (fun _ h => ⟨rfl, h⟩))) miX6_restore rfl rfl gL_law_X6_restore rfl ⟨rfl, rfl, (Nat.le_of_ble_eq_true rfl), (Nat.le_of_ble_eq_true rfl)⟩ rfl rfl rfl (Nat.le_of_ble_eq_true rfl) ⟨(Nat.le_of_ble_eq_true rfl), (Nat.le_of_ble_eq_true rfl)⟩ (fun r2 μ2 h2 => ?_)
  obtain ⟨e2r, hM2⟩ := h2
  obtain ⟨k1, k2⟩ := law_m g1 hM2
  refine jw_icmp_eq C 695 dL_law_690 (by decide) (fun _ => hnext _ (fRest (xs (nI (i + 1)).toNatClampNeg) F).2 k1 k2 (fRest_ok hok)) (fun c => absurd (e1r.trans e2r.symm) c)
