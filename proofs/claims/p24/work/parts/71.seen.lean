/-! what the law sees of an object: of its tree alone -/
def FT (t : TS) : FS := (t, [], fun _ => none, [])
def sit (g : Nat → Int64) (h : Int64) : Nat → Int64
  | 0 => h
  | n + 1 => 31 * sit g h n + g n
def seC (t : TS) : Nat → Int64 := fun i => (fCount (nI i) (FT t)).toInt64
def seN (t : TS) (n : Nat) : Nat → Int64 := fun i => (fNode (nI n) (nI i) (FT t)).toInt64
def seS (t : TS) (n : Nat) : Nat → Int64 := fun k => (fStone (nI n) (nI k / 4) (nI k - nI k / 4 * 4) (FT t)).toInt64
def seK (t : TS) : Nat → Int64 := fun k => (fKey (nI k / 4) (nI k - nI k / 4 * 4) (FT t)).toInt64
def se1 (t : TS) : Int64 := 31 * sit (seC t) 3 6 + (fCount 8 (FT t)).toInt64 + (100 * fCount 9 (FT t)).toInt64
def seLen (t : TS) (n : Nat) : Nat := (t.2.2.2.2.1 n).1.length
def se2 (t : TS) : Nat → Int64
  | 0 => se1 t
  | n + 1 => sit (seS t n) (sit (seN t n) (se2 t n) 6) (4 * seLen t n)
def fSeen (t : TS) : Int64 := sit (seK t) (se2 t 13) 108
theorem se_count {F : FS} : ∀ i, i < 6 → fCount (nI i) F = fCount (nI i) (FT F.1) := by
  intro i hi
  unfold fCount
  rw [idx_nI (by decide) (show i < 10 by omega)]
  rcases (show i = 0 ∨ i = 1 ∨ i = 2 ∨ i = 3 ∨ i = 4 ∨ i = 5 by omega) with rfl | rfl | rfl | rfl | rfl | rfl <;> rfl
theorem se_8 {F : FS} : fCount 8 F = fCount 8 (FT F.1) := by
  unfold fCount
  rw [li 8, idx_nI (by decide) (by decide)]
  rfl
theorem se_9 {F : FS} : fCount 9 F = fCount 9 (FT F.1) := by
  unfold fCount
  rw [li 9, idx_nI (by decide) (by decide)]
  rfl
theorem node_0 {F : FS} {n : Nat} (hn : n < 13) : fNode (nI n) 0 F = nI (seLen F.1 n) := by
  unfold fNode
  rw [idx_nI (by decide) hn, li 0]
  simp only
  rw [idx_nI (by decide) (by decide)]
  rfl
abbrev rmL_seen : Room := { frames := 21, cells := 0, slots := 0, locals := 1100 }
theorem miL_seen : MI yL_seen wsL_seen cL_seen 5 (some .long) 1 := ⟨⟨_, rfl⟩, by decide, by decide, by decide +kernel⟩
section SEEN
variable {K : KT} {l : Launch} {ad : Nat → Nat} {F : FS}

set_option maxRecDepth 100000 in
set_option maxHeartbeats 4000000 in
theorem sn_1 (hN : kN K = 5) (C : Ctx K l cL_seen RL wsL_seen rmL_seen shX ad) (hok : FOk F) (hend : ∀ μ, RepF μ F → JW K (0, 0) shX ad μ 31 [(3, .int (nI (6))), (1, .long (sit (seC F.1) 3 6)), (0, .ref (ad 0))] []) : ∀ (m i : Nat) (μ : Mem), i + m = 6 → RepF μ F → JW K (0, 0) shX ad μ 6 [(3, .int (nI (i))), (1, .long (sit (seC F.1) 3 i)), (0, .ref (ad 0))] [] := by
  have hN_2 : 2 < kN K := by rw [hN]; decide
  have hN_3 : 3 < kN K := by rw [hN]; decide
  intro m
  induction m with
  | zero =>
    intro i μ hi hF
    obtain rfl : i = 6 := by omega
    refine jw_iload_n C dL_seen_6 rfl 0 rfl ?_
    refine jw_bipush (v := 6) C dL_seen_7 (by decide) ?_
    exact jw_icmp_ge C 31 dL_seen_9 (by decide) (fun _ => hend μ hF) (fun c => absurd (by decide) c)
  | succ m ih =>
    intro i μ hi hF
    refine jw_iload_n C dL_seen_6 rfl 0 rfl ?_
    refine jw_bipush (v := 6) C dL_seen_7 (by decide) ?_
    refine jw_icmp_ge C 31 dL_seen_9 (by decide) (fun c => absurd c (nI_ge (b := 6) (show i < 6 by omega) (by decide))) (fun _ => ?_)
    refine jw_ldc2 (v := 31) C (List.mem_of_getElem? (i := 2) rfl) dL_seen_12 ?_
    refine jw_lload_n C dL_seen_15 rfl 1 rfl ?_
    refine jw_lmul C dL_seen_16 ?_
    refine jw_aload_n C dL_seen_17 rfl 2 rfl ?_
    refine jw_iload_n C dL_seen_18 rfl 0 rfl ?_
    refine jx_count C XT hF trivial hok (se_count i (by omega)) gL_seen_X5_count (Nat.le_of_ble_eq_true rfl) (Nat.le_of_ble_eq_true rfl) ⟨Nat.zero_le _, Nat.zero_le _⟩ (Nat.le_of_ble_eq_true rfl) dL_seen_19 (fun μ hF _ => ?_)
    refine jw_i2l C dL_seen_22 ?_
    refine jw_ladd C dL_seen_23 ?_
    refine jw_lstore_n (lw := [(1, .long _), (3, .int _), (0, .ref _)]) C dL_seen_24 rfl hN_2 rfl ?_
    refine jw_iinc (lw := [(3, .int (nI (i + 1))), (1, .long (sit (seC F.1) 3 (i + 1))), (0, .ref (ad 0))]) (q := 1) C dL_seen_25 rfl (show nI i + Int32.ofInt 1 = nI (i + 1) from nI_add i 1) hN_3 rfl ?_
    refine jw_goto (tgt := 6) C dL_seen_28 (by decide) ?_
    exact ih (i + 1) μ (by omega) hF
set_option maxRecDepth 100000 in
set_option maxHeartbeats 4000000 in
theorem sn_2a (hN : kN K = 5) (C : Ctx K l cL_seen RL wsL_seen rmL_seen shX ad) (hok : FOk F) {n : Nat} (hn : n < 13) {h0 : Int64} (hend : ∀ μ, RepF μ F → JW K (0, 0) shX ad μ 95 [(4, .int (nI (6))), (1, .long (sit (seN F.1 n) h0 6)), (3, .int (nI (n))), (0, .ref (ad 0))] []) : ∀ (m i : Nat) (μ : Mem), i + m = 6 → RepF μ F → JW K (0, 0) shX ad μ 67 [(4, .int (nI (i))), (1, .long (sit (seN F.1 n) h0 i)), (3, .int (nI (n))), (0, .ref (ad 0))] [] := by
  have hN_2 : 2 < kN K := by rw [hN]; decide
  have hN_4 : 4 < kN K := by rw [hN]; decide
  intro m
  induction m with
  | zero =>
    intro i μ hi hF
    obtain rfl : i = 6 := by omega
    refine jw_iload C dL_seen_67 0 rfl ?_
    refine jw_bipush (v := 6) C dL_seen_69 (by decide) ?_
    exact jw_icmp_ge C 95 dL_seen_71 (by decide) (fun _ => hend μ hF) (fun c => absurd (by decide) c)
  | succ m ih =>
    intro i μ hi hF
    refine jw_iload C dL_seen_67 0 rfl ?_
    refine jw_bipush (v := 6) C dL_seen_69 (by decide) ?_
    refine jw_icmp_ge C 95 dL_seen_71 (by decide) (fun c => absurd c (nI_ge (b := 6) (show i < 6 by omega) (by decide))) (fun _ => ?_)
    refine jw_ldc2 (v := 31) C (List.mem_of_getElem? (i := 2) rfl) dL_seen_74 ?_
    refine jw_lload_n C dL_seen_77 rfl 1 rfl ?_
    refine jw_lmul C dL_seen_78 ?_
    refine jw_aload_n C dL_seen_79 rfl 3 rfl ?_
    refine jw_iload_n C dL_seen_80 rfl 2 rfl ?_
    refine jw_iload C dL_seen_81 0 rfl ?_
    refine jx_node C XT hF trivial hok (show fNode (nI n) (nI i) F = fNode (nI n) (nI i) (FT F.1) from rfl) gL_seen_X5_ofNode (Nat.le_of_ble_eq_true rfl) (Nat.le_of_ble_eq_true rfl) ⟨Nat.zero_le _, Nat.zero_le _⟩ (Nat.le_of_ble_eq_true rfl) dL_seen_83 (fun μ hF _ => ?_)
    refine jw_i2l C dL_seen_86 ?_
    refine jw_ladd C dL_seen_87 ?_
    refine jw_lstore_n (lw := [(1, .long _), (4, .int _), (3, .int _), (0, .ref _)]) C dL_seen_88 rfl hN_2 rfl ?_
    refine jw_iinc (lw := [(4, .int (nI (i + 1))), (1, .long (sit (seN F.1 n) h0 (i + 1))), (3, .int (nI (n))), (0, .ref (ad 0))]) (q := 1) C dL_seen_89 rfl (show nI i + Int32.ofInt 1 = nI (i + 1) from nI_add i 1) hN_4 rfl ?_
    refine jw_goto (tgt := 67) C dL_seen_92 (by decide) ?_
    exact ih (i + 1) μ (by omega) hF
set_option maxRecDepth 100000 in
set_option maxHeartbeats 4000000 in
theorem sn_2b (hN : kN K = 5) (C : Ctx K l cL_seen RL wsL_seen rmL_seen shX ad) (hok : FOk F) {n : Nat} (hn : n < 13) {h0 : Int64} (hend : ∀ k μ, RepF μ F → JW K (0, 0) shX ad μ 138 [(4, .int (nI (k))), (1, .long (sit (seS F.1 n) h0 (4 * seLen F.1 n))), (3, .int (nI (n))), (0, .ref (ad 0))] []) : ∀ (m i : Nat) (μ : Mem), i + m = 4 * seLen F.1 n → RepF μ F → JW K (0, 0) shX ad μ 98 [(4, .int (nI (i))), (1, .long (sit (seS F.1 n) h0 i)), (3, .int (nI (n))), (0, .ref (ad 0))] [] := by
  have hN_2 : 2 < kN K := by rw [hN]; decide
  have hN_4 : 4 < kN K := by rw [hN]; decide
  have hlen : seLen F.1 n ≤ 22 := WOk_len hok.1.2.2.2 n hn
  intro m
  induction m with
  | zero =>
    intro i μ hi hF
    obtain rfl : i = 4 * seLen F.1 n := by omega
    refine jw_iload C dL_seen_98 0 rfl ?_
    refine jw_iconst (v := 4) C dL_seen_100 (by decide) ?_
    refine jw_aload_n C dL_seen_101 rfl 3 rfl ?_
    refine jw_iload_n C dL_seen_102 rfl 2 rfl ?_
    refine jw_iconst (v := 0) C dL_seen_103 (by decide) ?_
    refine jx_node C XT hF trivial hok (node_0 hn) gL_seen_X5_ofNode (Nat.le_of_ble_eq_true rfl) (Nat.le_of_ble_eq_true rfl) ⟨Nat.zero_le _, Nat.zero_le _⟩ (Nat.le_of_ble_eq_true rfl) dL_seen_104 (fun μ hF _ => ?_)
    refine jw_imul C dL_seen_107 ?_
    rw [li 4, nI_mul]
    exact jw_icmp_ge C 138 dL_seen_108 (by decide) (fun _ => hend _ μ hF) (fun c => absurd (nI_le (Nat.le_refl _) (by omega)) c)
  | succ m ih =>
    intro i μ hi hF
    refine jw_iload C dL_seen_98 0 rfl ?_
    refine jw_iconst (v := 4) C dL_seen_100 (by decide) ?_
    refine jw_aload_n C dL_seen_101 rfl 3 rfl ?_
    refine jw_iload_n C dL_seen_102 rfl 2 rfl ?_
    refine jw_iconst (v := 0) C dL_seen_103 (by decide) ?_
    refine jx_node C XT hF trivial hok (node_0 hn) gL_seen_X5_ofNode (Nat.le_of_ble_eq_true rfl) (Nat.le_of_ble_eq_true rfl) ⟨Nat.zero_le _, Nat.zero_le _⟩ (Nat.le_of_ble_eq_true rfl) dL_seen_104 (fun μ hF _ => ?_)
    refine jw_imul C dL_seen_107 ?_
    have em : (4 : Int32) * nI (seLen F.1 n) = nI (4 * seLen F.1 n) := by rw [li 4, nI_mul]
    rw [em]
    refine jw_icmp_ge C 138 dL_seen_108 (by decide) (fun c => absurd c (nI_ge (b := 4 * seLen F.1 n) (show i < 4 * seLen F.1 n by omega) (by omega))) (fun _ => ?_)
    refine jw_ldc2 (v := 31) C (List.mem_of_getElem? (i := 2) rfl) dL_seen_111 ?_
    refine jw_lload_n C dL_seen_114 rfl 1 rfl ?_
    refine jw_lmul C dL_seen_115 ?_
    refine jw_aload_n C dL_seen_116 rfl 3 rfl ?_
    refine jw_iload_n C dL_seen_117 rfl 2 rfl ?_
    refine jw_iload C dL_seen_118 0 rfl ?_
    refine jw_iconst (v := 4) C dL_seen_120 (by decide) ?_
    refine jw_idiv C dL_seen_121 (by decide) ?_
    refine jw_iload C dL_seen_122 0 rfl ?_
    refine jw_iconst (v := 4) C dL_seen_124 (by decide) ?_
    refine jw_irem C dL_seen_125 (by decide) ?_
    refine jx_stone C XT hF trivial hok (show fStone (nI n) (nI i / 4) (nI i - nI i / 4 * 4) F = fStone (nI n) (nI i / 4) (nI i - nI i / 4 * 4) (FT F.1) from rfl) gL_seen_X5_stone (Nat.le_of_ble_eq_true rfl) (Nat.le_of_ble_eq_true rfl) ⟨Nat.zero_le _, Nat.zero_le _⟩ (Nat.le_of_ble_eq_true rfl) dL_seen_126 (fun μ hF _ => ?_)
    refine jw_i2l C dL_seen_129 ?_
    refine jw_ladd C dL_seen_130 ?_
    refine jw_lstore_n (lw := [(1, .long _), (4, .int _), (3, .int _), (0, .ref _)]) C dL_seen_131 rfl hN_2 rfl ?_
    refine jw_iinc (lw := [(4, .int (nI (i + 1))), (1, .long (sit (seS F.1 n) h0 (i + 1))), (3, .int (nI (n))), (0, .ref (ad 0))]) (q := 1) C dL_seen_132 rfl (show nI i + Int32.ofInt 1 = nI (i + 1) from nI_add i 1) hN_4 rfl ?_
    refine jw_goto (tgt := 98) C dL_seen_135 (by decide) ?_
    exact ih (i + 1) μ (by omega) hF
set_option maxRecDepth 100000 in
set_option maxHeartbeats 4000000 in
theorem sn_2 (hN : kN K = 5) (C : Ctx K l cL_seen RL wsL_seen rmL_seen shX ad) (hok : FOk F) (hend : ∀ μ, RepF μ F → JW K (0, 0) shX ad μ 144 [(3, .int (nI (13))), (1, .long (se2 F.1 13)), (0, .ref (ad 0))] []) : ∀ (m n : Nat) (μ : Mem), n + m = 13 → RepF μ F → JW K (0, 0) shX ad μ 58 [(3, .int (nI (n))), (1, .long (se2 F.1 n)), (0, .ref (ad 0))] [] := by
  have hN_3 : 3 < kN K := by rw [hN]; decide
  have hN_4 : 4 < kN K := by rw [hN]; decide
  intro m
  induction m with
  | zero =>
    intro n μ hi hF
    obtain rfl : n = 13 := by omega
    refine jw_iload_n C dL_seen_58 rfl 0 rfl ?_
    refine jw_bipush (v := 13) C dL_seen_59 (by decide) ?_
    exact jw_icmp_ge C 144 dL_seen_61 (by decide) (fun _ => hend μ hF) (fun c => absurd (by decide) c)
  | succ m ih =>
    intro n μ hi hF
    have hn : n < 13 := by omega
    refine jw_iload_n C dL_seen_58 rfl 0 rfl ?_
    refine jw_bipush (v := 13) C dL_seen_59 (by decide) ?_
    refine jw_icmp_ge C 144 dL_seen_61 (by decide) (fun c => absurd c (nI_ge (b := 13) hn (by decide))) (fun _ => ?_)
    refine jw_iconst (v := 0) C dL_seen_64 (by decide) ?_
    refine jw_istore (lw := [(4, .int _), (3, .int _), (1, .long _), (0, .ref _)]) C dL_seen_65 hN_4 rfl ?_
    refine jw_sub (lw := [(4, .int (nI (0))), (1, .long (sit (seN F.1 n) (se2 F.1 n) 0)), (3, .int (nI (n))), (0, .ref (ad 0))]) [0, 2, 1, 3] rfl ?_
    refine sn_2a hN C hok hn (fun μ hF => ?_) 6 0 μ (by omega) hF
    refine jw_iconst (v := 0) C dL_seen_95 (by decide) ?_
    refine jw_istore (lw := [(4, .int (nI (0))), (1, .long (sit (seS F.1 n) (sit (seN F.1 n) (se2 F.1 n) 6) 0)), (3, .int (nI (n))), (0, .ref (ad 0))]) C dL_seen_96 hN_4 rfl ?_
    refine sn_2b hN C hok hn (fun k μ hF => ?_) (4 * seLen F.1 n) 0 μ (by omega) hF
    refine jw_iinc (lw := [(3, .int (nI (n + 1))), (4, .int _), (1, .long _), (0, .ref _)]) (q := 2) C dL_seen_138 rfl (show nI n + Int32.ofInt 1 = nI (n + 1) from nI_add n 1) hN_3 rfl ?_
    refine jw_goto (tgt := 58) C dL_seen_141 (by decide) ?_
    refine jw_sub (lw := [(3, .int (nI (n + 1))), (1, .long (se2 F.1 (n + 1))), (0, .ref (ad 0))]) [0, 2, 3] rfl ?_
    exact ih (n + 1) μ (by omega) hF
set_option maxRecDepth 100000 in
set_option maxHeartbeats 4000000 in
theorem sn_3 (hN : kN K = 5) (C : Ctx K l cL_seen RL wsL_seen rmL_seen shX ad) (hok : FOk F) (hend : ∀ μ, RepF μ F → JW K (0, 0) shX ad μ 176 [(3, .int (nI (108))), (1, .long (fSeen F.1)), (0, .ref (ad 0))] []) : ∀ (m i : Nat) (μ : Mem), i + m = 108 → RepF μ F → JW K (0, 0) shX ad μ 146 [(3, .int (nI (i))), (1, .long (sit (seK F.1) (se2 F.1 13) i)), (0, .ref (ad 0))] [] := by
  have hN_2 : 2 < kN K := by rw [hN]; decide
  have hN_3 : 3 < kN K := by rw [hN]; decide
  intro m
  induction m with
  | zero =>
    intro i μ hi hF
    obtain rfl : i = 108 := by omega
    refine jw_iload_n C dL_seen_146 rfl 0 rfl ?_
    refine jw_bipush (v := 108) C dL_seen_147 (by decide) ?_
    exact jw_icmp_ge C 176 dL_seen_149 (by decide) (fun _ => hend μ hF) (fun c => absurd (by decide) c)
  | succ m ih =>
    intro i μ hi hF
    refine jw_iload_n C dL_seen_146 rfl 0 rfl ?_
    refine jw_bipush (v := 108) C dL_seen_147 (by decide) ?_
    refine jw_icmp_ge C 176 dL_seen_149 (by decide) (fun c => absurd c (nI_ge (b := 108) (show i < 108 by omega) (by decide))) (fun _ => ?_)
    refine jw_ldc2 (v := 31) C (List.mem_of_getElem? (i := 2) rfl) dL_seen_152 ?_
    refine jw_lload_n C dL_seen_155 rfl 1 rfl ?_
    refine jw_lmul C dL_seen_156 ?_
    refine jw_aload_n C dL_seen_157 rfl 2 rfl ?_
    refine jw_iload_n C dL_seen_158 rfl 0 rfl ?_
    refine jw_iconst (v := 4) C dL_seen_159 (by decide) ?_
    refine jw_idiv C dL_seen_160 (by decide) ?_
    refine jw_iload_n C dL_seen_161 rfl 0 rfl ?_
    refine jw_iconst (v := 4) C dL_seen_162 (by decide) ?_
    refine jw_irem C dL_seen_163 (by decide) ?_
    refine jx_key C XT hF trivial hok (show fKey (nI i / 4) (nI i - nI i / 4 * 4) F = fKey (nI i / 4) (nI i - nI i / 4 * 4) (FT F.1) from rfl) gL_seen_X5_ofKey (Nat.le_of_ble_eq_true rfl) (Nat.le_of_ble_eq_true rfl) ⟨Nat.zero_le _, Nat.zero_le _⟩ (Nat.le_of_ble_eq_true rfl) dL_seen_164 (fun μ hF _ => ?_)
    refine jw_i2l C dL_seen_167 ?_
    refine jw_ladd C dL_seen_168 ?_
    refine jw_lstore_n (lw := [(1, .long _), (3, .int _), (0, .ref _)]) C dL_seen_169 rfl hN_2 rfl ?_
    refine jw_iinc (lw := [(3, .int (nI (i + 1))), (1, .long (sit (seK F.1) (se2 F.1 13) (i + 1))), (0, .ref (ad 0))]) (q := 1) C dL_seen_170 rfl (show nI i + Int32.ofInt 1 = nI (i + 1) from nI_add i 1) hN_3 rfl ?_
    refine jw_goto (tgt := 146) C dL_seen_173 (by decide) ?_
    exact ih (i + 1) μ (by omega) hF
end SEEN
set_option maxRecDepth 100000 in
set_option maxHeartbeats 4000000 in
theorem cnL_seen (l : Launch) {F : FS} (hok : FOk F) : ∀ μ, RepF μ F → Con l yL_seen wsL_seen rmL_seen shX (fun ad => [.ref (ad 0)]) μ (pL fun r μ' => r = fSeen F.1 ∧ RepF μ' F) := fun μ hF => by
  refine Con.mk (cc := cL_seen) (maxL := 5) (ret := (some .long)) (own := RL) (by decide) rfl rfl (fun _ => Nat.le_of_ble_eq_true rfl) (fun K ad hN G => ?_)
  show JW K (0, 0) shX ad μ 0 [(0, .ref (ad 0))] []
  have C := G.1
  have hN_2 : 2 < kN K := by rw [hN]; decide
  have hN_3 : 3 < kN K := by rw [hN]; decide
  refine jw_ldc2 (v := 3) C (List.mem_of_getElem? (i := 1) rfl) dL_seen_0 ?_
  refine jw_lstore_n (lw := [(1, .long _), (0, .ref _)]) C dL_seen_3 rfl hN_2 rfl ?_
  refine jw_iconst (v := 0) C dL_seen_4 (by decide) ?_
  refine jw_istore_n (lw := [(3, .int (nI (0))), (1, .long (sit (seC F.1) 3 0)), (0, .ref (ad 0))]) C dL_seen_5 rfl hN_3 rfl ?_
  refine sn_1 hN C hok (fun μ hF => ?_) 6 0 μ (by omega) hF
  refine jw_ldc2 (v := 31) C (List.mem_of_getElem? (i := 2) rfl) dL_seen_31 ?_
  refine jw_lload_n C dL_seen_34 rfl 1 rfl ?_
  refine jw_lmul C dL_seen_35 ?_
  refine jw_aload_n C dL_seen_36 rfl 2 rfl ?_
  refine jw_bipush (v := 8) C dL_seen_37 (by decide) ?_
  refine jx_count C XT hF trivial hok se_8 gL_seen_X5_count (Nat.le_of_ble_eq_true rfl) (Nat.le_of_ble_eq_true rfl) ⟨Nat.zero_le _, Nat.zero_le _⟩ (Nat.le_of_ble_eq_true rfl) dL_seen_39 (fun μ hF _ => ?_)
  refine jw_i2l C dL_seen_42 ?_
  refine jw_ladd C dL_seen_43 ?_
  refine jw_bipush (v := 100) C dL_seen_44 (by decide) ?_
  refine jw_aload_n C dL_seen_46 rfl 2 rfl ?_
  refine jw_bipush (v := 9) C dL_seen_47 (by decide) ?_
  refine jx_count C XT hF trivial hok se_9 gL_seen_X5_count (Nat.le_of_ble_eq_true rfl) (Nat.le_of_ble_eq_true rfl) ⟨Nat.zero_le _, Nat.zero_le _⟩ (Nat.le_of_ble_eq_true rfl) dL_seen_49 (fun μ hF _ => ?_)
  refine jw_imul C dL_seen_52 ?_
  refine jw_i2l C dL_seen_53 ?_
  refine jw_ladd C dL_seen_54 ?_
  refine jw_lstore_n (lw := [(1, .long _), (3, .int _), (0, .ref _)]) C dL_seen_55 rfl hN_2 rfl ?_
  refine jw_iconst (v := 0) C dL_seen_56 (by decide) ?_
  refine jw_istore_n (lw := [(3, .int (nI (0))), (1, .long (se2 F.1 0)), (0, .ref (ad 0))]) C dL_seen_57 rfl hN_3 rfl ?_
  refine sn_2 hN C hok (fun μ hF => ?_) 13 0 μ (by omega) hF
  refine jw_iconst (v := 0) C dL_seen_144 (by decide) ?_
  refine jw_istore_n (lw := [(3, .int (nI (0))), (1, .long (sit (seK F.1) (se2 F.1 13) 0)), (0, .ref (ad 0))]) C dL_seen_145 rfl hN_3 rfl ?_
  refine sn_3 hN C hok (fun μ hF => ?_) 108 0 μ (by omega) hF
  refine jw_lload_n C dL_seen_176 rfl 1 rfl ?_
  exact jw_lret (Q := fun r μ' => r = fSeen F.1 ∧ RepF μ' F) G ⟨rfl, hF⟩ dL_seen_177
theorem jx_seen {K : KT} {l : Launch} {cc : ByteArray} {own : String} {Ts : List Cond} {rm : Room} {sh : List Ds} {ad : Nat → Nat} {cs : Nat × Nat} {μ : Mem} {pc index : Nat} {lv : List (Nat × Value)} {rest : List Value} {E : Mem → Prop} {F : FS} (C : Ctx K l cc own Ts rm sh ad) (X : XC sh E) (hF : RepF μ F) (hE : E μ) (hok : FOk F) (hG : GoodIn Ts (va_wsS own index yL_seen wsL_seen)) (hfr : 30 ≤ rm.frames) (hlo : 1200 ≤ rm.locals) (hcs : cs.1 ≤ rm.cells ∧ cs.2 ≤ rm.slots) (hW : (rest.map fun v => v.category).sum ≤ 8) (d : decode cc pc = .ok (.invokestatic index, 3)) (kk : ∀ μ', RepF μ' F → E μ' → JW K cs sh ad μ' (pc + 3) lv (.long (fSeen F.1) :: rest)) : JW K cs sh ad μ pc lv (.ref (ad 0) :: rest) := by
  refine jw_callS (i := e1 0) (rest := rest) (As := [.ref (ad 0)]) C (cnL_seen l hok _ (law_0 hF)) X.1 rfl (miL_seen.S C hG ⟨rfl, rfl, Nat.le_trans (Nat.le_of_ble_eq_true rfl) hfr, Nat.le_trans (Nat.le_of_ble_eq_true rfl) hlo⟩) rfl rfl hW d hcs (fun v μ' h => ?_)
  obtain ⟨r, rfl, rfl, h2⟩ := h
  obtain ⟨g1, g2⟩ := XC_g X hE h2
  exact kk _ g1 g2
