/-! characters are put into the pad -/
def ctC : Nat → Nat → Nat → Nat
  | 0, R, n => if R = 0 then n else 0
  | f + 1, R, n => if R % 256 = 0 then (if R = 0 then n else 0) else if 33 ≤ R % 256 ∧ R % 256 ≤ 126 then ctC f (R / 256) (n + 1) else 0
def byt (X i : Nat) : Nat := X / 256 ^ i % 256
/-- the first comes from the highest place -/
def bts (X n : Nat) : List Nat := (List.range n).map (fun i => byt X (n - 1 - i))
def nuX (a : Int64) : Nat := a.toBitVec.toNat
def fPut (a : Int64) (F : FS) : Int32 × FS := if ctC 8 (nuX a) 0 = 0 then (-2, F) else if F.2.2.2.length + ctC 8 (nuX a) 0 ≤ 60 then (nI (F.2.2.2.length + ctC 8 (nuX a) 0), F.1, F.2.1, F.2.2.1, F.2.2.2 ++ bts (nuX a) (ctC 8 (nuX a) 0)) else (-4, F)
theorem nuX_lt (a : Int64) : nuX a < 2 ^ 64 := a.toBitVec.isLt
theorem nuX_eq (a : Int64) : a = lN (nuX a) := wb_inj (by rw [wb_tb]; unfold nuX; simp)
theorem ctC_spec : ∀ (f R n : Nat), ctC f R n ≠ 0 → n ≤ ctC f R n ∧ ctC f R n ≤ n + f ∧ ∀ i, i < ctC f R n - n → 33 ≤ byt R i ∧ byt R i ≤ 126
  | 0, R, n, h => by
    unfold ctC at h ⊢
    by_cases h0 : R = 0
    · rw [if_pos h0]
      exact ⟨Nat.le_refl n, Nat.le_refl n, fun i hi => by omega⟩
    · rw [if_neg h0] at h
      exact absurd rfl h
  | f + 1, R, n, h => by
    unfold ctC at h ⊢
    by_cases h0 : R % 256 = 0
    · rw [if_pos h0] at h ⊢
      by_cases h1 : R = 0
      · rw [if_pos h1]
        exact ⟨Nat.le_refl n, by omega, fun i hi => by omega⟩
      · rw [if_neg h1] at h
        exact absurd rfl h
    · rw [if_neg h0] at h ⊢
      by_cases h1 : 33 ≤ R % 256 ∧ R % 256 ≤ 126
      · rw [if_pos h1] at h ⊢
        obtain ⟨a, b, c⟩ := ctC_spec f (R / 256) (n + 1) h
        refine ⟨by omega, by omega, fun i hi => ?_⟩
        cases i with
        | zero =>
          unfold byt
          rw [Nat.pow_zero, Nat.div_one]
          exact h1
        | succ i =>
          have := c i (by omega)
          unfold byt at this ⊢
          rw [Nat.pow_succ, Nat.mul_comm, ← Nat.div_div_eq_div_mul]
          exact this
      · rw [if_neg h1] at h
        exact absurd rfl h
theorem bts_get {X n i : Nat} (h : i < n) : (bts X n)[i]? = some (byt X (n - 1 - i)) := by
  unfold bts
  rw [List.getElem?_map, List.getElem?_range h]
  rfl
theorem bts_len (X n : Nat) : (bts X n).length = n := by
  unfold bts
  rw [List.length_map, List.length_range]
theorem fPut_ok {a : Int64} {F : FS} (h : FOk F) : FOk (fPut a F).2 := by
  unfold fPut
  by_cases h0 : ctC 8 (nuX a) 0 = 0
  · rw [if_pos h0]; exact h
  · rw [if_neg h0]
    by_cases h1 : F.2.2.2.length + ctC 8 (nuX a) 0 ≤ 60
    · rw [if_pos h1]
      obtain ⟨g1, g2, g3, g4, g5, g6⟩ := h
      refine ⟨g1, g2, g3, g4, ?_, fun c hc => ?_⟩
      · show (F.2.2.2 ++ bts (nuX a) (ctC 8 (nuX a) 0)).length ≤ 60
        rw [List.length_append, bts_len]
        exact h1
      · have hc' : c ∈ F.2.2.2 ++ bts (nuX a) (ctC 8 (nuX a) 0) := hc
        rcases List.mem_append.mp hc' with e | e
        · exact g6 c e
        · unfold bts at e
          obtain ⟨i, hi, rfl⟩ := List.mem_map.mp e
          have hi' := List.mem_range.mp hi
          exact (ctC_spec 8 (nuX a) 0 h0).2.2 _ (by omega)
    · rw [if_neg h1]; exact h
theorem pu_i32 : ∀ c, c < 256 → (lN c).toInt32 = nI c := by decide +kernel
theorem pu_chr : ∀ c, c < 256 → vp_nar .char (((nI c).toUInt32 % 65536).toInt32) = nI c := by decide +kernel
theorem pu_33 : ∀ c, c < 256 → ((lg_cmp (lN c) 33 < 0) ↔ c < 33) := by decide +kernel
theorem pu_126 : ∀ c, c < 256 → ((lg_cmp (lN c) 126 ≤ 0) ↔ c ≤ 126) := by decide +kernel
theorem pu_and {R : Nat} (h : R < 2 ^ 64) : lN R &&& (255 : Int64) = lN (R % 256) := wb_mask (k := 8) h (by decide)
theorem pu_0 {R : Nat} (h : R < 2 ^ 64) : (lg_cmp (lN R) 0 = 0) ↔ R = 0 := by
  rw [lg_cmp_eq]
  constructor
  · intro e
    have := congrArg (fun x : Int64 => x.toBitVec.toNat) e
    have h2 : (lN R).toBitVec.toNat = 0 := this
    rw [wb_tn h] at h2
    exact h2
  · intro e
    rw [e]
    rfl
theorem pu_8 {R : Nat} (h : R < 2 ^ 64) : ((lN R).toUInt64 >>> (((8 : Int32)).toInt64.toUInt64 &&& Int64.toUInt64 63)).toInt64 = lN (R / 256) := wb_shr (k := 8) h (by decide)
theorem lx_chars {Q : Int32 → Prop} : ∀ (f g R n : Nat), f < g → f ≤ 8 → R < 2 ^ 64 → n + f = 8 → Q (nI (ctC f R n)) → bkX1_charactersIn_8 Q g (lN R) (nI n) (nI (8 - f))
  | _, 0, _, _, hg, _, _, _, _ => absurd hg (Nat.not_lt_zero _)
  | 0, g + 1, R, n, _, _, hR, _, hQ => by
    unfold bkX1_charactersIn_8
    refine ⟨fun _ => ?_, fun q => absurd (nI_le (Nat.le_refl 8) (by decide)) q⟩
    unfold ctC at hQ
    unfold bkX1_charactersIn_65
    rw [pu_0 hR]
    refine ⟨fun q => ?_, fun q => ?_⟩
    · rw [if_neg q] at hQ; exact hQ
    · rw [if_pos q] at hQ; exact hQ
  | f + 1, g + 1, R, n, hg, hf, hR, hn, hQ => by
    have hc : R % 256 < 256 := Nat.mod_lt _ (by decide)
    have hD : R / 256 < 2 ^ 64 := Nat.lt_of_le_of_lt (Nat.div_le_self _ _) hR
    unfold ctC at hQ
    unfold bkX1_charactersIn_8
    rw [pu_and hR, pu_8 hR, pu_0 (R := R % 256) (by omega), pu_33 _ hc, pu_126 _ hc]
    refine ⟨fun q => absurd q (nI_ge (show 8 - (f + 1) < 8 by omega) (by decide)), fun _ => ⟨fun q => ?_, fun q => ⟨fun q1 => ?_, fun q1 => ⟨fun q2 => ?_, fun q2 => ?_⟩⟩⟩⟩
    · rw [if_pos q] at hQ
      unfold bkX1_charactersIn_65
      rw [pu_0 hR]
      refine ⟨fun q => ?_, fun q => ?_⟩
      · rw [if_neg q] at hQ; exact hQ
      · rw [if_pos q] at hQ; exact hQ
    · rw [if_neg q, if_neg (by omega)] at hQ
      exact hQ
    · rw [if_neg q, if_pos ⟨by omega, q2⟩] at hQ
      rintro _ rfl _ rfl _ rfl
      rw [nI_1, nI_1]
      have h := lx_chars f g (R / 256) (n + 1) (by omega) (by omega) hD (by omega) hQ
      rw [show 8 - (f + 1) + 1 = 8 - f by omega]
      exact h
    · rw [if_neg q, if_neg (by omega)] at hQ
      exact hQ
theorem lx_app {X n : Nat} (hX : X < 2 ^ 64) (hn8 : n ≤ 8) {cs : List Nat} (hlen : cs.length + n ≤ 60) {Q : Mem → Prop} (hQ : ∀ μ', PadX (μ' 0 0) (μ' 1) (cs ++ bts X n) → Q μ') : ∀ (m j f : Nat) (μ : Mem), j + m = n → m < f → PadX (μ 0 0) (μ 1) (cs ++ (bts X n).take j) → bkX1_append_5 Q f (lN X) (nI m + -1) μ
  | _, _, 0, _, _, hf, _ => absurd hf (Nat.not_lt_zero _)
  | 0, j, f + 1, μ, hj, _, hP => by
    unfold bkX1_append_5
    refine ⟨fun _ => hQ μ ?_, fun q => absurd (by decide) q⟩
    rw [List.take_of_length_le (by rw [bts_len]; omega)] at hP
    exact hP
  | m + 1, j, f + 1, μ, hj, hf, hP => by
    have e : nI (m + 1) + (-1 : Int32) = nI m := by
      rw [← Int32.sub_eq_add_neg, li 1, nI_sub (by omega)]
      rfl
    rw [e]
    have htl : ((bts X n).take j).length = j := by rw [List.length_take, bts_len]; omega
    have hl : (cs ++ (bts X n).take j).length = cs.length + j := by rw [List.length_append, htl]
    unfold bkX1_append_5
    rw [hP.1, hl, li 8, nI_mul, wb_shr hX (by omega), pu_and (Nat.lt_of_le_of_lt (Nat.div_le_self _ _) hX), pu_i32 _ (Nat.mod_lt _ (by decide)), pu_chr _ (Nat.mod_lt _ (by decide)), nI_clamp (show cs.length + j < 2 ^ 31 by omega)]
    have ep : (2 : Nat) ^ (8 * m) = 256 ^ m := by rw [Nat.pow_mul]
    rw [ep]
    refine ⟨fun q => absurd q (nI_pos (by omega)), fun _ => ⟨fun q => absurd q (nI_pos (by omega)), fun _ => ⟨fun q => absurd q (nI_ge (show cs.length + j < 60 by omega) (by decide)), fun _ => ⟨vinI (by omega) (by decide), ?_⟩⟩⟩⟩
    rintro μ4 e4
    have f0 : μ4 0 0 = nI (cs.length + j) := by rw [e4, ms_cell _ _ _ (by decide), hP.1, hl]
    rw [f0, li 1, nI_add]
    rintro _ rfl _ rfl
    refine lx_app hX hn8 hlen hQ m (j + 1) f _ (by omega) (by omega) ⟨?_, fun i c hi => ?_⟩
    · rw [ms_same]
      congr 1
      rw [List.length_append, List.length_take, bts_len]
      omega
    · rw [ms_cell _ _ _ (by decide), e4]
      rcases Nat.lt_or_ge i (cs.length + j) with g | g
      · rw [ms_place _ _ _ (by omega)]
        refine hP.2 i c ?_
        rcases Nat.lt_or_ge i cs.length with g2 | g2
        · rw [List.getElem?_append_left g2] at hi ⊢
          exact hi
        · rw [List.getElem?_append_right g2] at hi ⊢
          rw [List.getElem?_take_of_lt (by omega)] at hi ⊢
          exact hi
      · have hlt := getE_lt hi
        rw [List.length_append, List.length_take, bts_len] at hlt
        have ei : i = cs.length + j := by omega
        subst ei
        rw [List.getElem?_append_right (by omega), Nat.add_sub_cancel_left, List.getElem?_take_of_lt (by omega), bts_get (by omega)] at hi
        cases hi
        rw [ms_same]
        unfold byt
        rw [show n - 1 - j = m by omega]
theorem x_put {a : Int64} {μ : Mem} {F : FS} (hF : RepF μ F) (hok : FOk F) {Q : Int32 → Mem → Prop} (hQ : ∀ μ', RepF μ' (fPut a F).2 → Q (fPut a F).1 μ') : wpX5_put a μ Q := by
  unfold fPut at hQ
  unfold wpX5_put wpX1_charactersIn
  have ha := nuX_lt a
  have hea := nuX_eq a
  generalize nuX a = X at ha hea hQ
  subst hea
  have hsp := ctC_spec 8 X 0
  refine ⟨9, lx_chars 8 9 X 0 (by decide) (by decide) ha (by decide) ?_⟩
  generalize ctC 8 X 0 = n at hsp hQ
  by_cases h0 : n = 0
  · rw [if_pos h0] at hQ
    subst h0
    exact ⟨fun q => absurd rfl q, fun _ => hQ μ hF⟩
  · rw [if_neg h0] at hQ
    obtain ⟨-, h8, -⟩ := hsp h0
    have h8' : n ≤ 8 := by omega
    have hlen := hok.2.2.2.2.1
    have e : μ (e1 85 0) 0 = nI F.2.2.2.length := hF.2.2.2.1
    refine ⟨fun _ => ?_, fun q => absurd (nI_inj (b := 0) (by omega) (by decide) q) h0⟩
    unfold wpX1_length
    rintro _ rfl
    rw [gl_id]
    show ((μ (e1 85 0) 0 + nI n ≤ 60) → _) ∧ ((¬ μ (e1 85 0) 0 + nI n ≤ 60) → _)
    rw [e, nI_add, li 60, nI_leI (by omega) (by decide)]
    by_cases h1 : F.2.2.2.length + n ≤ 60
    · rw [if_pos h1] at hQ
      refine ⟨fun _ => ?_, fun q => absurd h1 q⟩
      unfold wpX1_append
      rintro _ rfl
      refine ⟨n + 1, ?_⟩
      rw [Int32.sub_eq_add_neg]
      refine lx_app (cs := F.2.2.2) ha h8' h1 (fun τ hP => ?_) n 0 (n + 1) _ (by omega) (by omega) ?_
      · rintro μ7 e7
        have h85 : μ7 85 = τ 0 := by rw [e7]; exact gl_in (b := 85) (k := 0) (by decide)
        have h86 : μ7 86 = τ 1 := by rw [e7]; exact gl_in (b := 85) (k := 1) (by decide)
        have hF7 : RepF μ7 (F.1, F.2.1, F.2.2.1, F.2.2.2 ++ bts X n) := RepF_pad hF (fun k hk => by rw [e7]; exact gl_ne (by omega)) (by rw [h85, h86]; exact hP)
        have h := hQ μ7 hF7
        rintro _ rfl
        rw [gl_id]
        have e9 : μ7 (e1 85 0) 0 = nI (F.2.2.2.length + n) := by
          have := hF7.2.2.2.1
          rw [List.length_append, bts_len] at this
          exact this
        show Q (μ7 (e1 85 0) 0) μ7
        rw [e9]
        exact h
      · rw [List.take_zero, List.append_nil]
        exact hF.2.2.2
    · rw [if_neg h1] at hQ
      exact ⟨fun q => absurd q h1, fun _ => hQ μ hF⟩
