/-! stones as one number, values, the shape: the small programs -/
def encX (s : Stn) : Int32 := nI (sK s * 1048576 + sF s * 32768 + sL s * 1024 + sN s)
def encV (v : Option Nat) : Int32 := match v with
  | none => -6
  | some x => nI x
def vOk (v : Option Nat) : Prop := ∀ x, v = some x → x < 1000
theorem encV_none : encV none = -6 := rfl
theorem encV_some (x : Nat) : encV (some x) = nI x := rfl
theorem m6_toInt : (-6 : Int32).toInt = -6 := by decide
theorem nI_ne_m6 {x : Nat} (h : x < 2 ^ 31) : ¬ nI x = -6 := by
  intro q
  have h1 := congrArg Int32.toInt q
  rw [nI_toInt h, m6_toInt] at h1
  omega
theorem encV_m6 {v : Option Nat} (h : vOk v) : encV v = -6 ↔ v = none := by
  cases v with
  | none => simp [encV]
  | some x =>
    have h1 := h x rfl
    constructor
    · intro q
      exact absurd q (nI_ne_m6 (by omega))
    · intro q
      cases q
theorem encV_inj {u v : Option Nat} (hu : vOk u) (hv : vOk v) (h : encV u = encV v) : u = v := by
  cases u with
  | none =>
    cases v with
    | none => rfl
    | some y => have := hv y rfl; exact absurd h.symm (nI_ne_m6 (by omega))
  | some x =>
    have h1 := hu x rfl
    cases v with
    | none => exact absurd h (nI_ne_m6 (by omega))
    | some y =>
      have h2 := hv y rfl
      have h3 : x = y := nI_inj (by omega) (by omega) h
      rw [h3]
theorem apl_ok {s : Stn} {v : Option Nat} (hs : sOk s) (hv : vOk v) : vOk (apl s v) := by
  intro x hx
  unfold apl at hx
  split at hx
  · cases hx
    exact hs.2.2.2
  · split at hx
    · cases v with
      | none => cases hx
      | some y =>
        cases hx
        exact Nat.mod_lt _ (by decide)
    · cases hx
theorem x_kind {s : Stn} (h : sOk s) : encX s >>> (((20 : Int32)) &&& 31) = nI (sK s) := by
  obtain ⟨h1, h2, h3, h4⟩ := h
  show nI _ >>> (nI 20 &&& 31) = _
  rw [nI_shr (by omega) (by decide)]
  congr 1
  show (sK s * 1048576 + sF s * 32768 + sL s * 1024 + sN s) / 1048576 = sK s
  omega
theorem x_first {s : Stn} (h : sOk s) : (encX s >>> (((15 : Int32)) &&& 31)) &&& ((31 : Int32)) = nI (sF s) := by
  obtain ⟨h1, h2, h3, h4⟩ := h
  show (nI _ >>> (nI 15 &&& 31)) &&& nI (2 ^ 5 - 1) = _
  rw [nI_shr (by omega) (by decide), nI_mask]
  congr 1
  show (sK s * 1048576 + sF s * 32768 + sL s * 1024 + sN s) / 32768 % 32 = sF s
  omega
theorem x_last {s : Stn} (h : sOk s) : (encX s >>> (((10 : Int32)) &&& 31)) &&& ((31 : Int32)) = nI (sL s) := by
  obtain ⟨h1, h2, h3, h4⟩ := h
  show (nI _ >>> (nI 10 &&& 31)) &&& nI (2 ^ 5 - 1) = _
  rw [nI_shr (by omega) (by decide), nI_mask]
  congr 1
  show (sK s * 1048576 + sF s * 32768 + sL s * 1024 + sN s) / 1024 % 32 = sL s
  omega
theorem x_num {s : Stn} (h : sOk s) : encX s &&& ((1023 : Int32)) = nI (sN s) := by
  obtain ⟨h1, h2, h3, h4⟩ := h
  show nI _ &&& nI (2 ^ 10 - 1) = _
  rw [nI_mask]
  congr 1
  show (sK s * 1048576 + sF s * 32768 + sL s * 1024 + sN s) % 1024 = sN s
  omega
theorem r_first {s : Stn} (h : sOk s) {Q : Int32 → Prop} (hQ : Q (nI (sF s))) : wpX3_first (encX s) Q := by unfold wpX3_first; rw [x_first h]; exact hQ
theorem r_last {s : Stn} (h : sOk s) {Q : Int32 → Prop} (hQ : Q (nI (sL s))) : wpX3_last (encX s) Q := by unfold wpX3_last; rw [x_last h]; exact hQ
theorem r_kind {s : Stn} (h : sOk s) {Q : Int32 → Prop} (hQ : Q (nI (sK s))) : wpX3_kind (encX s) Q := by unfold wpX3_kind; rw [x_kind h]; exact hQ
theorem r_num {s : Stn} (h : sOk s) {Q : Int32 → Prop} (hQ : Q (nI (sN s))) : wpX3_number (encX s) Q := by unfold wpX3_number; rw [x_num h]; exact hQ
theorem r_of {k f l n : Nat} (hf : f < 32) (hl : l < 32) (hn : n < 1024) {Q : Int32 → Prop} (hQ : Q (encX (k, f, l, n))) : wpX3_of (nI k) (nI f) (nI l) (nI n) Q := by
  unfold wpX3_of
  have e : (((nI k <<< (((20 : Int32)) &&& 31)) ||| (nI f <<< (((15 : Int32)) &&& 31))) ||| (nI l <<< (((10 : Int32)) &&& 31))) ||| nI n = encX (k, f, l, n) := by
    show (((nI k <<< (nI 20 &&& 31)) ||| (nI f <<< (nI 15 &&& 31))) ||| (nI l <<< (nI 10 &&& 31))) ||| nI n = _
    rw [nI_shl _ (by decide), nI_shl _ (by decide), nI_shl _ (by decide)]
    have e1 : nI (k * 2 ^ 20) ||| nI (f * 2 ^ 15) = nI (2 ^ 15 * (k * 32 + f)) := by
      rw [Nat.mul_comm k, fa_or_sum k (by omega)]
      congr 1
      omega
    have e2 : nI (2 ^ 15 * (k * 32 + f)) ||| nI (l * 2 ^ 10) = nI (2 ^ 10 * ((k * 32 + f) * 32 + l)) := by
      rw [fa_or_sum _ (by omega)]
      congr 1
      omega
    rw [e1, e2, fa_or_sum _ (by omega)]
    unfold encX
    congr 1
    show _ = k * 1048576 + f * 32768 + l * 1024 + n
    omega
  rw [e]
  exact hQ
theorem r_touches {s : Stn} (h : sOk s) {lo hi : Nat} (h1 : lo < 2 ^ 31) (h2 : hi < 2 ^ 31) {Q : Int32 → Prop} (hQ : Q (if tou lo hi s = true then 1 else 0)) : wpX3_touches (encX s) (nI lo) (nI hi) Q := by
  have hF : sF s < 27 := Nat.lt_of_le_of_lt h.2.1 h.2.2.1
  have hL := h.2.2.1
  unfold wpX3_touches
  refine r_first h ⟨fun c => ?_, fun c => r_last h ⟨fun c2 => ?_, fun c2 => ?_⟩⟩
  · rw [nI_ltI h2 (by omega)] at c
    rw [if_neg (by simp [tou]; omega)] at hQ
    exact hQ
  · rw [nI_ltI (by omega) h1] at c2
    rw [if_neg (by simp [tou]; omega)] at hQ
    exact hQ
  · rw [nI_ltI h2 (by omega)] at c
    rw [nI_ltI (by omega) h1] at c2
    rw [if_pos (by simp [tou]; omega)] at hQ
    exact hQ
theorem nI_max {a b : Nat} (ha : a < 2 ^ 31) (hb : b < 2 ^ 31) : (if nI a < nI b then nI b else nI a) = nI (max a b) := by
  by_cases h : a < b
  · rw [if_pos ((nI_ltI ha hb).mpr h)]
    congr 1
    omega
  · rw [if_neg (fun q => h ((nI_ltI ha hb).mp q))]
    congr 1
    omega
theorem nI_min {a b : Nat} (ha : a < 2 ^ 31) (hb : b < 2 ^ 31) : (if nI b < nI a then nI b else nI a) = nI (min a b) := by
  by_cases h : b < a
  · rw [if_pos ((nI_ltI hb ha).mpr h)]
    congr 1
    omega
  · rw [if_neg (fun q => h ((nI_ltI hb ha).mp q))]
    congr 1
    omega
theorem r_part {s : Stn} (h : sOk s) {lo hi : Nat} (h1 : lo < 32) (h2 : hi < 32) {Q : Int32 → Prop} (hQ : Q (encX (prt lo hi s))) : wpX3_part (encX s) (nI lo) (nI hi) Q := by
  have hF : sF s < 27 := Nat.lt_of_le_of_lt h.2.1 h.2.2.1
  have hL := h.2.2.1
  unfold wpX3_part
  refine r_kind h (r_first h (r_last h (r_num h ?_)))
  rw [nI_max (by omega) (by omega), nI_min (by omega) (by omega)]
  exact r_of (by omega) (by omega) (by have := h.2.2.2; omega) hQ
theorem r_isOfOneKey {s : Stn} (h : sOk s) {Q : Int32 → Prop} (hQ : Q (if sF s = sL s then 1 else 0)) : wpX3_isOfOneKey (encX s) Q := by
  have hF : sF s < 27 := Nat.lt_of_le_of_lt h.2.1 h.2.2.1
  have hL := h.2.2.1
  unfold wpX3_isOfOneKey
  refine r_first h (r_last h ⟨fun c => ?_, fun c => ?_⟩)
  · rw [if_neg (fun q => c (by rw [q]))] at hQ
    exact hQ
  · rw [if_pos (nI_inj (by omega) (by omega) c)] at hQ
    exact hQ
theorem r_valueAfter {s : Stn} (h : sOk s) {v : Option Nat} (hv : vOk v) {Q : Int32 → Prop} (hQ : Q (encV (apl s v))) : wpX3_valueAfter (encX s) (encV v) Q := by
  unfold wpX3_valueAfter
  have hk := h.1
  have hn := h.2.2.2
  refine r_kind h ⟨fun c => r_num h ?_, fun c => ⟨fun c1 => ⟨fun c2 => r_num h ?_, fun c2 => ?_⟩, fun c1 => ?_⟩⟩
  · have hk0 : sK s = 0 := nI_inj (by omega) (by omega) c
    unfold apl at hQ
    rw [if_pos hk0] at hQ
    exact hQ
  · have hk1 : sK s = 1 := nI_inj (by omega) (by omega) c1
    unfold apl at hQ
    rw [if_neg (by omega), if_pos hk1] at hQ
    cases v with
    | none => exact absurd rfl c2
    | some x =>
      have hx := hv x rfl
      rw [encV_some, nI_add, li 1000, nI_rem (by omega) (by decide)]
      exact hQ
  · have hk1 : sK s = 1 := nI_inj (by omega) (by omega) c1
    unfold apl at hQ
    rw [if_neg (by omega), if_pos hk1, (encV_m6 hv).mp c2] at hQ
    exact hQ
  · have hk0 : ¬ sK s = 0 := fun q => c (by rw [q]; rfl)
    have hk1 : ¬ sK s = 1 := fun q => c1 (by rw [q]; rfl)
    unfold apl at hQ
    rw [if_neg hk0, if_neg hk1] at hQ
    exact hQ
/-! the shape -/
theorem kc_pos (n : Nat) : 1 ≤ kc n := by
  unfold kc
  split
  · omega
  · split <;> omega
theorem kc_le (n : Nat) : kc n ≤ 9 := by
  unfold kc
  split
  · omega
  · split <;> omega
theorem fk_le {n : Nat} (h : n < 13) : fk n ≤ 24 := by
  unfold fk
  split
  · omega
  · split <;> omega
theorem tb_F : ∀ n, n < 13 → tbF n = nI (fk n) := by decide
theorem tb_K : ∀ n, n < 13 → tbK n = nI (kc n) := by decide
theorem chi_lt : ∀ n, n < 13 → ∀ c, c < 3 → chi n c < 27 := by decide
theorem clo_le : ∀ n, n < 13 → ∀ c, c < 4 → clo n c < 28 := by decide
theorem r_firstKey {n : Nat} (h : n < 13) {Q : Int32 → Prop} (hQ : Q (nI (fk n))) : wpX2_firstKey (nI n) Q := by
  unfold wpX2_firstKey
  refine ⟨fun c => absurd c (nI_pos (by omega)), fun _ => ⟨fun c => ?_, fun _ => ⟨vinI h (by decide), ?_⟩⟩⟩
  · rw [li 13, nI_leI (by decide) (by omega)] at c
    omega
  · rw [nI_clamp (by omega), tb_F n h]
    exact hQ
theorem r_keysOfChild {n : Nat} (h : n < 13) {Q : Int32 → Prop} (hQ : Q (nI (kc n))) : wpX2_keysOfChild (nI n) Q := by
  unfold wpX2_keysOfChild
  refine ⟨fun c => absurd c (nI_pos (by omega)), fun _ => ⟨fun c => ?_, fun _ => ⟨vinI h (by decide), ?_⟩⟩⟩
  · rw [li 13, nI_leI (by decide) (by omega)] at c
    omega
  · rw [nI_clamp (by omega), tb_K n h]
    exact hQ
theorem r_firstKeyOfChild {n c : Nat} (h : n < 13) {Q : Int32 → Prop} (hQ : Q (nI (clo n c))) : wpX2_firstKeyOfChild (nI n) (nI c) Q := by
  unfold wpX2_firstKeyOfChild
  refine r_firstKey h (r_keysOfChild h ?_)
  rw [nI_mul, nI_add, Nat.mul_comm]
  exact hQ
theorem r_lastKeyOfChild {n c : Nat} (h : n < 13) {Q : Int32 → Prop} (hQ : Q (nI (chi n c))) : wpX2_lastKeyOfChild (nI n) (nI c) Q := by
  unfold wpX2_lastKeyOfChild
  rw [nI_1]
  refine r_firstKeyOfChild h ?_
  have hk := kc_pos n
  have e : clo n (c + 1) - 1 = chi n c := by
    unfold chi clo
    rw [Nat.mul_succ]
    omega
  rw [li 1, nI_sub (by unfold clo; rw [Nat.mul_succ]; omega), e]
  exact hQ
theorem lk_eq (n : Nat) : chi n 2 = lk n := by
  unfold chi clo lk
  omega
theorem r_lastKey {n : Nat} (h : n < 13) {Q : Int32 → Prop} (hQ : Q (nI (lk n))) : wpX2_lastKey (nI n) Q := by
  unfold wpX2_lastKey
  refine r_lastKeyOfChild (c := 2) h ?_
  rw [lk_eq]
  exact hQ
theorem r_isLow {n : Nat} (h : n < 13) {Q : Int32 → Prop} (hQ : Q (if n < 4 then 0 else 1)) : wpX2_isLow (nI n) Q := by
  unfold wpX2_isLow
  refine ⟨fun c => ?_, fun c => ?_⟩
  · rw [li 4, nI_ltI (by omega) (by decide)] at c
    rw [if_pos c] at hQ
    exact hQ
  · rw [li 4, nI_ltI (by omega) (by decide)] at c
    rw [if_neg c] at hQ
    exact hQ
def lev (n : Nat) : Nat := if n = 0 then 0 else if n < 4 then 1 else 2
theorem r_level {n : Nat} (h : n < 13) {Q : Int32 → Prop} (hQ : Q (nI (lev n))) : wpX2_level (nI n) Q := by
  unfold wpX2_level
  refine ⟨fun c => ⟨fun c1 => ?_, fun c1 => ?_⟩, fun c => ?_⟩
  · rw [li 1, nI_leI (by decide) (by omega)] at c
    rw [li 4, nI_leI (by decide) (by omega)] at c1
    unfold lev at hQ
    rw [if_neg (by omega), if_neg (by omega)] at hQ
    exact hQ
  · rw [li 1, nI_leI (by decide) (by omega)] at c
    rw [li 4, nI_leI (by decide) (by omega)] at c1
    unfold lev at hQ
    rw [if_neg (by omega), if_pos (by omega)] at hQ
    exact hQ
  · rw [li 1, nI_leI (by decide) (by omega)] at c
    unfold lev at hQ
    rw [if_pos (by omega)] at hQ
    exact hQ
theorem r_childNode {n c : Nat} {Q : Int32 → Prop} (hQ : Q (nI (chN n c))) : wpX2_childNode (nI n) (nI c) Q := by
  unfold wpX2_childNode
  rw [li 3, nI_mul, nI_1, nI_add]
  exact hQ
theorem r_lowNodeOf {k : Nat} (h : k < 27) {Q : Int32 → Prop} (hQ : Q (nI (lowN k))) : wpX2_lowNodeOf (nI k) Q := by
  unfold wpX2_lowNodeOf
  rw [li 3, nI_div (by omega) (by decide), li 4, nI_add]
  exact hQ
theorem r_parent {n : Nat} (h : n < 13) {Q : Int32 → Prop} (hQ : Q (nI ((n - 1) / 3))) : wpX2_parent (nI n) Q := by
  unfold wpX2_parent
  refine ⟨fun c => ?_, fun c => ?_⟩
  · rw [li 1, nI_leI (by decide) (by omega)] at c
    rw [li 1, nI_sub c, li 3, nI_div (by omega) (by decide)]
    exact hQ
  · rw [li 1, nI_leI (by decide) (by omega)] at c
    have e : (n - 1) / 3 = 0 := by omega
    rw [e] at hQ
    exact hQ
