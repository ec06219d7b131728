/-! numbers: everything that is small is nI of a natural number -/
theorem li (n : Nat) : (OfNat.ofNat n : Int32) = nI n := rfl
theorem nI_mul (a b : Nat) : nI a * nI b = nI (a * b) := (Int32.ofNat_mul a b).symm
theorem nI_sub {a b : Nat} (h : b ≤ a) : nI a - nI b = nI (a - b) := (Int32.ofNat_sub a b h).symm
theorem nI_inj {a b : Nat} (ha : a < 2 ^ 31) (hb : b < 2 ^ 31) (h : nI a = nI b) : a = b := (nI_eq ha hb).mp h
theorem nI_lt0 {a : Nat} (h : a < 2 ^ 31) : (nI a < 0) ↔ False := ⟨fun q => nI_pos h q, False.elim⟩
theorem nI_ge0 {a : Nat} (h : a < 2 ^ 31) : (0 ≤ nI a) ↔ True := ⟨fun _ => trivial, fun _ => nI_pos' h⟩
theorem m1_toInt : (-1 : Int32).toInt = -1 := by decide
theorem nI_div {a b : Nat} (ha : a < 2 ^ 31) (hb : b < 2 ^ 31) : nI a / nI b = nI (a / b) := by
  apply Int32.toInt_inj.mp
  rw [Int32.toInt_div_of_ne_right, nI_toInt ha, nI_toInt hb, nI_toInt (Nat.lt_of_le_of_lt (Nat.div_le_self _ _) ha)]
  · exact (Int.ofNat_tdiv a b).symm
  · intro h
    have h1 := congrArg Int32.toInt h
    rw [nI_toInt hb, m1_toInt] at h1
    omega
theorem nI_rem {a b : Nat} (ha : a < 2 ^ 31) (hb : b < 2 ^ 31) : nI a - nI a / nI b * nI b = nI (a % b) := by
  rw [nI_div ha hb, nI_mul, nI_sub (Nat.div_mul_le_self a b)]
  congr 1
  have h1 := Nat.div_add_mod a b
  have h2 : b * (a / b) = a / b * b := Nat.mul_comm _ _
  omega
theorem vin {a n : Nat} (ha : a < 2 ^ 31) : vp_in (nI a) n ↔ a < n := by
  unfold vp_in
  rw [nI_clamp ha]
  constructor
  · intro h
    exact Nat.not_le.mp (fun q => h (Or.inr q))
  · intro h q
    rcases q with q | q
    · exact nI_pos ha q
    · omega
theorem vinI {a n : Nat} (h : a < n) (hn : n < 2 ^ 31) : vp_in (nI a) n := (vin (by omega)).mpr h
theorem sm_k (k : Nat) (h : k < 32) : ((nI k &&& 31).toBitVec.smod 32).toNat = k := s_l k h
theorem nI_shl (a : Nat) {k : Nat} (h : k < 32) : nI a <<< (nI k &&& 31) = nI (a * 2 ^ k) := by
  apply Int32.toBitVec_inj.mp
  rw [Int32.toBitVec_shiftLeft]
  show BitVec.ofNat 32 a <<< ((nI k &&& 31).toBitVec.smod 32).toNat = BitVec.ofNat 32 (a * 2 ^ k)
  rw [sm_k k h]
  apply BitVec.eq_of_toNat_eq
  rw [BitVec.toNat_shiftLeft, BitVec.toNat_ofNat, BitVec.toNat_ofNat, Nat.shiftLeft_eq, Nat.mod_mul_mod]
theorem nI_shr {a k : Nat} (ha : a < 2 ^ 31) (h : k < 32) : nI a >>> (nI k &&& 31) = nI (a / 2 ^ k) := by
  apply Int32.toInt_inj.mp
  have e : (nI a >>> (nI k &&& 31)).toInt = (nI a).toInt >>> k := by
    show (nI a >>> (nI k &&& 31)).toBitVec.toInt = _
    rw [Int32.toBitVec_shiftRight]
    show (BitVec.sshiftRight (nI a).toBitVec ((nI k &&& 31).toBitVec.smod 32).toNat).toInt = _
    rw [sm_k k h, BitVec.toInt_sshiftRight]
    rfl
  have hd : a / 2 ^ k ≤ a := Nat.div_le_self _ _
  rw [e, Int.shiftRight_eq_div_pow, nI_toInt ha, nI_toInt (by omega)]
  rfl
theorem nI_mask (a k : Nat) : nI a &&& nI (2 ^ k - 1) = nI (a % 2 ^ k) := fa_mask a k
/-! memory -/
theorem ms_same (μ : Mem) (a i : Nat) (v : Int32) : mset μ a i v a i = v := by simp [mset, mput, upd]
theorem ms_cell (μ : Mem) {a b : Nat} (i : Nat) (v : Int32) (h : b ≠ a) : mset μ a i v b = μ b := by simp [mset, mput, h]
theorem ms_place (μ : Mem) (a : Nat) {i j : Nat} (v : Int32) (h : j ≠ i) : mset μ a i v a j = μ a j := by simp [mset, mput, upd, h]
theorem ms_at (μ : Mem) (a i : Nat) (v : Int32) (b j : Nat) : mset μ a i v b j = if b = a ∧ j = i then v else μ b j := by
  by_cases h : b = a
  · subst h
    by_cases h2 : j = i
    · simp [mset, mput, upd, h2]
    · simp [mset, mput, upd, h2]
  · simp [mset, mput, h]
theorem mp_same (μ : Mem) (a : Nat) (f : Nat → Int32) : mput μ a f a = f := by simp [mput]
theorem mp_cell (μ : Mem) {a b : Nat} (f : Nat → Int32) (h : b ≠ a) : mput μ a f b = μ b := by simp [mput, h]
/-! glued memories -/
theorem glue_e1 (b n : Nat) (μ μ' : Mem) (k : Nat) : glue (e1 b) n μ μ' k = if b ≤ k ∧ k < b + n then μ' (k - b) else μ k := by
  unfold glue
  by_cases h : b ≤ k ∧ k < b + n
  · rw [if_pos h]
    cases hf : (List.range n).find? (fun j => e1 b j == k) with
    | none =>
      have h1 := List.find?_eq_none.mp hf (k - b) (List.mem_range.mpr (by omega))
      simp [e1] at h1
      omega
    | some j =>
      have h1 := List.find?_some hf
      have h2 := List.mem_range.mp (List.mem_of_find?_eq_some hf)
      simp [e1] at h1
      have e : k - b = j := by omega
      rw [e]
  · rw [if_neg h]
    have hf : (List.range n).find? (fun j => e1 b j == k) = none := List.find?_eq_none.mpr (fun j hj => by
      have := List.mem_range.mp hj
      simp [e1]
      omega)
    rw [hf]
/-- two blocks that don't meet -/
theorem glue_e2 {n n2 b1 b2 : Nat} (hd : b1 + n ≤ b2 ∨ b2 + n2 ≤ b1) (μ μ' : Mem) (k : Nat) : glue (e2 n b1 b2) (n + n2) μ μ' k = if b1 ≤ k ∧ k < b1 + n then μ' (k - b1) else if b2 ≤ k ∧ k < b2 + n2 then μ' (k - b2 + n) else μ k := by
  unfold glue
  cases hf : (List.range (n + n2)).find? (fun j => e2 n b1 b2 j == k) with
  | none =>
    have h1 : ∀ j, j < n + n2 → ¬ e2 n b1 b2 j = k := fun j hj => by
      have := List.find?_eq_none.mp hf j (List.mem_range.mpr hj)
      simpa using this
    rw [if_neg, if_neg]
    · intro h
      refine h1 (k - b2 + n) (by omega) ?_
      unfold e2
      rw [if_neg (by omega)]
      omega
    · intro h
      refine h1 (k - b1) (by omega) ?_
      unfold e2
      rw [if_pos (by omega)]
      omega
  | some j =>
    have h1 : e2 n b1 b2 j = k := by simpa using List.find?_some hf
    have h2 := List.mem_range.mp (List.mem_of_find?_eq_some hf)
    unfold e2 at h1
    by_cases h : j < n
    · rw [if_pos h] at h1
      rw [if_pos (by omega)]
      have e : k - b1 = j := by omega
      rw [e]
    · rw [if_neg h] at h1
      rw [if_neg (by omega), if_pos (by omega)]
      have e : k - b2 + n = j := by omega
      rw [e]
