/-! the constructor of History -/
abbrev EX0 : State → Prop := va_AO RX4
theorem iwgX0 : ∀ w ∈ u_ws RX0 TX0 3, w ∈ wsX0_init := by decide +kernel
theorem iwgX04 : ∀ w ∈ u_ws RX4 TX4 10, w ∈ wsX0_init := by decide +kernel
def dH0 : Ds := .inr (.inr (0, [.inl 0, .inr 0, .inr 1]))
def LkH (i : Nat) : List Nat := (List.range 6).map fun j => if j < i then 3 + 8 * j else 0
def shHi (i : Nat) : List Ds := .inr (.inr (0, [.inl 2, .inr 0, .inr 1])) :: .inr (.inl (3, LkH i)) :: (List.range i).flatMap fun j => shT.map (dsM fun k => 2 + 8 * j + k)
def mH : Nat → Mem := fun i k => if k < 2 then (fun _ => 0) else if k < 2 + 8 * i then mT 27 ((k - 2) % 8) else fun _ => 0
abbrev rgX0 : Room := { frames := 2, cells := 49, slots := 2268, locals := 33 }
theorem shHi_len : ∀ i, i < 7 → (shHi i).length = 2 + 8 * i := by decide
theorem shHi_6 : shHi 6 = shH := by decide
theorem shHi_cl : ∀ i, i < 6 → clB (shHi i) = true := by decide
theorem shHi_set : ∀ i, i < 6 → (gro (shHi i).length (shHi i) shT).set 1 (.inr (.inl (3, (LkH i).set i ((shHi i).length + 1)))) = shHi (i + 1) := by
  intro i hi
  rcases (show i = 0 ∨ i = 1 ∨ i = 2 ∨ i = 3 ∨ i = 4 ∨ i = 5 by omega) with rfl | rfl | rfl | rfl | rfl | rfl <;> rfl
theorem shHi_1 : ∀ i, i < 6 → (gro (shHi i).length (shHi i) shT)[1]? = some (.inr (.inl (3, LkH i))) := by
  intro i hi
  rcases (show i = 0 ∨ i = 1 ∨ i = 2 ∨ i = 3 ∨ i = 4 ∨ i = 5 by omega) with rfl | rfl | rfl | rfl | rfl | rfl <;> rfl
theorem shHi_n : ∀ i, i < 6 → ((gro (shHi i).length (shHi i) shT)[(shHi i).length]?).isSome = true ∧ ∃ fs, (gro (shHi i).length (shHi i) shT)[(shHi i).length]? = some (.inr (.inr (2, fs))) := by
  intro i hi
  rcases (show i = 0 ∨ i = 1 ∨ i = 2 ∨ i = 3 ∨ i = 4 ∨ i = 5 by omega) with rfl | rfl | rfl | rfl | rfl | rfl <;> exact ⟨rfl, _, rfl⟩
theorem mT_8 {k : Nat} (h : 8 ≤ k) : mT 27 k = fun _ => 0 := by
  funext j
  unfold mT
  rw [if_neg (by omega), if_neg (by omega), if_neg (by omega)]
theorem mH_s {i : Nat} {μ' : Mem} (h1 : ∀ k, k < 2 + 8 * i → μ' k = mH i k) (h2 : (fun k => μ' (2 + 8 * i + k)) = mT 27) : μ' = mH (i + 1) := by
  funext k
  rcases Nat.lt_or_ge k (2 + 8 * i) with g | g
  · rw [h1 k g]
    unfold mH
    by_cases g2 : k < 2
    · rw [if_pos g2, if_pos g2]
    · rw [if_neg g2, if_neg g2, if_pos g, if_pos (by omega)]
  · obtain ⟨q, rfl⟩ : ∃ q, k = 2 + 8 * i + q := ⟨k - (2 + 8 * i), by omega⟩
    have e : μ' (2 + 8 * i + q) = mT 27 q := congrFun h2 q
    rw [e]
    unfold mH
    rw [if_neg (by omega)]
    by_cases g2 : q < 8
    · rw [if_pos (by omega)]
      congr 1
      omega
    · rw [if_neg (by omega), mT_8 (by omega)]
set_option maxRecDepth 100000 in
set_option maxHeartbeats 4000000 in
theorem lgX0 {K : KT} {l : Launch} {ad0 : Nat → Nat} {h0 : Nat} (hN : kN K = 2) (G : CtxG K l cX0_init RX0 wsX0_init rgX0 EX0 dH0 ad0 h0 shH (fun μ => μ = mH 6) 49 2268) : ∀ (m i : Nat) (ad : Nat → Nat), i + m = 6 → Ctx K l cX0_init RX0 wsX0_init rgX0 (shHi i) ad → ad 0 = h0 → JW K (1 + 8 * i, 6 + 377 * i) (shHi i) ad (mH i) 15 [(1, .int (nI i)), (0, .ref h0)] [] := by
  have hN_1 : 1 < kN K := by rw [hN]; decide
  intro m
  induction m with
  | zero =>
    intro i ad hi C hh
    have e : i = 6 := by omega
    subst e
    rw [shHi_6] at C ⊢
    refine jw_iload_n C dX0_init_15 rfl 0 rfl ?_
    refine jw_aload_n C dX0_init_16 rfl 1 rfl ?_
    refine jw_getR C iwgX0 hh shH_0 rfl 0 (by decide) rfl (by decide +kernel) dX0_init_17 ?_
    refine jw_alenR C (v := 6) rfl shH_1 (by decide) dX0_init_20 ?_
    refine jw_icmp_ge C 43 dX0_init_21 (by decide) (fun c => ?_) (fun c => absurd (nI_le (Nat.le_refl 6) (by decide)) c)
    exact jw_gret G C hh rfl dX0_init_43
  | succ m ih =>
    intro i ad hi C hh
    have hi6 : i < 6 := by omega
    have hlen := shHi_len i (by omega)
    obtain ⟨-, fsn, hfsn⟩ := shHi_n i hi6
    refine jw_iload_n C dX0_init_15 rfl 0 rfl ?_
    refine jw_aload_n C dX0_init_16 rfl 1 rfl ?_
    refine jw_getR C iwgX0 hh rfl rfl 0 (by decide) (j := 1) rfl (by decide +kernel) dX0_init_17 ?_
    refine jw_alenR C (L := LkH i) (v := 6) rfl rfl rfl dX0_init_20 ?_
    refine jw_icmp_ge C 43 dX0_init_21 (by decide) (fun c => absurd c (nI_ge hi6 (by decide))) (fun c => ?_)
    refine jw_aload_n C dX0_init_24 rfl 1 rfl ?_
    refine jw_getR C iwgX0 hh rfl rfl 0 (by decide) (j := 1) rfl (by decide +kernel) dX0_init_25 ?_
    refine jw_iload_n C dX0_init_28 rfl 0 rfl ?_
    refine jw_new C iwgX04 tyX4 tyX4_ok (by decide +kernel) (by decide +kernel) (by decide +kernel) (ci := 2) (N := 10) (fs := [.inl 0, .inl 0, .inl 0, .inl 0, .inl 0, .inl 0, .inl 0, .inr 0, .inr 1, .inr 2]) rfl (fun j hj => by rcases (show j = 0 ∨ j = 1 ∨ j = 2 ∨ j = 3 ∨ j = 4 ∨ j = 5 ∨ j = 6 ∨ j = 7 ∨ j = 8 ∨ j = 9 by omega) with rfl | rfl | rfl | rfl | rfl | rfl | rfl | rfl | rfl | rfl <;> rfl) rfl (show 1 + 8 * i + 1 ≤ 49 by omega) (show 6 + 377 * i + 10 ≤ 2268 by omega) (shHi_cl i hi6) (by rw [hlen]; unfold mH; rw [if_neg (by omega), if_neg (by omega)]) dX0_init_29 (fun q C1 => ?_)
    refine jw_dup C1 dX0_init_32 rfl ?_
    refine jw_callG C1 (fun _ _ _ _ _ => trivial) (fun _ _ => trivial) (cgX4_init l) (shHi_cl i hi6) rfl (by rw [hlen]; unfold mH; rw [if_neg (by omega), if_neg (by omega)]) (adN_n _ _ _) gX0_init_X4_init rfl (by decide +kernel) (by decide +kernel) (by decide +kernel) rfl (by decide) rfl rfl ⟨Nat.le_of_ble_eq_true rfl, Nat.le_of_ble_eq_true rfl⟩ (Nat.le_of_ble_eq_true rfl) dX0_init_33 ⟨show 1 + 8 * i + 1 + 7 ≤ 49 by omega, show 6 + 377 * i + 10 + 367 ≤ 2268 by omega⟩ (fun ad' μ' hA hlo hQ C2 => ?_)
    have eμ : μ' = mH (i + 1) := by
      rw [hlen] at hlo hQ
      exact mH_s hlo hQ
    rw [eμ]
    have a0 : ad' 0 = h0 := ((hA 0 (Nat.zero_le _)).trans (adN_k _ _ (by omega))).trans hh
    have a1 : ad' 1 = ad 1 := (hA 1 (by omega)).trans (adN_k _ _ (by omega))
    have an : ad' (shHi i).length = q := (hA _ (Nat.le_refl _)).trans (adN_n _ _ _)
    refine jw_astq C2 a1 an (shHi_1 i hi6) hfsn (T := TX4) (N := 10) rfl (vinI (n := 6) hi6 (by decide)) dX0_init_36 (fun C3 => ?_)
    rw [nI_clamp (show i < 2 ^ 31 by omega), shHi_set i hi6] at C3 ⊢
    refine jw_iinc (lw := [(1, .int _), (0, .ref _)]) (q := 0) C3 dX0_init_37 rfl (nI_1 i) hN_1 rfl ?_
    refine jw_goto (tgt := 15) C3 dX0_init_40 (by decide) ?_
    have h := ih (i + 1) ad' (by omega) C3 a0
    have e1 : 1 + 8 * (i + 1) = 1 + 8 * i + 1 + 7 := by omega
    have e2 : 6 + 377 * (i + 1) = 6 + 377 * i + 10 + 367 := by omega
    rw [e1, e2] at h
    exact h
set_option maxRecDepth 100000 in
set_option maxHeartbeats 4000000 in
theorem cgX0_init (l : Launch) : ConG l yX0_init wsX0_init rgX0 EX0 dH0 shH (fun μ => μ = mH 6) 49 2268 := by
  refine ConG.mk (cc := cX0_init) (maxL := 2) (own := RX0) (by decide) rfl rfl rfl (by decide) (fun K h0 ad hN G => ?_)
  have C := G.1
  have hnm := G.2.2.2.2.1
  have hN_1 : 1 < kN K := by rw [hN]; decide
  refine jw_aload_n C dX0_init_0 rfl 0 rfl ?_
  refine jw_objInit C (by decide +kernel) (by decide +kernel) (by decide +kernel) (Nat.le_of_ble_eq_true rfl) (Nat.le_of_ble_eq_true rfl) dX0_init_1 ?_
  refine jw_aload_n C dX0_init_4 rfl 0 rfl ?_
  refine jw_bipush (v := 6) C dX0_init_5 (by decide) ?_
  refine jw_newq (N := 6) C (by decide +kernel) G.2.2.2.2.2.2 (by decide) (by decide) (by decide) (Nat.le_of_ble_eq_true rfl) (Nat.le_of_ble_eq_true rfl) rfl dX0_init_7 (fun q1 C1 => ?_)
  refine jw_putF C1 hnm iwgX0 (q := 0) (j := 1) rfl rfl rfl rfl 0 (by decide) tyX0 tyX0_ok nmX0 (by decide +kernel) rfl rfl (ty := tyX0 0) (tyX0_ok 0 (by decide)) rfl rfl (by decide) dX0_init_10 (fun C2 => ?_)
  refine jw_iconst (v := 0) C2 dX0_init_13 (by decide) ?_
  refine jw_istore_n (lw := [(1, .int _), (0, .ref _)]) C2 dX0_init_14 rfl hN_1 rfl ?_
  have e : μ0 = mH 0 := by
    funext k
    unfold mH
    by_cases h : k < 2
    · rw [if_pos h]; rfl
    · rw [if_neg h, if_neg (by omega)]; rfl
  rw [e, G.2.2.2.2.2.1]
  exact lgX0 hN G 6 0 (adN ad 1 q1) rfl C2 G.2.2.2.2.2.1
