/-! the constructors -/
def dT0 : Ds := .inr (.inr (2, [.inl 0, .inl 0, .inl 0, .inl 0, .inl 0, .inl 0, .inl 0, .inr 0, .inr 1, .inr 2]))
def mT : Nat → Mem := fun i k j => if k = 1 ∧ j = 0 then 4 else if k = 1 ∧ j = 1 then 1 else if k = 2 ∧ j < i then -6 else 0
abbrev rgX4 : Room := { frames := 1, cells := 7, slots := 367, locals := 12 }
theorem iwgX4 : ∀ w ∈ u_ws RX4 TX4 10, w ∈ wsX4_init := by decide +kernel
theorem mT_s {i : Nat} : mset (mT i) 2 i (-6) = mT (i + 1) := by
  funext k j
  rw [ms_at]
  unfold mT
  by_cases h : k = 2 ∧ j = i
  · rw [if_pos h, if_neg (by omega), if_neg (by omega), if_pos (by omega)]
  · rw [if_neg h]
    by_cases h2 : k = 2 ∧ j < i
    · rw [if_neg (by omega), if_neg (by omega), if_pos h2, if_neg (by omega), if_neg (by omega), if_pos (by omega)]
    · rw [if_neg h2, if_neg (show ¬ (k = 2 ∧ j < i + 1) by omega)]
theorem lgX4 {K : KT} {l : Launch} {ad0 ad : Nat → Nat} {h0 : Nat} (hN : kN K = 2) (G : CtxG K l cX4_init RX4 wsX4_init rgX4 (fun _ => True) dT0 ad0 h0 shT (fun μ => μ = mT 27) 7 367) (C : Ctx K l cX4_init RX4 wsX4_init rgX4 shT ad) (hh : ad 0 = h0) : ∀ (m i : Nat), i + m = 27 → JW K (7, 367) shT ad (mT i) 70 [(1, .int (nI i)), (0, .ref (ad 0))] [] := by
  have hN_1 : 1 < kN K := by rw [hN]; decide
  intro m
  induction m with
  | zero =>
    intro i hi
    have e : i = 27 := by omega
    subst e
    refine jw_iload_n C dX4_init_70 rfl 0 rfl ?_
    refine jw_aload_n C dX4_init_71 rfl 1 rfl ?_
    refine jw_getR C iwgX4 rfl shT_0 rfl 1 (by decide) rfl (by decide +kernel) dX4_init_72 ?_
    refine jw_alenD C (v := 27) rfl shT_2 rfl (by decide) dX4_init_75 ?_
    refine jw_icmp_ge C 93 dX4_init_76 (by decide) (fun c => ?_) (fun c => absurd (nI_le (Nat.le_refl 27) (by decide)) c)
    exact jw_gret G C hh rfl dX4_init_93
  | succ m ih =>
    intro i hi
    refine jw_iload_n C dX4_init_70 rfl 0 rfl ?_
    refine jw_aload_n C dX4_init_71 rfl 1 rfl ?_
    refine jw_getR C iwgX4 rfl shT_0 rfl 1 (by decide) rfl (by decide +kernel) dX4_init_72 ?_
    refine jw_alenD C (v := 27) rfl shT_2 rfl (by decide) dX4_init_75 ?_
    refine jw_icmp_ge C 93 dX4_init_76 (by decide) (fun c => absurd c (nI_ge (show i < 27 by omega) (by decide))) (fun c => ?_)
    refine jw_aload_n C dX4_init_79 rfl 1 rfl ?_
    refine jw_getR C iwgX4 rfl shT_0 rfl 1 (by decide) rfl (by decide +kernel) dX4_init_80 ?_
    refine jw_iload_n C dX4_init_83 rfl 0 rfl ?_
    refine jw_bipush (v := -6) C dX4_init_84 (by decide) ?_
    refine jw_iast C (q := 2) rfl rfl (vinI (show i < 27 by omega) (by decide)) dX4_init_86 ?_
    rw [nI_clamp (show i < 2 ^ 31 by omega), mT_s]
    refine jw_iinc (lw := [(1, .int _), (0, .ref _)]) (q := 0) C dX4_init_87 rfl (nI_1 i) hN_1 rfl ?_
    refine jw_goto (tgt := 70) C dX4_init_90 (by decide) ?_
    exact ih (i + 1) (by omega)
set_option maxRecDepth 100000 in
set_option maxHeartbeats 4000000 in
theorem cgX4_init (l : Launch) : ConG l yX4_init wsX4_init rgX4 (fun _ => True) dT0 shT (fun μ => μ = mT 27) 7 367 := by
  refine ConG.mk (cc := cX4_init) (maxL := 2) (own := RX4) (by decide) rfl rfl rfl (by decide) (fun K h0 ad hN G => ?_)
  have C := G.1
  have hnm := G.2.2.2.2.1
  refine jw_aload_n C dX4_init_0 rfl 0 rfl ?_
  refine jw_objInit C (by decide +kernel) (by decide +kernel) (by decide +kernel) (Nat.le_of_ble_eq_true rfl) (Nat.le_of_ble_eq_true rfl) dX4_init_1 ?_
  refine jw_aload_n C dX4_init_4 rfl 0 rfl ?_
  refine jw_iconst (v := 2) C dX4_init_5 (by decide) ?_
  refine jw_newa (t := 0) (ty := .int) (N := 2) C (by decide +kernel) rfl rfl (fun _ _ h => h) rfl (by decide) (by decide) (Nat.le_of_ble_eq_true rfl) (Nat.le_of_ble_eq_true rfl) (Nat.le_of_ble_eq_true rfl) rfl rfl dX4_init_6 (fun q1 C1 => ?_)
  refine jw_dup C1 dX4_init_8 rfl ?_
  refine jw_iconst (v := 0) C1 dX4_init_9 (by decide) ?_
  refine jw_iconst (v := 4) C1 dX4_init_10 (by decide) ?_
  refine jw_iast C1 (q := 1) rfl rfl (vinI (a := 0) (by decide) (by decide)) dX4_init_11 ?_
  refine jw_dup C1 dX4_init_12 rfl ?_
  refine jw_iconst (v := 1) C1 dX4_init_13 (by decide) ?_
  refine jw_iconst (v := 1) C1 dX4_init_14 (by decide) ?_
  refine jw_iast C1 (q := 1) rfl rfl (vinI (a := 1) (by decide) (by decide)) dX4_init_15 ?_
  refine jw_putF C1 hnm iwgX4 (q := 0) (j := 1) rfl rfl rfl rfl 0 (by decide) tyX4 tyX4_ok nmX4 (by decide +kernel) rfl rfl (ty := tyX4 0) (tyX4_ok 0 (by decide)) rfl rfl (by decide) dX4_init_16 (fun C1p => ?_)
  refine jw_aload_n C1p dX4_init_19 rfl 0 rfl ?_
  refine jw_bipush (v := 27) C1p dX4_init_20 (by decide) ?_
  refine jw_newa (t := 0) (ty := .int) (N := 27) C1p (by decide +kernel) rfl rfl (fun _ _ h => h) rfl (by decide) (by decide) (Nat.le_of_ble_eq_true rfl) (Nat.le_of_ble_eq_true rfl) (Nat.le_of_ble_eq_true rfl) rfl rfl dX4_init_22 (fun q2 C2 => ?_)
  refine jw_putF C2 hnm iwgX4 (q := 0) (j := 2) rfl rfl rfl rfl 1 (by decide) tyX4 tyX4_ok nmX4 (by decide +kernel) rfl rfl (ty := tyX4 1) (tyX4_ok 1 (by decide)) rfl rfl (by decide) dX4_init_24 (fun C2p => ?_)
  refine jw_aload_n C2p dX4_init_27 rfl 0 rfl ?_
  refine jw_bipush (v := 13) C2p dX4_init_28 (by decide) ?_
  refine jw_newa (t := 0) (ty := .int) (N := 13) C2p (by decide +kernel) rfl rfl (fun _ _ h => h) rfl (by decide) (by decide) (Nat.le_of_ble_eq_true rfl) (Nat.le_of_ble_eq_true rfl) (Nat.le_of_ble_eq_true rfl) rfl rfl dX4_init_30 (fun q3 C3 => ?_)
  refine jw_putF C3 hnm iwgX4 (q := 0) (j := 3) rfl rfl rfl rfl 2 (by decide) tyX4 tyX4_ok nmX4 (by decide +kernel) rfl rfl (ty := tyX4 2) (tyX4_ok 2 (by decide)) rfl rfl (by decide) dX4_init_32 (fun C3p => ?_)
  refine jw_aload_n C3p dX4_init_35 rfl 0 rfl ?_
  refine jw_sipush (v := 286) C3p dX4_init_36 (by decide) ?_
  refine jw_newa (t := 0) (ty := .int) (N := 286) C3p (by decide +kernel) rfl rfl (fun _ _ h => h) rfl (by decide) (by decide) (Nat.le_of_ble_eq_true rfl) (Nat.le_of_ble_eq_true rfl) (Nat.le_of_ble_eq_true rfl) rfl rfl dX4_init_39 (fun q4 C4 => ?_)
  refine jw_putF C4 hnm iwgX4 (q := 0) (j := 4) rfl rfl rfl rfl 3 (by decide) tyX4 tyX4_ok nmX4 (by decide +kernel) rfl rfl (ty := tyX4 3) (tyX4_ok 3 (by decide)) rfl rfl (by decide) dX4_init_41 (fun C4p => ?_)
  refine jw_aload_n C4p dX4_init_44 rfl 0 rfl ?_
  refine jw_bipush (v := 13) C4p dX4_init_45 (by decide) ?_
  refine jw_newa (t := 0) (ty := .int) (N := 13) C4p (by decide +kernel) rfl rfl (fun _ _ h => h) rfl (by decide) (by decide) (Nat.le_of_ble_eq_true rfl) (Nat.le_of_ble_eq_true rfl) (Nat.le_of_ble_eq_true rfl) rfl rfl dX4_init_47 (fun q5 C5 => ?_)
  refine jw_putF C5 hnm iwgX4 (q := 0) (j := 5) rfl rfl rfl rfl 4 (by decide) tyX4 tyX4_ok nmX4 (by decide +kernel) rfl rfl (ty := tyX4 4) (tyX4_ok 4 (by decide)) rfl rfl (by decide) dX4_init_49 (fun C5p => ?_)
  refine jw_aload_n C5p dX4_init_52 rfl 0 rfl ?_
  refine jw_bipush (v := 13) C5p dX4_init_53 (by decide) ?_
  refine jw_newa (t := 0) (ty := .int) (N := 13) C5p (by decide +kernel) rfl rfl (fun _ _ h => h) rfl (by decide) (by decide) (Nat.le_of_ble_eq_true rfl) (Nat.le_of_ble_eq_true rfl) (Nat.le_of_ble_eq_true rfl) rfl rfl dX4_init_55 (fun q6 C6 => ?_)
  refine jw_putF C6 hnm iwgX4 (q := 0) (j := 6) rfl rfl rfl rfl 5 (by decide) tyX4 tyX4_ok nmX4 (by decide +kernel) rfl rfl (ty := tyX4 5) (tyX4_ok 5 (by decide)) rfl rfl (by decide) dX4_init_57 (fun C6p => ?_)
  refine jw_aload_n C6p dX4_init_60 rfl 0 rfl ?_
  refine jw_bipush (v := 13) C6p dX4_init_61 (by decide) ?_
  refine jw_newa (t := 0) (ty := .int) (N := 13) C6p (by decide +kernel) rfl rfl (fun _ _ h => h) rfl (by decide) (by decide) (Nat.le_of_ble_eq_true rfl) (Nat.le_of_ble_eq_true rfl) (Nat.le_of_ble_eq_true rfl) rfl rfl dX4_init_63 (fun q7 C7 => ?_)
  refine jw_putF C7 hnm iwgX4 (q := 0) (j := 7) rfl rfl rfl rfl 6 (by decide) tyX4 tyX4_ok nmX4 (by decide +kernel) rfl rfl (ty := tyX4 6) (tyX4_ok 6 (by decide)) rfl rfl (by decide) dX4_init_65 (fun C7p => ?_)
  have hN_1 : 1 < kN K := by rw [hN]; decide
  refine jw_iconst (v := 0) C7p dX4_init_68 (by decide) ?_
  refine jw_istore_n (lw := [(1, .int _), (0, .ref _)]) C7p dX4_init_69 rfl hN_1 rfl ?_
  have e : mset (mset μ0 1 (0 : Int32).toNatClampNeg 4) 1 (1 : Int32).toNatClampNeg 1 = mT 0 := by
    funext k j
    rw [ms_at, ms_at]
    show (if k = 1 ∧ j = 1 then (1 : Int32) else if k = 1 ∧ j = 0 then 4 else 0) = if k = 1 ∧ j = 0 then 4 else if k = 1 ∧ j = 1 then 1 else if k = 2 ∧ j < 0 then -6 else 0
    by_cases h1 : k = 1 ∧ j = 1
    · rw [if_pos h1, if_neg (by omega), if_pos h1]
    · rw [if_neg h1, if_neg h1, if_neg (show ¬ (k = 2 ∧ j < 0) by omega)]
  rw [e]
  exact lgX4 hN G C7p G.2.2.2.2.2.1 27 0 rfl
def dP0 : Ds := .inr (.inr (1, [.inl 0, .inl 0, .inr 0, .inr 1, .inr 2]))
abbrev rgX1 : Room := { frames := 1, cells := 2, slots := 80, locals := 12 }
theorem iwgX1 : ∀ w ∈ u_ws RX1 TX1 5, w ∈ wsX1_init := by decide +kernel
set_option maxRecDepth 100000 in
set_option maxHeartbeats 4000000 in
theorem cgX1_init (l : Launch) : ConG l yX1_init wsX1_init rgX1 (fun _ => True) dP0 shP (fun μ => μ = μ0) 2 80 := by
  refine ConG.mk (cc := cX1_init) (maxL := 1) (own := RX1) (by decide) rfl rfl rfl (by decide) (fun K h0 ad hN G => ?_)
  have C := G.1
  have hnm := G.2.2.2.2.1
  refine jw_aload_n C dX1_init_0 rfl 0 rfl ?_
  refine jw_objInit C (by decide +kernel) (by decide +kernel) (by decide +kernel) (Nat.le_of_ble_eq_true rfl) (Nat.le_of_ble_eq_true rfl) dX1_init_1 ?_
  refine jw_aload_n C dX1_init_4 rfl 0 rfl ?_
  refine jw_bipush (v := 60) C dX1_init_5 (by decide) ?_
  refine jw_newa (t := 2) (ty := .char) (N := 60) C (by decide +kernel) rfl rfl (fun _ _ h => h) rfl (by decide) (by decide) (Nat.le_of_ble_eq_true rfl) (Nat.le_of_ble_eq_true rfl) (Nat.le_of_ble_eq_true rfl) rfl rfl dX1_init_7 (fun q1 C1 => ?_)
  refine jw_putF C1 hnm iwgX1 (q := 0) (j := 1) rfl rfl rfl rfl 0 (by decide) tyX1 tyX1_ok nmX1 (by decide +kernel) rfl rfl (ty := tyX1 0) (tyX1_ok 0 (by decide)) rfl rfl (by decide) dX1_init_9 (fun C1p => ?_)
  refine jw_aload_n C1p dX1_init_12 rfl 0 rfl ?_
  refine jw_bipush (v := 20) C1p dX1_init_13 (by decide) ?_
  refine jw_newa (t := 0) (ty := .int) (N := 20) C1p (by decide +kernel) rfl rfl (fun _ _ h => h) rfl (by decide) (by decide) (Nat.le_of_ble_eq_true rfl) (Nat.le_of_ble_eq_true rfl) (Nat.le_of_ble_eq_true rfl) rfl rfl dX1_init_15 (fun q2 C2 => ?_)
  refine jw_putF C2 hnm iwgX1 (q := 0) (j := 2) rfl rfl rfl rfl 1 (by decide) tyX1 tyX1_ok nmX1 (by decide +kernel) rfl rfl (ty := tyX1 1) (tyX1_ok 1 (by decide)) rfl rfl (by decide) dX1_init_17 (fun C2p => ?_)
  exact jw_gret G C2p G.2.2.2.2.2.1 rfl dX1_init_20
