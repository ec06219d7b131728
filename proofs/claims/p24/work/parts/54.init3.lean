/-! the constructor of StoneTree -/
theorem jw_callN {K : KT} {l : Launch} {cc : ByteArray} {own : String} {Ts : List Cond} {rm : Room} {sh : List Ds} {ad : Nat → Nat} {cs : Nat × Nat} {μ : Mem} {pc : Nat} {lv : List (Nat × Value)} {rest : List Value} {y : MethodName} {bytes : ByteArray} {maxL index a : Nat} {ws ws' : List Cond} {rmY : Room} {ci : Nat} {fs : List (Nat ⊕ Nat)} {sh1 : List Ds} {Q : Mem → Prop} {mc ms : Nat} {E : State → Prop}
    (C : Ctx K l cc own Ts rm (sh ++ [.inr (.inr (ci, fs))]) ad) (hEc : ∀ (a : Array Value) (U : State) (g : JFrame) (mk : MethodId), E U → E (U.calling g mk a)) (hEw : ∀ U : State, (kS K).WarmedH U.vm → E U) (hcon : ConG l y ws rmY E (.inr (.inr (ci, fs))) sh1 Q mc ms) (hcl : clB sh = true) (hnl : fs.all nulF = true) (hμ : μ sh.length = fun _ => 0) (ha : ad sh.length = a) (hG : GoodIn Ts ws) (hw : ws = Cond.code y bytes maxL none :: ws') (hini : Cond.initialized y.cls ∈ Ts) {host : String} (hlink : va_Nw (.methodLinkNest own index y host) (kS K)) (hins : Cond.instanceMethod y ∈ Ts) (hyn : y.name = "<init>") (hyd : y.cls ≠ "java/lang/invoke/MethodHandle" ∧ y.cls ≠ "java/lang/invoke/VarHandle" ∧ (parseMethodDescriptor y.desc).map (fun d => d.parameters.length) = some 0) (hrc : rmY.cells = mc) (hrs : rmY.slots = ms) (hR : rmY.frames + 1 ≤ rm.frames ∧ 8 + (maxL + 11) + rmY.locals ≤ rm.locals)
    (hW : (rest.map fun v => v.category).sum ≤ 8) (d : decode cc pc = .ok (.invokespecial index, 3)) (hcs : cs.1 + mc ≤ rm.cells ∧ cs.2 + ms ≤ rm.slots)
    (kk : ∀ ad' μ', (∀ k, k ≤ sh.length → ad' k = ad k) → (∀ k, k < sh.length → μ' k = μ k) → Q (fun k => μ' (sh.length + k)) → Ctx K l cc own Ts rm (gro sh.length sh sh1) ad' → JW K (cs.1 + mc, cs.2 + ms) (gro sh.length sh sh1) ad' μ' (pc + 3) lv rest) :
    JW K cs (sh ++ [.inr (.inr (ci, fs))]) ad μ pc lv (.ref a :: rest) := fun H locs ls hP hS hl => by
  subst ha
  have hlen : (sh ++ [(.inr (.inr (ci, fs)) : Ds)]).length = sh.length + 1 := by rw [List.length_append]; rfl
  have hdn : (sh ++ [(.inr (.inr (ci, fs)) : Ds)])[sh.length]? = some (.inr (.inr (ci, fs))) := by rw [List.getElem?_append_right (Nat.le_refl _), Nat.sub_self]; rfl
  have hPn : va_P (kD K) vwCl (wS (kT K) [(.inr (.inr (ci, fs)) : Ds)] (fun _ => ad sh.length) μ0) H := by
    intro k q hq
    obtain ⟨d, hd, rfl⟩ := wS_inv hq
    have hk : k < 1 := (List.getElem?_eq_some_iff.mp hd).1
    have e : k = 0 := by omega
    subst e
    cases hd
    have h := hP sh.length _ (wS_at hdn)
    rw [hμ, dsE_nul (ad' := fun _ => ad sh.length) hnl] at h
    exact h
  have hAn : kA K (ad sh.length) := C.d.2 _ (by rw [hlen]; omega)
  have hF : ∀ q, wA [(.inr (.inr (ci, fs)) : Ds)] (fun _ => ad sh.length) H.size q → kA K q := by
    intro q hq
    rcases hq with ⟨k, hk, rfl⟩ | hq
    · exact hAn
    · exact C.a q (Nat.le_trans hS.1 hq)
  have hM := hcon (kD K) (kT K) (ad sh.length) H.size
  rw [← C.la] at hM
  refine va_callv (va_runIN (As := []) (rest := rest) C.1 hM ⟨va_cnB 0 C.ts hG hw hrc hrs hlink (C.ts _ hini) hyd (by rw [C.r]; exact hR), hyn, C.ts _ hins⟩ ⟨?_, fun U hU hWm => ?_⟩ rfl rfl hl.1 rfl (lv_room hW) d (by rw [C.r]; exact hcs)) hS (fun q _ h => hF q h) hF (fun u t H1 locs1 ht hvm hpost hB hz hk hS1 => ?_)
  · intro a U g mk q
    obtain ⟨q0, q1, qP, qK, qS, qE⟩ := q
    exact ⟨q0, q1, qP, va_K.moved (u := U) (U := U.calling g mk a) (Vm.Alike.refl U.vm) qK, kSt.moved (u := U) (U := U.calling g mk a) (Vm.Alike.refl U.vm) qS, hEc a U g mk qE⟩
  · exact ⟨rfl, by rw [hU], by rw [hU]; exact hPn, C.k.moved hWm.alike, by rw [hU]; exact (((C.st.kept hS.2.1).narrow hF).moved hWm.alike), hEw U hWm⟩
  · obtain ⟨hu0, hQ⟩ := hpost
    obtain ⟨hPt, hDt⟩ := hB
    rw [ht] at hPt
    have hg : (gro sh.length sh sh1).length = sh.length + sh1.length := by unfold gro; rw [List.length_append, List.length_map]
    let ad' : Nat → Nat := fun k => if k < sh.length then ad k else u.1 (k - sh.length)
    let μ' : Mem := fun k => if k < sh.length then μ k else u.2 (k - sh.length)
    have hlo : ∀ k, k < sh.length → ad' k = ad k := fun k hk => if_pos hk
    have hhi : ∀ k, ad' (sh.length + k) = u.1 k := fun k => by
      show (if sh.length + k < sh.length then _ else _) = _
      rw [if_neg (by omega), Nat.add_sub_cancel_left]
    have hμlo : ∀ k, k < sh.length → μ' k = μ k := fun k hk => if_pos hk
    have hμhi : ∀ k, μ' (sh.length + k) = u.2 k := fun k => by
      show (if sh.length + k < sh.length then _ else _) = _
      rw [if_neg (by omega), Nat.add_sub_cancel_left]
    have hltH : ∀ k, k < sh.length → ad k < H.size := fun k hk => by
      have hg : (sh ++ [(.inr (.inr (ci, fs)) : Ds)])[k]? = some sh[k] := by rw [List.getElem?_append_left hk]; exact List.getElem?_eq_getElem hk
      exact (hP k _ (wS_at hg)).lt
    have hnew : ∀ k, k < sh1.length → u.1 k = ad sh.length ∨ H.size ≤ u.1 k := fun k hk => by
      rcases hDt.2 k hk with ⟨_, _, e⟩ | e
      · exact Or.inl e
      · exact Or.inr e
    have hDg : wD (kA K) (gro sh.length sh sh1) ad' := by
      refine ⟨fun i j hi hj e => ?_, fun k hk => ?_⟩
      · rw [hg] at hi hj
        have cross : ∀ i j, i < sh.length → j < sh1.length → ad i ≠ u.1 j := fun i j h1 h2 e => by
          rcases hnew j h2 with g | g
          · have := C.d.1 i sh.length (by rw [hlen]; omega) (by rw [hlen]; omega) (e.trans g)
            omega
          · have := hltH i h1
            omega
        rcases Nat.lt_or_ge i sh.length with g1 | g1
        · rcases Nat.lt_or_ge j sh.length with g2 | g2
          · rw [hlo i g1, hlo j g2] at e
            exact C.d.1 i j (by rw [hlen]; omega) (by rw [hlen]; omega) e
          · obtain ⟨j', rfl⟩ : ∃ j', j = sh.length + j' := ⟨j - sh.length, by omega⟩
            rw [hlo i g1, hhi] at e
            exact absurd e (cross i j' g1 (by omega))
        · obtain ⟨i', rfl⟩ : ∃ i', i = sh.length + i' := ⟨i - sh.length, by omega⟩
          rcases Nat.lt_or_ge j sh.length with g2 | g2
          · rw [hlo j g2, hhi] at e
            exact absurd e.symm (cross j i' g2 (by omega))
          · obtain ⟨j', rfl⟩ : ∃ j', j = sh.length + j' := ⟨j - sh.length, by omega⟩
            rw [hhi, hhi] at e
            rw [hDt.1 i' j' (by omega) (by omega) e]
      · rw [hg] at hk
        rcases Nat.lt_or_ge k sh.length with g1 | g1
        · rw [hlo k g1]
          exact C.d.2 k (by rw [hlen]; omega)
        · obtain ⟨k', rfl⟩ : ∃ k', k = sh.length + k' := ⟨k - sh.length, by omega⟩
          rw [hhi]
          exact hF _ (hDt.2 k' (by omega))
    have hPg : va_P (kD K) vwCl (wS (kT K) (gro sh.length sh sh1) ad' μ') H1 := by
      intro k q hq
      obtain ⟨d, hd, rfl⟩ := wS_inv hq
      rcases Nat.lt_or_ge k sh.length with g1 | g1
      · unfold gro at hd
        rw [List.getElem?_append_left g1] at hd
        have hd2 : (sh ++ [(.inr (.inr (ci, fs)) : Ds)])[k]? = some d := by rw [List.getElem?_append_left g1]; exact hd
        have h1 := hP k _ (wS_at hd2)
        rw [hlo k g1, hμlo k g1, dsE_ad hlo (clB_at hcl hd)]
        refine h1.kept (hk _ h1.lt (fun hq => ?_))
        rcases hq with ⟨_, _, e⟩ | hq
        · have := C.d.1 k sh.length (by rw [hlen]; omega) (by rw [hlen]; omega) e
          omega
        · exact absurd h1.lt (Nat.not_lt.mpr hq)
      · obtain ⟨k', rfl⟩ : ∃ k', k = sh.length + k' := ⟨k - sh.length, by omega⟩
        unfold gro at hd
        rw [List.getElem?_append_right (by omega), Nat.add_sub_cancel_left, List.getElem?_map] at hd
        cases hd1 : sh1[k']? with
        | none => rw [hd1] at hd; cases hd
        | some d1 =>
          rw [hd1] at hd
          cases hd
          have hk1 := (List.getElem?_eq_some_iff.mp hd1).1
          rw [hhi, hμhi k']
          have e : (fun k => ad' (sh.length + k)) = u.1 := by funext k; exact hhi k
          rw [dsM_E, e]
          exact hPt k' _ (wS_at hd1)
    refine kk ad' μ' (fun k hk => ?_) hμlo ?_ (C.re hDg) H1 locs1 ls hPg hS1 hl
    · rcases Nat.eq_or_lt_of_le hk with e | e
      · subst e
        have := hhi 0
        rw [Nat.add_zero] at this
        rw [this]
        exact hu0
      · exact hlo k e
    · have e : (fun k => μ' (sh.length + k)) = u.2 := by funext k; exact hμhi k
      rw [e]
      exact hQ
theorem jw_lay {K : KT} {cs : Nat × Nat} {sh sh' : List Ds} {ad : Nat → Nat} {μ : Mem} {pc : Nat} {lv : List (Nat × Value)} {st : List Value} (e : sh = sh') (k : JW K cs sh' ad μ pc lv st) : JW K cs sh ad μ pc lv st := e ▸ k
theorem mH_50 {k : Nat} (h : 50 ≤ k) : mH 6 k = fun _ => 0 := by
  unfold mH
  rw [if_neg (by omega), if_neg (by omega)]
abbrev EX5 : State → Prop := fun U => va_AO RX4 U ∧ va_Nw (.methodLinkNest RX5 36 yX1_init "StoneTree") U
def oX (fs : List Nat) : Ds := .inr (.inr (3, fs.map .inl))
def tA (n : Nat) (sh : List Ds) : List Ds := sh.map (dsM fun k => n + k)
def sA1 : List Ds := oX [2, 0, 0, 0, 0, 0] :: tA 1 shT
def sA2 : List Ds := oX [2, 10, 0, 0, 0, 0] :: (tA 1 shT ++ tA 9 shT)
def sA3 : List Ds := oX [2, 10, 18, 0, 0, 0] :: (tA 1 shT ++ tA 9 shT ++ tA 17 shH)
def sA4 : List Ds := oX [2, 10, 18, 68, 0, 0] :: (tA 1 shT ++ tA 9 shT ++ tA 17 shH ++ [.inr (.inl (3, [0, 0]))])
def sA5 : List Ds := oX [2, 10, 18, 68, 69, 0] :: (tA 1 shT ++ tA 9 shT ++ tA 17 shH ++ [.inr (.inl (3, [0, 0])), .inl (1, 2)])
def sA6 : List Ds := oX [2, 10, 18, 68, 69, 70] :: (tA 1 shT ++ tA 9 shT ++ tA 17 shH ++ [.inr (.inl (3, [0, 0])), .inl (1, 2)] ++ tA 69 shP)
def sA7 : List Ds := oX [2, 10, 18, 68, 69, 70] :: (tA 1 shT ++ tA 9 shT ++ tA 17 shH ++ [.inr (.inl (3, [73, 0])), .inl (1, 2)] ++ tA 69 shP ++ tA 72 shT)
def sA8 : List Ds := oX [2, 10, 18, 68, 69, 70] :: (tA 1 shT ++ tA 9 shT ++ tA 17 shH ++ [.inr (.inl (3, [73, 81])), .inl (1, 2)] ++ tA 69 shP ++ tA 72 shT ++ tA 80 shT)
def iX (k : Nat) : Nat := if k < 68 then k else if k < 84 then k + 4 else if k = 84 then 68 else if k < 88 then k - 16 else k
theorem embX : embB sA8 shX iX = true := by decide +kernel
def dX0 : Ds := oX [0, 0, 0, 0, 0, 0]
abbrev rgX5 : Room := { frames := 3, cells := 87, slots := 3868, locals := 54 }
theorem iwgX5 : ∀ w ∈ u_ws RX5 TX5 6, w ∈ wsX5_init := by decide +kernel
theorem iwgX54 : ∀ w ∈ u_ws RX4 TX4 10, w ∈ wsX5_init := by decide +kernel
theorem iwgX50 : ∀ w ∈ u_ws RX0 TX0 3, w ∈ wsX5_init := by decide +kernel
theorem iwgX51 : ∀ w ∈ u_ws RX1 TX1 5, w ∈ wsX5_init := by decide +kernel
def QX (μ : Mem) : Prop := (∀ k, k < 8 → μ (1 + k) = mT 27 k) ∧ μ 17 = (fun _ => 0) ∧ μ 84 = (fun _ => 0) ∧ μ 85 = (fun _ => 0) ∧ ∀ k, 88 ≤ k → μ k = fun _ => 0
set_option maxRecDepth 100000 in
set_option maxHeartbeats 8000000 in
theorem cgX5_init (l : Launch) : ConG l yX5_init wsX5_init rgX5 EX5 dX0 shX QX 87 3868 := by
  refine ConG.mk (cc := cX5_init) (maxL := 2) (own := RX5) (by decide) rfl rfl rfl (by decide) (fun K h0 ad hN G => ?_)
  have C := G.1
  have hnm := G.2.2.2.2.1
  have hh := G.2.2.2.2.2.1
  have hE := G.2.2.2.2.2.2
  have hN_1 : 1 < kN K := by rw [hN]; decide
  rw [hh]
  refine jw_aload_n C dX5_init_0 rfl 0 rfl ?_
  refine jw_objInit C (by decide +kernel) (by decide +kernel) (by decide +kernel) (Nat.le_of_ble_eq_true rfl) (Nat.le_of_ble_eq_true rfl) dX5_init_1 ?_
  refine jw_aload_n C dX5_init_4 rfl 0 rfl ?_
  refine jw_new C iwgX54 tyX4 tyX4_ok (by decide +kernel) (by decide +kernel) (by decide +kernel) (ci := 2) (N := 10) (fs := [.inl 0, .inl 0, .inl 0, .inl 0, .inl 0, .inl 0, .inl 0, .inr 0, .inr 1, .inr 2]) rfl (fun j hj => by rcases (show j = 0 ∨ j = 1 ∨ j = 2 ∨ j = 3 ∨ j = 4 ∨ j = 5 ∨ j = 6 ∨ j = 7 ∨ j = 8 ∨ j = 9 by omega) with rfl | rfl | rfl | rfl | rfl | rfl | rfl | rfl | rfl | rfl <;> rfl) rfl (Nat.le_of_ble_eq_true rfl) (Nat.le_of_ble_eq_true rfl) rfl rfl dX5_init_5 (fun q1 Cn => ?_)
  refine jw_dup Cn dX5_init_8 rfl ?_
  refine jw_callG Cn (fun _ _ _ _ _ => trivial) (fun _ _ => trivial) (cgX4_init l) rfl rfl rfl rfl gX5_init_X4_init rfl (by decide +kernel) (by decide +kernel) (by decide +kernel) rfl (by decide) rfl rfl ⟨(Nat.le_of_ble_eq_true rfl), (Nat.le_of_ble_eq_true rfl)⟩ (Nat.le_of_ble_eq_true rfl) dX5_init_9 ⟨(Nat.le_of_ble_eq_true rfl), (Nat.le_of_ble_eq_true rfl)⟩ (fun ad1 μ1 hA1 hlo1 hQ1 Cc => ?_)
  have z1 : ad1 0 = h0 := (hA1 0 (by decide)).trans hh
  have w1 : ad1 1 = q1 := (hA1 1 (by decide)).trans (adN_n _ _ _)
  have t1 : ∀ k, μ1 (1 + k) = mT 27 k := congrFun hQ1
  refine jw_putF Cc hnm iwgX5 (q := 0) (j := 1) z1 w1 rfl rfl 0 (by decide) tyX5 tyX5_ok nmX5 (by decide +kernel) rfl rfl (ty := tyX5 0) (tyX5_ok 0 (by decide)) rfl rfl (by decide) dX5_init_12 (fun D1 => ?_)
  refine jw_lay (sh' := sA1) rfl ?_
  have D1 : Ctx K l cX5_init RX5 wsX5_init rgX5 sA1 _ := D1
  refine jw_aload_n D1 dX5_init_15 rfl 0 rfl ?_
  have m9 : μ1 9 = fun _ => 0 := (t1 8).trans (mT_8 (by decide))
  refine jw_new D1 iwgX54 tyX4 tyX4_ok (by decide +kernel) (by decide +kernel) (by decide +kernel) (ci := 2) (N := 10) (fs := [.inl 0, .inl 0, .inl 0, .inl 0, .inl 0, .inl 0, .inl 0, .inr 0, .inr 1, .inr 2]) rfl (fun j hj => by rcases (show j = 0 ∨ j = 1 ∨ j = 2 ∨ j = 3 ∨ j = 4 ∨ j = 5 ∨ j = 6 ∨ j = 7 ∨ j = 8 ∨ j = 9 by omega) with rfl | rfl | rfl | rfl | rfl | rfl | rfl | rfl | rfl | rfl <;> rfl) rfl (Nat.le_of_ble_eq_true rfl) (Nat.le_of_ble_eq_true rfl) rfl m9 dX5_init_16 (fun q2 D1n => ?_)
  refine jw_dup D1n dX5_init_19 rfl ?_
  refine jw_callG D1n (fun _ _ _ _ _ => trivial) (fun _ _ => trivial) (cgX4_init l) rfl rfl m9 rfl gX5_init_X4_init rfl (by decide +kernel) (by decide +kernel) (by decide +kernel) rfl (by decide) rfl rfl ⟨(Nat.le_of_ble_eq_true rfl), (Nat.le_of_ble_eq_true rfl)⟩ (Nat.le_of_ble_eq_true rfl) dX5_init_20 ⟨(Nat.le_of_ble_eq_true rfl), (Nat.le_of_ble_eq_true rfl)⟩ (fun ad2 μ2 hA2 hlo2 hQ2 D1c => ?_)
  have z2 : ad2 0 = h0 := (hA2 0 (by decide)).trans z1
  have w2 : ad2 9 = q2 := (hA2 9 (by decide)).trans (adN_n _ _ _)
  have t2 : ∀ k, μ2 (9 + k) = mT 27 k := congrFun hQ2
  refine jw_putF D1c hnm iwgX5 (q := 0) (j := 9) z2 w2 rfl rfl 1 (by decide) tyX5 tyX5_ok nmX5 (by decide +kernel) rfl rfl (ty := tyX5 1) (tyX5_ok 1 (by decide)) rfl rfl (by decide) dX5_init_23 (fun D2 => ?_)
  refine jw_lay (sh' := sA2) rfl ?_
  have D2 : Ctx K l cX5_init RX5 wsX5_init rgX5 sA2 _ := D2
  refine jw_aload_n D2 dX5_init_26 rfl 0 rfl ?_
  have m17 : μ2 17 = fun _ => 0 := (t2 8).trans (mT_8 (by decide))
  refine jw_new D2 iwgX50 tyX0 tyX0_ok (by decide +kernel) (by decide +kernel) (by decide +kernel) (ci := 0) (N := 3) (fs := [.inl 0, .inr 0, .inr 1]) rfl (fun j hj => by rcases (show j = 0 ∨ j = 1 ∨ j = 2 by omega) with rfl | rfl | rfl <;> rfl) rfl (Nat.le_of_ble_eq_true rfl) (Nat.le_of_ble_eq_true rfl) rfl m17 dX5_init_27 (fun q3 D2n => ?_)
  refine jw_dup D2n dX5_init_30 rfl ?_
  refine jw_callG D2n (fun a U g mk q => va_AO.moved (u := U) (U := U.calling g mk a) (Vm.Alike.refl U.vm) q) (fun U hW => va_AO.moved hW.alike hE.1) (cgX0_init l) rfl rfl m17 rfl gX5_init_X0_init rfl (by decide +kernel) (by decide +kernel) (by decide +kernel) rfl (by decide) rfl rfl ⟨(Nat.le_of_ble_eq_true rfl), (Nat.le_of_ble_eq_true rfl)⟩ (Nat.le_of_ble_eq_true rfl) dX5_init_31 ⟨(Nat.le_of_ble_eq_true rfl), (Nat.le_of_ble_eq_true rfl)⟩ (fun ad3 μ3 hA3 hlo3 hQ3 D2c => ?_)
  have z3 : ad3 0 = h0 := (hA3 0 (by decide)).trans z2
  have w3 : ad3 17 = q3 := (hA3 17 (by decide)).trans (adN_n _ _ _)
  have t3 : ∀ k, μ3 (17 + k) = mH 6 k := congrFun hQ3
  refine jw_putF D2c hnm iwgX5 (q := 0) (j := 17) z3 w3 rfl rfl 2 (by decide) tyX5 tyX5_ok nmX5 (by decide +kernel) rfl rfl (ty := tyX5 2) (tyX5_ok 2 (by decide)) rfl rfl (by decide) dX5_init_34 (fun D3 => ?_)
  refine jw_lay (sh' := sA3) rfl ?_
  have D3 : Ctx K l cX5_init RX5 wsX5_init rgX5 sA3 _ := D3
  refine jw_aload_n D3 dX5_init_37 rfl 0 rfl ?_
  refine jw_iconst (v := 2) D3 dX5_init_38 (by decide) ?_
  refine jw_newq (N := 2) D3 (by decide +kernel) hE.1 (by decide) (by decide) (by decide) (Nat.le_of_ble_eq_true rfl) (Nat.le_of_ble_eq_true rfl) rfl dX5_init_39 (fun q4 D3n => ?_)
  refine jw_putF D3n hnm iwgX5 (q := 0) (j := 67) z3 rfl rfl rfl 3 (by decide) tyX5 tyX5_ok nmX5 (by decide +kernel) rfl rfl (ty := tyX5 3) (tyX5_ok 3 (by decide)) rfl rfl (by decide) dX5_init_42 (fun D4 => ?_)
  refine jw_lay (sh' := sA4) rfl ?_
  have D4 : Ctx K l cX5_init RX5 wsX5_init rgX5 sA4 _ := D4
  refine jw_aload_n D4 dX5_init_45 rfl 0 rfl ?_
  refine jw_iconst (v := 2) D4 dX5_init_46 (by decide) ?_
  have m68 : μ3 68 = fun _ => 0 := (t3 51).trans (mH_50 (by decide))
  refine jw_newa (t := 1) (ty := .boolean) (N := 2) D4 (by decide +kernel) rfl rfl (fun _ _ h => h) rfl (by decide) (by decide) (by decide) (Nat.le_of_ble_eq_true rfl) (Nat.le_of_ble_eq_true rfl) rfl m68 dX5_init_47 (fun q5 D4n => ?_)
  refine jw_putF D4n hnm iwgX5 (q := 0) (j := 68) z3 rfl rfl rfl 4 (by decide) tyX5 tyX5_ok nmX5 (by decide +kernel) rfl rfl (ty := tyX5 4) (tyX5_ok 4 (by decide)) rfl rfl (by decide) dX5_init_49 (fun D5 => ?_)
  refine jw_lay (sh' := sA5) rfl ?_
  have D5 : Ctx K l cX5_init RX5 wsX5_init rgX5 sA5 _ := D5
  refine jw_aload_n D5 dX5_init_52 rfl 0 rfl ?_
  have m69 : μ3 69 = fun _ => 0 := (t3 52).trans (mH_50 (by decide))
  refine jw_new D5 iwgX51 tyX1 tyX1_ok (by decide +kernel) (by decide +kernel) (by decide +kernel) (ci := 1) (N := 5) (fs := [.inl 0, .inl 0, .inr 0, .inr 1, .inr 2]) rfl (fun j hj => by rcases (show j = 0 ∨ j = 1 ∨ j = 2 ∨ j = 3 ∨ j = 4 by omega) with rfl | rfl | rfl | rfl | rfl <;> rfl) rfl (Nat.le_of_ble_eq_true rfl) (Nat.le_of_ble_eq_true rfl) rfl m69 dX5_init_53 (fun q6 D5n => ?_)
  refine jw_dup D5n dX5_init_56 rfl ?_
  refine jw_callN D5n (fun _ _ _ _ _ => trivial) (fun _ _ => trivial) (cgX1_init l) rfl rfl m69 rfl gX5_init_X1_init_n36 rfl (by decide +kernel) hE.2 (by decide +kernel) rfl (by decide) rfl rfl ⟨(Nat.le_of_ble_eq_true rfl), (Nat.le_of_ble_eq_true rfl)⟩ (Nat.le_of_ble_eq_true rfl) dX5_init_57 ⟨(Nat.le_of_ble_eq_true rfl), (Nat.le_of_ble_eq_true rfl)⟩ (fun ad4 μ4 hA4 hlo4 hQ4 D5c => ?_)
  have z4 : ad4 0 = h0 := (hA4 0 (by decide)).trans z3
  have w4 : ad4 69 = q6 := (hA4 69 (by decide)).trans (adN_n _ _ _)
  have t4 : ∀ k, μ4 (69 + k) = μ0 k := congrFun hQ4
  refine jw_putF D5c hnm iwgX5 (q := 0) (j := 69) z4 w4 rfl rfl 5 (by decide) tyX5 tyX5_ok nmX5 (by decide +kernel) rfl rfl (ty := tyX5 5) (tyX5_ok 5 (by decide)) rfl rfl (by decide) dX5_init_60 (fun D6 => ?_)
  refine jw_lay (sh' := sA6) rfl ?_
  have D6 : Ctx K l cX5_init RX5 wsX5_init rgX5 sA6 _ := D6
  refine jw_iconst (v := 0) D6 dX5_init_63 (by decide) ?_
  refine jw_istore_n (lw := [(1, .int _), (0, .ref _)]) D6 dX5_init_64 rfl hN_1 rfl ?_
  refine jw_iload_n D6 dX5_init_65 rfl 0 rfl ?_
  refine jw_aload_n D6 dX5_init_66 rfl 1 rfl ?_
  refine jw_getR D6 iwgX5 z4 rfl rfl 3 (by decide) (j := 67) rfl (by decide +kernel) dX5_init_67 ?_
  refine jw_alenR D6 (L := [0, 0]) (v := 2) rfl rfl rfl dX5_init_70 ?_
  refine jw_icmp_ge D6 93 dX5_init_71 (by decide) (fun c => absurd c (by decide)) (fun c => ?_)
  refine jw_aload_n D6 dX5_init_74 rfl 1 rfl ?_
  refine jw_getR D6 iwgX5 z4 rfl rfl 3 (by decide) (j := 67) rfl (by decide +kernel) dX5_init_75 ?_
  refine jw_iload_n D6 dX5_init_78 rfl 0 rfl ?_
  have m72 : μ4 72 = fun _ => 0 := t4 3
  refine jw_new D6 iwgX54 tyX4 tyX4_ok (by decide +kernel) (by decide +kernel) (by decide +kernel) (ci := 2) (N := 10) (fs := [.inl 0, .inl 0, .inl 0, .inl 0, .inl 0, .inl 0, .inl 0, .inr 0, .inr 1, .inr 2]) rfl (fun j hj => by rcases (show j = 0 ∨ j = 1 ∨ j = 2 ∨ j = 3 ∨ j = 4 ∨ j = 5 ∨ j = 6 ∨ j = 7 ∨ j = 8 ∨ j = 9 by omega) with rfl | rfl | rfl | rfl | rfl | rfl | rfl | rfl | rfl | rfl <;> rfl) rfl (Nat.le_of_ble_eq_true rfl) (Nat.le_of_ble_eq_true rfl) rfl m72 dX5_init_79 (fun q7 D6n => ?_)
  refine jw_dup D6n dX5_init_82 rfl ?_
  refine jw_callG D6n (fun _ _ _ _ _ => trivial) (fun _ _ => trivial) (cgX4_init l) rfl rfl m72 rfl gX5_init_X4_init rfl (by decide +kernel) (by decide +kernel) (by decide +kernel) rfl (by decide) rfl rfl ⟨(Nat.le_of_ble_eq_true rfl), (Nat.le_of_ble_eq_true rfl)⟩ (Nat.le_of_ble_eq_true rfl) dX5_init_83 ⟨(Nat.le_of_ble_eq_true rfl), (Nat.le_of_ble_eq_true rfl)⟩ (fun ad5 μ5 hA5 hlo5 hQ5 D6c => ?_)
  have z5 : ad5 0 = h0 := (hA5 0 (by decide)).trans z4
  have w5 : ad5 72 = q7 := (hA5 72 (by decide)).trans (adN_n _ _ _)
  have v5 : ad5 67 = ad4 67 := hA5 67 (by decide)
  have t5 : ∀ k, μ5 (72 + k) = mT 27 k := congrFun hQ5
  refine jw_astq D6c (q0 := 67) (qk := 72) (L := [0, 0]) v5 w5 rfl rfl (T := TX4) (N := 10) rfl (vinI (a := 0) (n := 2) (by decide) (by decide)) dX5_init_86 (fun D7 => ?_)
  refine jw_lay (sh' := sA7) rfl ?_
  have D7 : Ctx K l cX5_init RX5 wsX5_init rgX5 sA7 _ := D7
  refine jw_iinc (v := 1) (lw := [(1, .int _), (0, .ref _)]) (q := 0) D7 dX5_init_87 rfl (by decide) hN_1 rfl ?_
  refine jw_goto (tgt := 65) D7 dX5_init_90 (by decide) ?_
  refine jw_iload_n D7 dX5_init_65 rfl 0 rfl ?_
  refine jw_aload_n D7 dX5_init_66 rfl 1 rfl ?_
  refine jw_getR D7 iwgX5 z5 rfl rfl 3 (by decide) (j := 67) rfl (by decide +kernel) dX5_init_67 ?_
  refine jw_alenR D7 (L := [73, 0]) (v := 2) rfl rfl rfl dX5_init_70 ?_
  refine jw_icmp_ge D7 93 dX5_init_71 (by decide) (fun c => absurd c (by decide)) (fun c => ?_)
  refine jw_aload_n D7 dX5_init_74 rfl 1 rfl ?_
  refine jw_getR D7 iwgX5 z5 rfl rfl 3 (by decide) (j := 67) rfl (by decide +kernel) dX5_init_75 ?_
  refine jw_iload_n D7 dX5_init_78 rfl 0 rfl ?_
  have m80 : μ5 80 = fun _ => 0 := (t5 8).trans (mT_8 (by decide))
  refine jw_new D7 iwgX54 tyX4 tyX4_ok (by decide +kernel) (by decide +kernel) (by decide +kernel) (ci := 2) (N := 10) (fs := [.inl 0, .inl 0, .inl 0, .inl 0, .inl 0, .inl 0, .inl 0, .inr 0, .inr 1, .inr 2]) rfl (fun j hj => by rcases (show j = 0 ∨ j = 1 ∨ j = 2 ∨ j = 3 ∨ j = 4 ∨ j = 5 ∨ j = 6 ∨ j = 7 ∨ j = 8 ∨ j = 9 by omega) with rfl | rfl | rfl | rfl | rfl | rfl | rfl | rfl | rfl | rfl <;> rfl) rfl (Nat.le_of_ble_eq_true rfl) (Nat.le_of_ble_eq_true rfl) rfl m80 dX5_init_79 (fun q8 D7n => ?_)
  refine jw_dup D7n dX5_init_82 rfl ?_
  refine jw_callG D7n (fun _ _ _ _ _ => trivial) (fun _ _ => trivial) (cgX4_init l) rfl rfl m80 rfl gX5_init_X4_init rfl (by decide +kernel) (by decide +kernel) (by decide +kernel) rfl (by decide) rfl rfl ⟨(Nat.le_of_ble_eq_true rfl), (Nat.le_of_ble_eq_true rfl)⟩ (Nat.le_of_ble_eq_true rfl) dX5_init_83 ⟨(Nat.le_of_ble_eq_true rfl), (Nat.le_of_ble_eq_true rfl)⟩ (fun ad6 μ6 hA6 hlo6 hQ6 D7c => ?_)
  have z6 : ad6 0 = h0 := (hA6 0 (by decide)).trans z5
  have w6 : ad6 80 = q8 := (hA6 80 (by decide)).trans (adN_n _ _ _)
  have v6 : ad6 67 = ad5 67 := hA6 67 (by decide)
  have t6 : ∀ k, μ6 (80 + k) = mT 27 k := congrFun hQ6
  refine jw_astq D7c (q0 := 67) (qk := 80) (L := [73, 0]) v6 w6 rfl rfl (T := TX4) (N := 10) rfl (vinI (a := 1) (n := 2) (by decide) (by decide)) dX5_init_86 (fun D8 => ?_)
  refine jw_lay (sh' := sA8) rfl ?_
  have D8 : Ctx K l cX5_init RX5 wsX5_init rgX5 sA8 _ := D8
  refine jw_iinc (v := 2) (lw := [(1, .int _), (0, .ref _)]) (q := 0) D8 dX5_init_87 rfl (by decide) hN_1 rfl ?_
  refine jw_goto (tgt := 65) D8 dX5_init_90 (by decide) ?_
  refine jw_iload_n D8 dX5_init_65 rfl 0 rfl ?_
  refine jw_aload_n D8 dX5_init_66 rfl 1 rfl ?_
  refine jw_getR D8 iwgX5 z6 rfl rfl 3 (by decide) (j := 67) rfl (by decide +kernel) dX5_init_67 ?_
  refine jw_alenR D8 (L := [73, 81]) (v := 2) rfl rfl rfl dX5_init_70 ?_
  refine jw_icmp_ge D8 93 dX5_init_71 (by decide) (fun c => ?_) (fun c => absurd (by decide) c)
  refine jw_perm iX embX ?_
  refine jw_gret G (D8.perm iX embX) z6 ⟨fun k hk => ?_, ?_, ?_, ?_, fun k hk => ?_⟩ dX5_init_93
  · show μ6 (iX (1 + k)) = mT 27 k
    have e : iX (1 + k) = 1 + k := by unfold iX; rw [if_pos (by omega)]
    rw [e, hlo6 (1 + k) (show 1 + k < 80 by omega), hlo5 (1 + k) (show 1 + k < 72 by omega), hlo4 (1 + k) (show 1 + k < 69 by omega), hlo3 (1 + k) (show 1 + k < 17 by omega), hlo2 (1 + k) (show 1 + k < 9 by omega), t1 k]
  · show μ6 17 = fun _ => 0
    rw [hlo6 17 (by decide), hlo5 17 (by decide), hlo4 17 (by decide)]
    exact t3 0
  · show μ6 68 = fun _ => 0
    rw [hlo6 68 (by decide), hlo5 68 (by decide), hlo4 68 (by decide)]
    exact m68
  · show μ6 69 = fun _ => 0
    rw [hlo6 69 (by decide), hlo5 69 (by decide)]
    exact t4 0
  · show μ6 (iX k) = fun _ => 0
    have e : iX k = 80 + (k - 80) := by unfold iX; rw [if_neg (by omega), if_neg (by omega), if_neg (by omega), if_neg (by omega)]; omega
    rw [e, t6]
    exact mT_8 (by omega)
