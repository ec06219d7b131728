/-! contracts of constructors: from one bare object to a whole world behind it -/
def μ0 : Mem := fun _ _ => 0
def QG (D : va_G) (tc : Nat → ClassId) (h0 : Nat) (sh1 : List Ds) (A : Nat → Prop) (Q : Mem → Prop) : Array Value → State → Outcome → State → Prop :=
  va_Qv (fun u : (Nat → Nat) × Mem => u.1 0 = h0 ∧ Q u.2) (fun u t => va_P D vwCl (wS tc sh1 u.1 u.2) t.heap ∧ wD A sh1 u.1) A
def ConG (l : Launch) (y : MethodName) (ws : List Cond) (rm : Room) (E : State → Prop) (d0 : Ds) (sh1 : List Ds) (Q : Mem → Prop) (mc ms : Nat) : Prop :=
  ∀ (D : va_G) (tc : Nat → ClassId) (h0 sz : Nat), Met l y ws rm (va_Pc [.ref h0] (fun U => U.heap.size = sz ∧ va_P D vwCl (wS tc [d0] (fun _ => h0) μ0) U.heap ∧ va_K D vwCl (ktys tc) U ∧ kSt (wA [d0] (fun _ => h0) sz) U U.heap ∧ E U)) (QG D tc h0 sh1 (wA [d0] (fun _ => h0) sz) Q) mc ms (wA [d0] (fun _ => h0) sz)
def CtxG (K : KT) (l : Launch) (cc : ByteArray) (own : String) (Ts : List Cond) (rm : Room) (E : State → Prop) (d0 : Ds) (ad : Nat → Nat) (h0 : Nat) (sh1 : List Ds) (Q : Mem → Prop) (mc ms : Nat) : Prop :=
  Ctx K l cc own Ts rm [d0] ad ∧ (kMe K).sig.returnType = none ∧ (kMe K).locks = false ∧ kQ K = MQ (kB K) (QG (kD K) (kT K) h0 sh1 (kA K) Q) (kAr K) (kS K) mc ms (kA K) ∧ (kMe K).name = "<init>" ∧ ad 0 = h0 ∧ E (kS K)
theorem wD_1 (A : Nat → Prop) (d0 : Ds) (h0 : Nat) (h : A h0) : wD A [d0] (fun _ => h0) :=
  ⟨fun i j hi hj _ => by have h1 : i < 1 := hi; have h2 : j < 1 := hj; omega, fun _ _ => h⟩
theorem ConG.mk {l : Launch} {y : MethodName} {ws ws' : List Cond} {rm : Room} {E : State → Prop} {d0 : Ds} {sh1 : List Ds} {Q : Mem → Prop} {mc ms : Nat} {cc : ByteArray} {maxL : Nat} {own : String} (hy : plainName y.cls = true) (ho : y.cls = own) (hyn : y.name = "<init>") (hw : ws = Cond.code y cc maxL none :: ws') (hlen : 1 ≤ maxL)
    (body : ∀ (K : KT) (h0 : Nat) (ad : Nat → Nat), kN K = maxL → CtxG K l cc own ws rm E d0 ad h0 sh1 Q mc ms → JW K (0, 0) [d0] ad μ0 0 [(0, .ref (ad 0))] []) : ConG l y ws rm E d0 sh1 Q mc ms := by
  intro D tc h0 sz
  refine Met.ofW (cc := cc) (maxL := maxL) (ret := none) hy hw ?_
  intro p e s m args below meth c s₁ B hml hv
  obtain ⟨rfl, hsz, hP, hK, hSt, hE⟩ := hv
  subst hsz
  have hl := lv_entry [Value.ref h0] (n := maxL) hlen
  rw [lg_entry_eq]
  refine body (p, l, e, rm, s, m, ([Value.ref h0] : List Value).toArray, below, meth, c, MQ below (QG D tc h0 sh1 (wA [d0] (fun _ => h0) s.heap.size) Q) ([Value.ref h0] : List Value).toArray s mc ms (wA [d0] (fun _ => h0) s.heap.size), D, tc, wA [d0] (fun _ => h0) s.heap.size, maxL) h0 (fun _ => h0) rfl ?_ s.heap [] _ hP va_S.rf hl
  exact ⟨⟨⟨B.exec, B.bytes, hml, by rw [← ho]; exact findClass_of_methodNamed B.named, atoms_spec (ws := ws) B.pre⟩, hK, wD_1 _ d0 h0 (Or.inl ⟨0, Nat.lt_succ_self 0, rfl⟩), fun q h => Or.inr h, hSt, rfl, rfl⟩, B.returns, B.notSynchronized, rfl, (name_of_methodNamed B.named B.method).1.trans hyn, rfl, hE⟩
theorem jw_gret {K : KT} {l : Launch} {cc : ByteArray} {own : String} {Ts : List Cond} {rm : Room} {E : State → Prop} {d0 : Ds} {ad0 ad : Nat → Nat} {h0 : Nat} {sh1 : List Ds} {Q : Mem → Prop} {mc ms : Nat} {μ : Mem} {pc : Nat} {lv : List (Nat × Value)} (G : CtxG K l cc own Ts rm E d0 ad0 h0 sh1 Q mc ms) (C : Ctx K l cc own Ts rm sh1 ad) (hh : ad 0 = h0) (h : Q μ) (d : decode cc pc = .ok (.return_, 1)) : JW K (mc, ms) sh1 ad μ pc lv [] := fun H locs ls hP hS hl => by
  rw [G.2.2.2.1]
  exact W.vret G.1.x G.1.b G.2.1 (fun t ht hW => ⟨⟨(ad, μ), rfl, ⟨hh, h⟩, by rw [ht]; exact hP, C.d⟩, hS.F ht⟩) hS.2.2 d G.2.2.1
/-- another order of the cells -/
theorem jw_perm {K : KT} {cs : Nat × Nat} {sh sh' : List Ds} {ad : Nat → Nat} {μ : Mem} {pc : Nat} {lv : List (Nat × Value)} {st : List Value} (i : Nat → Nat) (hemb : embB sh sh' i = true) (k : JW K cs sh' (fun k => ad (i k)) (fun k => μ (i k)) pc lv st) : JW K cs sh ad μ pc lv st := fun H locs ls hP hS hl => by
  refine k H locs ls (fun j q hq => ?_) hS hl
  obtain ⟨d, hd, rfl⟩ := wS_inv hq
  obtain ⟨d', h1, h2⟩ := embB_at hemb (List.getElem?_eq_some_iff.mp hd).1
  cases h1.symm.trans hd
  have h3 := hP (i j) _ (wS_at h2)
  rw [dsM_E] at h3
  exact h3
theorem Ctx.perm {K : KT} {l : Launch} {cc : ByteArray} {own : String} {Ts : List Cond} {rm : Room} {sh sh' : List Ds} {ad : Nat → Nat} (C : Ctx K l cc own Ts rm sh ad) (i : Nat → Nat) (hemb : embB sh sh' i = true) : Ctx K l cc own Ts rm sh' (fun k => ad (i k)) := C.re ⟨fun a b ha hb e => by
    obtain ⟨d1, -, h1⟩ := embB_at hemb ha
    obtain ⟨d2, -, h2⟩ := embB_at hemb hb
    exact embB_inj hemb ha hb (C.d.1 _ _ (List.getElem?_eq_some_iff.mp h1).1 (List.getElem?_eq_some_iff.mp h2).1 e), fun k hk => by
    obtain ⟨d1, -, h1⟩ := embB_at hemb hk
    exact C.d.2 _ (List.getElem?_eq_some_iff.mp h1).1⟩
theorem dsE_nul {tc : Nat → ClassId} {ad ad' : Nat → Nat} {f : Nat → Int32} {ci : Nat} {fs : List (Nat ⊕ Nat)} (hnl : fs.all nulF = true) : dsE tc ad f (.inr (.inr (ci, fs))) = dsE tc ad' f (.inr (.inr (ci, fs))) := by
  simp only [dsE]
  congr 2
  apply List.map_congr_left
  intro x hx
  have := List.all_eq_true.mp hnl x hx
  rcases x with x | x
  · cases x with
    | zero => rfl
    | succ k => cases this
  · rfl
/-- the world behind a constructor's call: the callee's cells follow -/
def gro (n : Nat) (sh sh1 : List Ds) : List Ds := sh ++ sh1.map (dsM (fun k => n + k))
theorem jw_callG {K : KT} {l : Launch} {cc : ByteArray} {own : String} {Ts : List Cond} {rm : Room} {sh : List Ds} {ad : Nat → Nat} {cs : Nat × Nat} {μ : Mem} {pc : Nat} {lv : List (Nat × Value)} {rest : List Value} {y : MethodName} {bytes : ByteArray} {maxL index a : Nat} {ws ws' : List Cond} {rmY : Room} {ci : Nat} {fs : List (Nat ⊕ Nat)} {sh1 : List Ds} {Q : Mem → Prop} {mc ms : Nat} {E : State → Prop}
    (C : Ctx K l cc own Ts rm (sh ++ [.inr (.inr (ci, fs))]) ad) (hEc : ∀ (a : Array Value) (U : State) (g : JFrame) (mk : MethodId), E U → E (U.calling g mk a)) (hEw : ∀ U : State, (kS K).WarmedH U.vm → E U) (hcon : ConG l y ws rmY E (.inr (.inr (ci, fs))) sh1 Q mc ms) (hcl : clB sh = true) (hnl : fs.all nulF = true) (hμ : μ sh.length = fun _ => 0) (ha : ad sh.length = a) (hG : GoodIn Ts ws) (hw : ws = Cond.code y bytes maxL none :: ws') (hini : Cond.initialized y.cls ∈ Ts) (hlink : Cond.methodLink own index y ∈ Ts) (hins : Cond.instanceMethod y ∈ Ts) (hyn : y.name = "<init>") (hyd : y.cls ≠ "java/lang/invoke/MethodHandle" ∧ y.cls ≠ "java/lang/invoke/VarHandle" ∧ (parseMethodDescriptor y.desc).map (fun d => d.parameters.length) = some 0) (hrc : rmY.cells = mc) (hrs : rmY.slots = ms) (hR : rmY.frames + 1 ≤ rm.frames ∧ 8 + (maxL + 11) + rmY.locals ≤ rm.locals)
    (hW : (rest.map fun v => v.category).sum ≤ 8) (d : decode cc pc = .ok (.invokespecial index, 3)) (hcs : cs.1 + mc ≤ rm.cells ∧ cs.2 + ms ≤ rm.slots)
    (kk : ∀ ad' μ', (∀ k, k ≤ sh.length → ad' k = ad k) → (∀ k, k < sh.length → μ' k = μ k) → Q (fun k => μ' (sh.length + k)) → Ctx K l cc own Ts rm (gro sh.length sh sh1) ad' → JW K (cs.1 + mc, cs.2 + ms) (gro sh.length sh sh1) ad' μ' (pc + 3) lv rest) :
    JW K cs (sh ++ [.inr (.inr (ci, fs))]) ad μ pc lv (.ref a :: rest) := fun H locs ls hP hS hl => by
  subst ha
  have hlen : (sh ++ [(.inr (.inr (ci, fs)) : Ds)]).length = sh.length + 1 := by rw [List.length_append]; rfl
  have hdn : (sh ++ [(.inr (.inr (ci, fs)) : Ds)])[sh.length]? = some (.inr (.inr (ci, fs))) := by rw [List.getElem?_append_right (Nat.le_refl _), Nat.sub_self]; rfl
  have hPn : va_P (kD K) vwCl (wS (kT K) [(.inr (.inr (ci, fs)) : Ds)] (fun _ => ad sh.length) μ0) H := by
    intro k q hq
    obtain ⟨d, hd, rfl⟩ := wS_inv hq
    have hk : k < 1 := (List.getElem?_eq_some_iff.mp hd).1
    have e : k = 0 := by omega
    subst e
    cases hd
    have h := hP sh.length _ (wS_at hdn)
    rw [hμ, dsE_nul (ad' := fun _ => ad sh.length) hnl] at h
    exact h
  have hAn : kA K (ad sh.length) := C.d.2 _ (by rw [hlen]; omega)
  have hF : ∀ q, wA [(.inr (.inr (ci, fs)) : Ds)] (fun _ => ad sh.length) H.size q → kA K q := by
    intro q hq
    rcases hq with ⟨k, hk, rfl⟩ | hq
    · exact hAn
    · exact C.a q (Nat.le_trans hS.1 hq)
  have hM := hcon (kD K) (kT K) (ad sh.length) H.size
  rw [← C.la] at hM
  refine va_callv (va_runI (As := []) (rest := rest) C.1 hM (cwI 0 C.ts hG hw hrc hrs (C.ts _ hini) (C.ts _ hlink) (C.ts _ hins) hyn hyd (by rw [C.r]; exact hR)) ⟨?_, fun U hU hWm => ?_⟩ rfl rfl hl.1 rfl (lv_room hW) d (by rw [C.r]; exact hcs)) hS (fun q _ h => hF q h) hF (fun u t H1 locs1 ht hvm hpost hB hz hk hS1 => ?_)
  · intro a U g mk q
    obtain ⟨q0, q1, qP, qK, qS, qE⟩ := q
    exact ⟨q0, q1, qP, va_K.moved (u := U) (U := U.calling g mk a) (Vm.Alike.refl U.vm) qK, kSt.moved (u := U) (U := U.calling g mk a) (Vm.Alike.refl U.vm) qS, hEc a U g mk qE⟩
  · exact ⟨rfl, by rw [hU], by rw [hU]; exact hPn, C.k.moved hWm.alike, by rw [hU]; exact (((C.st.kept hS.2.1).narrow hF).moved hWm.alike), hEw U hWm⟩
  · obtain ⟨hu0, hQ⟩ := hpost
    obtain ⟨hPt, hDt⟩ := hB
    rw [ht] at hPt
    have hg : (gro sh.length sh sh1).length = sh.length + sh1.length := by unfold gro; rw [List.length_append, List.length_map]
    let ad' : Nat → Nat := fun k => if k < sh.length then ad k else u.1 (k - sh.length)
    let μ' : Mem := fun k => if k < sh.length then μ k else u.2 (k - sh.length)
    have hlo : ∀ k, k < sh.length → ad' k = ad k := fun k hk => if_pos hk
    have hhi : ∀ k, ad' (sh.length + k) = u.1 k := fun k => by
      show (if sh.length + k < sh.length then _ else _) = _
      rw [if_neg (by omega), Nat.add_sub_cancel_left]
    have hμlo : ∀ k, k < sh.length → μ' k = μ k := fun k hk => if_pos hk
    have hμhi : ∀ k, μ' (sh.length + k) = u.2 k := fun k => by
      show (if sh.length + k < sh.length then _ else _) = _
      rw [if_neg (by omega), Nat.add_sub_cancel_left]
    have hltH : ∀ k, k < sh.length → ad k < H.size := fun k hk => by
      have hg : (sh ++ [(.inr (.inr (ci, fs)) : Ds)])[k]? = some sh[k] := by rw [List.getElem?_append_left hk]; exact List.getElem?_eq_getElem hk
      exact (hP k _ (wS_at hg)).lt
    have hnew : ∀ k, k < sh1.length → u.1 k = ad sh.length ∨ H.size ≤ u.1 k := fun k hk => by
      rcases hDt.2 k hk with ⟨_, _, e⟩ | e
      · exact Or.inl e
      · exact Or.inr e
    have hDg : wD (kA K) (gro sh.length sh sh1) ad' := by
      refine ⟨fun i j hi hj e => ?_, fun k hk => ?_⟩
      · rw [hg] at hi hj
        have cross : ∀ i j, i < sh.length → j < sh1.length → ad i ≠ u.1 j := fun i j h1 h2 e => by
          rcases hnew j h2 with g | g
          · have := C.d.1 i sh.length (by rw [hlen]; omega) (by rw [hlen]; omega) (e.trans g)
            omega
          · have := hltH i h1
            omega
        rcases Nat.lt_or_ge i sh.length with g1 | g1
        · rcases Nat.lt_or_ge j sh.length with g2 | g2
          · rw [hlo i g1, hlo j g2] at e
            exact C.d.1 i j (by rw [hlen]; omega) (by rw [hlen]; omega) e
          · obtain ⟨j', rfl⟩ : ∃ j', j = sh.length + j' := ⟨j - sh.length, by omega⟩
            rw [hlo i g1, hhi] at e
            exact absurd e (cross i j' g1 (by omega))
        · obtain ⟨i', rfl⟩ : ∃ i', i = sh.length + i' := ⟨i - sh.length, by omega⟩
          rcases Nat.lt_or_ge j sh.length with g2 | g2
          · rw [hlo j g2, hhi] at e
            exact absurd e.symm (cross j i' g2 (by omega))
          · obtain ⟨j', rfl⟩ : ∃ j', j = sh.length + j' := ⟨j - sh.length, by omega⟩
            rw [hhi, hhi] at e
            rw [hDt.1 i' j' (by omega) (by omega) e]
      · rw [hg] at hk
        rcases Nat.lt_or_ge k sh.length with g1 | g1
        · rw [hlo k g1]
          exact C.d.2 k (by rw [hlen]; omega)
        · obtain ⟨k', rfl⟩ : ∃ k', k = sh.length + k' := ⟨k - sh.length, by omega⟩
          rw [hhi]
          exact hF _ (hDt.2 k' (by omega))
    have hPg : va_P (kD K) vwCl (wS (kT K) (gro sh.length sh sh1) ad' μ') H1 := by
      intro k q hq
      obtain ⟨d, hd, rfl⟩ := wS_inv hq
      rcases Nat.lt_or_ge k sh.length with g1 | g1
      · unfold gro at hd
        rw [List.getElem?_append_left g1] at hd
        have hd2 : (sh ++ [(.inr (.inr (ci, fs)) : Ds)])[k]? = some d := by rw [List.getElem?_append_left g1]; exact hd
        have h1 := hP k _ (wS_at hd2)
        rw [hlo k g1, hμlo k g1, dsE_ad hlo (clB_at hcl hd)]
        refine h1.kept (hk _ h1.lt (fun hq => ?_))
        rcases hq with ⟨_, _, e⟩ | hq
        · have := C.d.1 k sh.length (by rw [hlen]; omega) (by rw [hlen]; omega) e
          omega
        · exact absurd h1.lt (Nat.not_lt.mpr hq)
      · obtain ⟨k', rfl⟩ : ∃ k', k = sh.length + k' := ⟨k - sh.length, by omega⟩
        unfold gro at hd
        rw [List.getElem?_append_right (by omega), Nat.add_sub_cancel_left, List.getElem?_map] at hd
        cases hd1 : sh1[k']? with
        | none => rw [hd1] at hd; cases hd
        | some d1 =>
          rw [hd1] at hd
          cases hd
          have hk1 := (List.getElem?_eq_some_iff.mp hd1).1
          rw [hhi, hμhi k']
          have e : (fun k => ad' (sh.length + k)) = u.1 := by funext k; exact hhi k
          rw [dsM_E, e]
          exact hPt k' _ (wS_at hd1)
    refine kk ad' μ' (fun k hk => ?_) hμlo ?_ (C.re hDg) H1 locs1 ls hPg hS1 hl
    · rcases Nat.eq_or_lt_of_le hk with e | e
      · subst e
        have := hhi 0
        rw [Nat.add_zero] at this
        rw [this]
        exact hu0
      · exact hlo k e
    · have e : (fun k => μ' (sh.length + k)) = u.2 := by funext k; exact hμhi k
      rw [e]
      exact hQ
