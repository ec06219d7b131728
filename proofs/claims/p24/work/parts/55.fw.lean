/-! THE LAW'S ROWS: more instructions; the calls of the class over its plain state; static methods that make worlds and forget them -/
section MORE
variable {K : KT} {l : Launch} {cc : ByteArray} {own : String} {Ts : List Cond} {rm : Room} {sh : List Ds} {ad : Nat → Nat} {cs : Nat × Nat} {μ : Mem} {pc : Nat} {lv lw : List (Nat × Value)} {rest : List Value}
theorem jw_lmul (C : Ctx K l cc own Ts rm sh ad) {x y : Int64} (d : decode cc pc = .ok (.lmul, 1)) (k : JW K cs sh ad μ (pc + 1) lv (.long (x * y) :: rest)) : JW K cs sh ad μ pc lv (.long y :: .long x :: rest) := fun H locs ls hP hS hl => lv_lmul C.x C.b d (k H locs ls hP hS hl)
theorem jw_ladd (C : Ctx K l cc own Ts rm sh ad) {x y : Int64} (d : decode cc pc = .ok (.ladd, 1)) (k : JW K cs sh ad μ (pc + 1) lv (.long (x + y) :: rest)) : JW K cs sh ad μ pc lv (.long y :: .long x :: rest) := fun H locs ls hP hS hl => lv_ladd C.x C.b d (k H locs ls hP hS hl)
theorem jw_ixor (C : Ctx K l cc own Ts rm sh ad) {x y : Int32} (d : decode cc pc = .ok (.ixor, 1)) (k : JW K cs sh ad μ (pc + 1) lv (.int (x ^^^ y) :: rest)) : JW K cs sh ad μ pc lv (.int y :: .int x :: rest) := fun H locs ls hP hS hl => lv_ixor C.x C.b d (k H locs ls hP hS hl)
theorem jw_ldc (C : Ctx K l cc own Ts rm sh ad) {index : Nat} {v : Int32} (hc : (Jvm.Cond.constant own index v) ∈ Ts) (d : decode cc pc = .ok (.ldc index, 2)) (k : JW K cs sh ad μ (pc + 2) lv (.int v :: rest)) : JW K cs sh ad μ pc lv rest := fun H locs ls hP hS hl => lv_ldc C.x C.b C.ow (C.ts _ hc) d (k H locs ls hP hS hl)
theorem jw_wid {c1 c2 : Nat} (h1 : cs.1 ≤ c1) (h2 : cs.2 ≤ c2) (k : JW K (c1, c2) sh ad μ pc lv rest) : JW K cs sh ad μ pc lv rest := fun H locs ls hP hS hl => W.widen h1 h2 (k H locs ls hP hS hl)
theorem jw_slen {b L : Nat} {xs : Nat → Int32} (C : Ctx K l cc own Ts rm sh ad) (hX : va_X b L xs (kS K) (kS K).heap) (hbl : b < (kS K).heap.size) (hbA : ¬ kA K b) (d : decode cc pc = .ok (.arraylength, 1)) (kk : JW K cs sh ad μ (pc + 1) lv (.int (nI L) :: rest)) : JW K cs sh ad μ pc lv (.ref b :: rest) := fun H locs ls hP hS hl => va_slen C.x C.b hX hbl hbA hS d (kk H locs ls hP hS hl)
theorem jw_sld {b L : Nat} {xs : Nat → Int32} (C : Ctx K l cc own Ts rm sh ad) (hX : va_X b L xs (kS K) (kS K).heap) (hbl : b < (kS K).heap.size) (hbA : ¬ kA K b) {i : Int32} (hin : vp_in i L) (d : decode cc pc = .ok (.iaload, 1)) (kk : JW K cs sh ad μ (pc + 1) lv (.int (xs i.toNatClampNeg) :: rest)) : JW K cs sh ad μ pc lv (.int i :: .ref b :: rest) := fun H locs ls hP hS hl => va_sld C.x C.b hX hbl hbA hS hin d (kk H locs ls hP hS hl)
/-- a long answer -/
def pL (Q : Int64 → Mem → Prop) : Option Value → Mem → Prop := fun v μ => ∃ r, v = some (.long r) ∧ Q r μ
theorem jw_lret {Q : Int64 → Mem → Prop} {v : Int64} (C : CtxM K l cc own Ts rm sh ad (some .long) (pL Q)) (h : Q v μ) (d : decode cc pc = .ok (.lreturn, 1)) : JW K (0, 0) sh ad μ pc lv [.long v] := fun H locs ls hP hS hl => by
  rw [C.2.2.2]
  exact W.lret C.1.x C.1.b C.2.1 (fun t ht hW => ⟨⟨some (.long v), μ, rfl, ⟨v, rfl, h⟩, by rw [ht]; exact hP⟩, hS.F ht⟩) hS.2.2 d C.2.2.1
end MORE
/-! static methods of the law: they make worlds of their own, and forget them -/
def QF (A : Nat → Prop) (post : Option Value → Prop) : Array Value → State → Outcome → State → Prop := fun _ st oc t => (∃ v : Option Value, oc = .returned v ∧ post v) ∧ va_F A st t
def ConF (l : Launch) (y : MethodName) (ws : List Cond) (rm : Room) (E : State → Prop) (av : List Value) (post : Option Value → Prop) (mc ms : Nat) : Prop :=
  ∀ (D : va_G) (tc : Nat → ClassId) (sz : Nat), Met l y ws rm (va_Pc av (fun U => U.heap.size = sz ∧ va_K D vwCl (ktys tc) U ∧ kSt (fun q => sz ≤ q) U U.heap ∧ E U)) (QF (fun q => sz ≤ q) post) mc ms (fun q => sz ≤ q)
def CtxF (K : KT) (l : Launch) (cc : ByteArray) (own : String) (Ts : List Cond) (rm : Room) (E : State → Prop) (ret : Option FieldType) (post : Option Value → Prop) (mc ms : Nat) : Prop :=
  Ctx K l cc own Ts rm [] (fun _ => 0) ∧ (kMe K).sig.returnType = ret ∧ (kMe K).locks = false ∧ kQ K = MQ (kB K) (QF (kA K) post) (kAr K) (kS K) mc ms (kA K) ∧ E (kS K) ∧ kA K = fun q => (kS K).heap.size ≤ q
theorem ConF.mk {l : Launch} {y : MethodName} {ws ws' : List Cond} {rm : Room} {E : State → Prop} {av : List Value} {post : Option Value → Prop} {mc ms : Nat} {cc : ByteArray} {maxL : Nat} {ret : Option FieldType} {own : String} (hy : plainName y.cls = true) (ho : y.cls = own) (hw : ws = Cond.code y cc maxL ret :: ws') (hlen : (lg_sl av).length ≤ maxL)
    (body : ∀ (K : KT), kN K = maxL → CtxF K l cc own ws rm E ret post mc ms → JW K (0, 0) [] (fun _ => 0) μ0 0 (lv_args 0 av) []) : ConF l y ws rm E av post mc ms := by
  intro D tc sz
  refine Met.ofW (cc := cc) (maxL := maxL) (ret := ret) hy hw ?_
  intro p e s m args below meth c s₁ B hml hv
  obtain ⟨rfl, hsz, hK, hSt, hE⟩ := hv
  subst hsz
  have hl := lv_entry av (n := maxL) hlen
  rw [lg_entry_eq]
  refine body (p, l, e, rm, s, m, av.toArray, below, meth, c, MQ below (QF (fun q => s.heap.size ≤ q) post) av.toArray s mc ms (fun q => s.heap.size ≤ q), D, tc, (fun q => s.heap.size ≤ q), maxL) rfl ?_ s.heap [] _ (fun k q h => by simp [wS] at h) va_S.rf hl
  exact ⟨⟨⟨B.exec, B.bytes, hml, by rw [← ho]; exact findClass_of_methodNamed B.named, atoms_spec (ws := ws) B.pre⟩, hK, ⟨fun i j hi => absurd hi (Nat.not_lt_zero _), fun k hk => absurd hk (Nat.not_lt_zero _)⟩, fun q h => h, hSt, rfl, rfl⟩, B.returns, B.notSynchronized, rfl, hE, rfl⟩
theorem jw_fret {K : KT} {l : Launch} {cc : ByteArray} {own : String} {Ts : List Cond} {rm : Room} {E : State → Prop} {ty : FieldType} {post : Option Value → Prop} {mc ms : Nat} {cs : Nat × Nat} {sh : List Ds} {ad : Nat → Nat} {μ : Mem} {pc : Nat} {lv : List (Nat × Value)} {v : Int32} (G : CtxF K l cc own Ts rm E (some ty) post mc ms) (hn : narrow ty (.int v) = .int v) (h : post (some (.int v))) (hc : cs.1 ≤ mc) (hs : cs.2 ≤ ms) (d : decode cc pc = .ok (.ireturn, 1)) : JW K cs sh ad μ pc lv [.int v] := fun H locs ls hP hS hl => by
  rw [G.2.2.2.1]
  refine W.widen hc hs ?_
  exact W.zret G.1.x G.1.b G.2.1 hn (fun t ht hW => ⟨⟨some (.int v), rfl, h⟩, hS.F ht⟩) hS.2.2 d G.2.2.1
theorem jw_callF {K : KT} {l : Launch} {cc : ByteArray} {own : String} {Ts : List Cond} {rm : Room} {sh : List Ds} {ad : Nat → Nat} {cs : Nat × Nat} {μ : Mem} {pc : Nat} {lv : List (Nat × Value)} {rest st0 : List Value} {y : MethodName} {bytes : ByteArray} {maxL n index : Nat} {ret : Option FieldType} {ws : List Cond} {rmY : Room} {E : State → Prop} {As : List Value} {post : Option Value → Prop} {mc ms : Nat}
    (C : Ctx K l cc own Ts rm sh ad) (hEc : ∀ (a : Array Value) (U : State) (g : JFrame) (mk : MethodId), E U → E (U.calling g mk a)) (hEw : ∀ (H : Heap) (locs : List Loc), va_S (kA K) (kS K).heap H locs → ∀ U : State, U.heap = H → (kS K).WarmedH U.vm → E U) (hcon : ConF l y ws rmY E As post mc ms) (hM : MI y ws bytes maxL ret n) (hG : GoodIn Ts (va_wsS own index y ws)) (hrc : rmY.cells = mc) (hrs : rmY.slots = ms) (hR : rmY.frames + 1 ≤ rm.frames ∧ 8 + (maxL + 11) + rmY.locals ≤ rm.locals) (hn : As.length = n) (hst : st0 = As.reverse ++ rest) (hW : (rest.map fun v => v.category).sum ≤ 8) (d : decode cc pc = .ok (.invokestatic index, 3)) (hcs : cs.1 + mc ≤ rm.cells ∧ cs.2 + ms ≤ rm.slots)
    (kk : ∀ v : Option Value, post v → JW K (cs.1 + mc, cs.2 + ms) sh ad μ (pc + 3) lv (v.toList ++ rest)) : JW K cs sh ad μ pc lv st0 := fun H locs ls hP hS hl => by
  have hF : ∀ q, H.size ≤ q → kA K q := fun q hq => C.a q (Nat.le_trans hS.1 hq)
  have hM2 := hcon (kD K) (kT K) H.size
  rw [← C.la] at hM2
  obtain ⟨⟨ws', hw⟩, m1, m2, m3⟩ := hM
  have cw : CallB (kR K) (kS K) (kAr K) own index y bytes maxL ret ws rmY mc ms n ∧ (Cond.static y).before (kAr K) (kS K) = true := va_cwS n C.ts hG hw hrc hrs ⟨m1, m2, m3⟩ (by rw [C.r]; exact hR)
  have hr : va_Run (kP K) (kL K) (kE K) (kR K) (kS K) (kM K) (kAr K) (kB K) (kMe K) (kC K) H locs cs.1 cs.2 mc ms (F0 (kM K) pc ls st0) rest (QF (fun q => H.size ≤ q) post As.toArray) (fun q => H.size ≤ q) := va_runS C.1 hM2 cw ⟨fun a U g mk q => by
      obtain ⟨q0, q1, qK, qS, qE⟩ := q
      exact ⟨q0, q1, va_K.moved (u := U) (U := U.calling g mk a) (Vm.Alike.refl U.vm) qK, kSt.moved (u := U) (U := U.calling g mk a) (Vm.Alike.refl U.vm) qS, hEc a U g mk qE⟩, fun U hU hWm => ⟨rfl, by rw [hU], C.k.moved hWm.alike, by rw [hU]; exact (((C.st.kept hS.2.1).narrow hF).moved hWm.alike), hEw H locs hS U hU hWm⟩⟩ rfl hn hl.1 hst (lv_room hW) d (by rw [C.r]; exact hcs)
  intro T hT X
  obtain ⟨v, st₀, t, T', L, h0, X', hL, e1, e2, ⟨⟨v', hv, hp⟩, hz, hk⟩, st⟩ := hr T hT X
  cases hv
  rw [h0] at hz hk
  rw [← e1] at hz hk
  have hP' : va_P (kD K) vwCl (wS (kT K) sh ad μ) T'.heap := fun k q hq => by
    have h1 := hP k q hq
    exact h1.kept (hk _ h1.lt (Nat.not_le.mpr h1.lt))
  obtain ⟨t2, a1, b1⟩ := kk v hp T'.heap (locs ++ L) ls hP' ⟨Nat.le_trans hS.1 hz, fun q h1 h2 => by rw [hk q (Nat.lt_of_lt_of_le h1 hS.1) (Nat.not_le.mpr (Nat.lt_of_lt_of_le h1 hS.1))]; exact hS.2.1 q h1 h2, fun q hq => by
      rcases List.mem_append.mp hq with h | h
      · exact hS.2.2 q h
      · exact hF _ (hL q h)⟩ hl T' rfl X'
  exact ⟨t2, st t2 a1, b1⟩
/-! the class's calls, over its plain state; what else the layout holds lies behind the class's cells -/
theorem RepF_c {μ μ' : Mem} {F : FS} (e : ∀ k, k < 88 → μ' k = μ k) (h : RepF μ F) : RepF μ' F := by
  refine ⟨RepT_congr (fun k hk => e _ (by omega)) h.1, RepH_congr (fun k hk => e _ (by omega)) h.2.1, fun i hi => SlotX_congr hi (fun k _ h2 => e k (by omega)) (h.2.2.1 i hi), ?_⟩
  rw [e 85 (by decide), e 86 (by decide)]
  exact h.2.2.2
theorem law_0 {μ : Mem} {F : FS} (h : RepF μ F) : RepF (fun k => μ (e1 0 k)) F := RepF_c (fun k _ => by show μ (0 + k) = μ k; rw [Nat.zero_add]) h
def XC (sh : List Ds) (E : Mem → Prop) : Prop := embB sh shX (e1 0) = true ∧ (∃ fs, sh[0]? = some (.inr (.inr (3, fs)))) ∧ ∀ μ μ' : Mem, (∀ k, 88 ≤ k → μ' k = μ k) → E μ → E μ'
theorem XC_g {μ μ' : Mem} {F2 : FS} {sh : List Ds} {E : Mem → Prop} (X : XC sh E) (hE : E μ) (h : RepF μ' F2) : RepF (glue (e1 0) shX.length μ μ') F2 ∧ E (glue (e1 0) shX.length μ μ') := by
  have G : ∀ k, glue (e1 0) shX.length μ μ' k = if 0 ≤ k ∧ k < 0 + 88 then μ' (k - 0) else μ k := fun k => glue_e1 0 88 μ μ' k
  refine ⟨RepF_c (fun k hk => ?_) h, X.2.2 μ _ (fun k hk => ?_) hE⟩
  · rw [G, if_pos (by omega), Nat.sub_zero]
  · rw [G, if_neg (by omega)]
section XCALL
variable {K : KT} {l : Launch} {cc : ByteArray} {Ts : List Cond} {rm : Room} {sh : List Ds} {ad : Nat → Nat} {cs : Nat × Nat} {μ : Mem} {pc : Nat} {lv : List (Nat × Value)} {rest st0 : List Value} {E : Mem → Prop} {own : String}
variable {y : MethodName} {bytes : ByteArray} {maxL n index : Nat} {ret : Option FieldType} {ws : List Cond} {rmY : Room} {As : List Value} {F F' : FS} {v : Int32}
theorem jw_x (C : Ctx K l cc own Ts rm sh ad) (X : XC sh E) (hF : RepF μ F) (hE : E μ) (hcon : ∀ μ, RepF μ F → Con l y ws rmY shX (fun ad => .ref (ad 0) :: As) μ (pI fun r μ' => r = v ∧ RepF μ' F')) (hM : MI y ws bytes maxL ret n) (hC : y.cls = RX5) (hG : GoodIn Ts (wsV own index RX5 y ws)) (hR : rmY.cells = 0 ∧ rmY.slots = 0 ∧ rmY.frames + 1 ≤ rm.frames ∧ 8 + (maxL + 11) + rmY.locals ≤ rm.locals) (hn : As.length = n) (hst : st0 = As.reverse ++ .ref (ad 0) :: rest) (hW : (rest.map fun v => v.category).sum ≤ 8) (hcs : cs.1 ≤ rm.cells ∧ cs.2 ≤ rm.slots) (d : decode cc pc = .ok (.invokevirtual index, 3))
    (kk : ∀ μ', RepF μ' F' → E μ' → JW K cs sh ad μ' (pc + 3) lv (.int v :: rest)) : JW K cs sh ad μ pc lv st0 := by
  obtain ⟨fs, h0⟩ := X.2.1
  refine jw_gVI (b := 0) (rest := rest) C d (e1 0) X.1 (hcon _ (law_0 hF)) hM h0 rfl hG hC hR (by show _ = _; simp [e1]) hn hst hW hcs (fun r μ' h => ?_)
  obtain ⟨rfl, h2⟩ := h
  obtain ⟨g1, g2⟩ := XC_g X hE h2
  exact kk _ g1 g2
end XCALL
/-! the class's contracts over the plain state, by program -/
theorem cn_set (l : Launch) (a : Int32) (b : Int32) {F : FS} (hok : FOk F) : ∀ μ, RepF μ F → Con l yX5_set wsX5_set rmX5_set shX (fun ad => [.ref (ad 0), .int a, .int b]) μ (pI fun r μ' => r = (fSet a b F).1 ∧ RepF μ' (fSet a b F).2) := fun μ hF => ctX5_set l a b μ _ (x_set hF hok (fun _ h => ⟨rfl, h⟩))
theorem jx_set {K : KT} {l : Launch} {cc : ByteArray} {own : String} {Ts : List Cond} {rm : Room} {sh : List Ds} {ad : Nat → Nat} {cs : Nat × Nat} {μ : Mem} {pc index : Nat} {lv : List (Nat × Value)} {rest : List Value} {E : Mem → Prop} {F F' : FS} {v : Int32} {a : Int32} {b : Int32} (C : Ctx K l cc own Ts rm sh ad) (X : XC sh E) (hF : RepF μ F) (hE : E μ) (hok : FOk F) (e : fSet a b F = (v, F')) (hG : GoodIn Ts (wsV own index RX5 yX5_set wsX5_set)) (hfr : 20 ≤ rm.frames) (hlo : 1000 ≤ rm.locals) (hcs : cs.1 ≤ rm.cells ∧ cs.2 ≤ rm.slots) (hW : (rest.map fun v => v.category).sum ≤ 8) (d : decode cc pc = .ok (.invokevirtual index, 3)) (kk : ∀ μ', RepF μ' F' → E μ' → JW K cs sh ad μ' (pc + 3) lv (.int v :: rest)) : JW K cs sh ad μ pc lv (.int b :: .int a :: .ref (ad 0) :: rest) := by
  refine jw_x (y := yX5_set) (ws := wsX5_set) (rmY := rmX5_set) (As := [.int a, .int b]) (rest := rest) C X hF hE (fun μ h => ?_) miX5_set rfl hG ⟨rfl, rfl, Nat.le_trans (Nat.le_of_ble_eq_true rfl) hfr, Nat.le_trans (Nat.le_of_ble_eq_true rfl) hlo⟩ rfl rfl hW hcs d kk
  have h2 := cn_set l a b hok μ h
  rw [e] at h2
  exact h2
theorem cn_send (l : Launch) (a : Int32) (b : Int32) (c : Int32) (g : Int32) {F : FS} (hok : FOk F) : ∀ μ, RepF μ F → Con l yX5_send wsX5_send rmX5_send shX (fun ad => [.ref (ad 0), .int a, .int b, .int c, .int g]) μ (pI fun r μ' => r = (fSend a b c g F).1 ∧ RepF μ' (fSend a b c g F).2) := fun μ hF => ctX5_send l a b c g μ _ (x_send hF hok (fun _ h => ⟨rfl, h⟩))
theorem jx_send {K : KT} {l : Launch} {cc : ByteArray} {own : String} {Ts : List Cond} {rm : Room} {sh : List Ds} {ad : Nat → Nat} {cs : Nat × Nat} {μ : Mem} {pc index : Nat} {lv : List (Nat × Value)} {rest : List Value} {E : Mem → Prop} {F F' : FS} {v : Int32} {a : Int32} {b : Int32} {c : Int32} {g : Int32} (C : Ctx K l cc own Ts rm sh ad) (X : XC sh E) (hF : RepF μ F) (hE : E μ) (hok : FOk F) (e : fSend a b c g F = (v, F')) (hG : GoodIn Ts (wsV own index RX5 yX5_send wsX5_send)) (hfr : 20 ≤ rm.frames) (hlo : 1000 ≤ rm.locals) (hcs : cs.1 ≤ rm.cells ∧ cs.2 ≤ rm.slots) (hW : (rest.map fun v => v.category).sum ≤ 8) (d : decode cc pc = .ok (.invokevirtual index, 3)) (kk : ∀ μ', RepF μ' F' → E μ' → JW K cs sh ad μ' (pc + 3) lv (.int v :: rest)) : JW K cs sh ad μ pc lv (.int g :: .int c :: .int b :: .int a :: .ref (ad 0) :: rest) := by
  refine jw_x (y := yX5_send) (ws := wsX5_send) (rmY := rmX5_send) (As := [.int a, .int b, .int c, .int g]) (rest := rest) C X hF hE (fun μ h => ?_) miX5_send rfl hG ⟨rfl, rfl, Nat.le_trans (Nat.le_of_ble_eq_true rfl) hfr, Nat.le_trans (Nat.le_of_ble_eq_true rfl) hlo⟩ rfl rfl hW hcs d kk
  have h2 := cn_send l a b c g hok μ h
  rw [e] at h2
  exact h2
theorem cn_empty (l : Launch) (a : Int32) {F : FS} (hok : FOk F) : ∀ μ, RepF μ F → Con l yX5_empty wsX5_empty rmX5_empty shX (fun ad => [.ref (ad 0), .int a]) μ (pI fun r μ' => r = (fEmpty a F).1 ∧ RepF μ' (fEmpty a F).2) := fun μ hF => ctX5_empty l a μ _ (x_empty hF hok (fun _ h => ⟨rfl, h⟩))
theorem jx_empty {K : KT} {l : Launch} {cc : ByteArray} {own : String} {Ts : List Cond} {rm : Room} {sh : List Ds} {ad : Nat → Nat} {cs : Nat × Nat} {μ : Mem} {pc index : Nat} {lv : List (Nat × Value)} {rest : List Value} {E : Mem → Prop} {F F' : FS} {v : Int32} {a : Int32} (C : Ctx K l cc own Ts rm sh ad) (X : XC sh E) (hF : RepF μ F) (hE : E μ) (hok : FOk F) (e : fEmpty a F = (v, F')) (hG : GoodIn Ts (wsV own index RX5 yX5_empty wsX5_empty)) (hfr : 20 ≤ rm.frames) (hlo : 1000 ≤ rm.locals) (hcs : cs.1 ≤ rm.cells ∧ cs.2 ≤ rm.slots) (hW : (rest.map fun v => v.category).sum ≤ 8) (d : decode cc pc = .ok (.invokevirtual index, 3)) (kk : ∀ μ', RepF μ' F' → E μ' → JW K cs sh ad μ' (pc + 3) lv (.int v :: rest)) : JW K cs sh ad μ pc lv (.int a :: .ref (ad 0) :: rest) := by
  refine jw_x (y := yX5_empty) (ws := wsX5_empty) (rmY := rmX5_empty) (As := [.int a]) (rest := rest) C X hF hE (fun μ h => ?_) miX5_empty rfl hG ⟨rfl, rfl, Nat.le_trans (Nat.le_of_ble_eq_true rfl) hfr, Nat.le_trans (Nat.le_of_ble_eq_true rfl) hlo⟩ rfl rfl hW hcs d kk
  have h2 := cn_empty l a hok μ h
  rw [e] at h2
  exact h2
theorem cn_read (l : Launch) (a : Int32) {F : FS} (hok : FOk F) : ∀ μ, RepF μ F → Con l yX5_read wsX5_read rmX5_read shX (fun ad => [.ref (ad 0), .int a]) μ (pI fun r μ' => r = (fRead a F).1 ∧ RepF μ' (fRead a F).2) := fun μ hF => ctX5_read l a μ _ (x_read hF hok (fun _ h => ⟨rfl, h⟩))
theorem jx_read {K : KT} {l : Launch} {cc : ByteArray} {own : String} {Ts : List Cond} {rm : Room} {sh : List Ds} {ad : Nat → Nat} {cs : Nat × Nat} {μ : Mem} {pc index : Nat} {lv : List (Nat × Value)} {rest : List Value} {E : Mem → Prop} {F F' : FS} {v : Int32} {a : Int32} (C : Ctx K l cc own Ts rm sh ad) (X : XC sh E) (hF : RepF μ F) (hE : E μ) (hok : FOk F) (e : fRead a F = (v, F')) (hG : GoodIn Ts (wsV own index RX5 yX5_read wsX5_read)) (hfr : 20 ≤ rm.frames) (hlo : 1000 ≤ rm.locals) (hcs : cs.1 ≤ rm.cells ∧ cs.2 ≤ rm.slots) (hW : (rest.map fun v => v.category).sum ≤ 8) (d : decode cc pc = .ok (.invokevirtual index, 3)) (kk : ∀ μ', RepF μ' F' → E μ' → JW K cs sh ad μ' (pc + 3) lv (.int v :: rest)) : JW K cs sh ad μ pc lv (.int a :: .ref (ad 0) :: rest) := by
  refine jw_x (y := yX5_read) (ws := wsX5_read) (rmY := rmX5_read) (As := [.int a]) (rest := rest) C X hF hE (fun μ h => ?_) miX5_read rfl hG ⟨rfl, rfl, Nat.le_trans (Nat.le_of_ble_eq_true rfl) hfr, Nat.le_trans (Nat.le_of_ble_eq_true rfl) hlo⟩ rfl rfl hW hcs d kk
  have h2 := cn_read l a hok μ h
  rw [e] at h2
  exact h2
theorem cn_stone (l : Launch) (a : Int32) (b : Int32) (c : Int32) {F : FS} (hok : FOk F) : ∀ μ, RepF μ F → Con l yX5_stone wsX5_stone rmX5_stone shX (fun ad => [.ref (ad 0), .int a, .int b, .int c]) μ (pI fun r μ' => r = fStone a b c F ∧ RepF μ' F) := fun μ hF => ctX5_stone l a b c μ _ (x_stone hF hok ⟨rfl, hF⟩)
theorem jx_stone {K : KT} {l : Launch} {cc : ByteArray} {own : String} {Ts : List Cond} {rm : Room} {sh : List Ds} {ad : Nat → Nat} {cs : Nat × Nat} {μ : Mem} {pc index : Nat} {lv : List (Nat × Value)} {rest : List Value} {E : Mem → Prop} {F : FS} {v : Int32} {a : Int32} {b : Int32} {c : Int32} (C : Ctx K l cc own Ts rm sh ad) (X : XC sh E) (hF : RepF μ F) (hE : E μ) (hok : FOk F) (e : fStone a b c F = v) (hG : GoodIn Ts (wsV own index RX5 yX5_stone wsX5_stone)) (hfr : 20 ≤ rm.frames) (hlo : 1000 ≤ rm.locals) (hcs : cs.1 ≤ rm.cells ∧ cs.2 ≤ rm.slots) (hW : (rest.map fun v => v.category).sum ≤ 8) (d : decode cc pc = .ok (.invokevirtual index, 3)) (kk : ∀ μ', RepF μ' F → E μ' → JW K cs sh ad μ' (pc + 3) lv (.int v :: rest)) : JW K cs sh ad μ pc lv (.int c :: .int b :: .int a :: .ref (ad 0) :: rest) := by
  refine jw_x (y := yX5_stone) (ws := wsX5_stone) (rmY := rmX5_stone) (As := [.int a, .int b, .int c]) (rest := rest) C X hF hE (fun μ h => ?_) miX5_stone rfl hG ⟨rfl, rfl, Nat.le_trans (Nat.le_of_ble_eq_true rfl) hfr, Nat.le_trans (Nat.le_of_ble_eq_true rfl) hlo⟩ rfl rfl hW hcs d kk
  have h2 := cn_stone l a b c hok μ h
  rw [e] at h2
  exact h2
theorem cn_node (l : Launch) (a : Int32) (b : Int32) {F : FS} (hok : FOk F) : ∀ μ, RepF μ F → Con l yX5_ofNode wsX5_ofNode rmX5_ofNode shX (fun ad => [.ref (ad 0), .int a, .int b]) μ (pI fun r μ' => r = fNode a b F ∧ RepF μ' F) := fun μ hF => ctX5_ofNode l a b μ _ (x_node hF hok ⟨rfl, hF⟩)
theorem jx_node {K : KT} {l : Launch} {cc : ByteArray} {own : String} {Ts : List Cond} {rm : Room} {sh : List Ds} {ad : Nat → Nat} {cs : Nat × Nat} {μ : Mem} {pc index : Nat} {lv : List (Nat × Value)} {rest : List Value} {E : Mem → Prop} {F : FS} {v : Int32} {a : Int32} {b : Int32} (C : Ctx K l cc own Ts rm sh ad) (X : XC sh E) (hF : RepF μ F) (hE : E μ) (hok : FOk F) (e : fNode a b F = v) (hG : GoodIn Ts (wsV own index RX5 yX5_ofNode wsX5_ofNode)) (hfr : 20 ≤ rm.frames) (hlo : 1000 ≤ rm.locals) (hcs : cs.1 ≤ rm.cells ∧ cs.2 ≤ rm.slots) (hW : (rest.map fun v => v.category).sum ≤ 8) (d : decode cc pc = .ok (.invokevirtual index, 3)) (kk : ∀ μ', RepF μ' F → E μ' → JW K cs sh ad μ' (pc + 3) lv (.int v :: rest)) : JW K cs sh ad μ pc lv (.int b :: .int a :: .ref (ad 0) :: rest) := by
  refine jw_x (y := yX5_ofNode) (ws := wsX5_ofNode) (rmY := rmX5_ofNode) (As := [.int a, .int b]) (rest := rest) C X hF hE (fun μ h => ?_) miX5_ofNode rfl hG ⟨rfl, rfl, Nat.le_trans (Nat.le_of_ble_eq_true rfl) hfr, Nat.le_trans (Nat.le_of_ble_eq_true rfl) hlo⟩ rfl rfl hW hcs d kk
  have h2 := cn_node l a b hok μ h
  rw [e] at h2
  exact h2
theorem cn_key (l : Launch) (a : Int32) (b : Int32) {F : FS} (hok : FOk F) : ∀ μ, RepF μ F → Con l yX5_ofKey wsX5_ofKey rmX5_ofKey shX (fun ad => [.ref (ad 0), .int a, .int b]) μ (pI fun r μ' => r = fKey a b F ∧ RepF μ' F) := fun μ hF => ctX5_ofKey l a b μ _ (x_key hF hok ⟨rfl, hF⟩)
theorem jx_key {K : KT} {l : Launch} {cc : ByteArray} {own : String} {Ts : List Cond} {rm : Room} {sh : List Ds} {ad : Nat → Nat} {cs : Nat × Nat} {μ : Mem} {pc index : Nat} {lv : List (Nat × Value)} {rest : List Value} {E : Mem → Prop} {F : FS} {v : Int32} {a : Int32} {b : Int32} (C : Ctx K l cc own Ts rm sh ad) (X : XC sh E) (hF : RepF μ F) (hE : E μ) (hok : FOk F) (e : fKey a b F = v) (hG : GoodIn Ts (wsV own index RX5 yX5_ofKey wsX5_ofKey)) (hfr : 20 ≤ rm.frames) (hlo : 1000 ≤ rm.locals) (hcs : cs.1 ≤ rm.cells ∧ cs.2 ≤ rm.slots) (hW : (rest.map fun v => v.category).sum ≤ 8) (d : decode cc pc = .ok (.invokevirtual index, 3)) (kk : ∀ μ', RepF μ' F → E μ' → JW K cs sh ad μ' (pc + 3) lv (.int v :: rest)) : JW K cs sh ad μ pc lv (.int b :: .int a :: .ref (ad 0) :: rest) := by
  refine jw_x (y := yX5_ofKey) (ws := wsX5_ofKey) (rmY := rmX5_ofKey) (As := [.int a, .int b]) (rest := rest) C X hF hE (fun μ h => ?_) miX5_ofKey rfl hG ⟨rfl, rfl, Nat.le_trans (Nat.le_of_ble_eq_true rfl) hfr, Nat.le_trans (Nat.le_of_ble_eq_true rfl) hlo⟩ rfl rfl hW hcs d kk
  have h2 := cn_key l a b hok μ h
  rw [e] at h2
  exact h2
theorem cn_count (l : Launch) (a : Int32) {F : FS} (hok : FOk F) : ∀ μ, RepF μ F → Con l yX5_count wsX5_count rmX5_count shX (fun ad => [.ref (ad 0), .int a]) μ (pI fun r μ' => r = fCount a F ∧ RepF μ' F) := fun μ hF => ctX5_count l a μ _ (x_count hF hok ⟨rfl, hF⟩)
theorem jx_count {K : KT} {l : Launch} {cc : ByteArray} {own : String} {Ts : List Cond} {rm : Room} {sh : List Ds} {ad : Nat → Nat} {cs : Nat × Nat} {μ : Mem} {pc index : Nat} {lv : List (Nat × Value)} {rest : List Value} {E : Mem → Prop} {F : FS} {v : Int32} {a : Int32} (C : Ctx K l cc own Ts rm sh ad) (X : XC sh E) (hF : RepF μ F) (hE : E μ) (hok : FOk F) (e : fCount a F = v) (hG : GoodIn Ts (wsV own index RX5 yX5_count wsX5_count)) (hfr : 20 ≤ rm.frames) (hlo : 1000 ≤ rm.locals) (hcs : cs.1 ≤ rm.cells ∧ cs.2 ≤ rm.slots) (hW : (rest.map fun v => v.category).sum ≤ 8) (d : decode cc pc = .ok (.invokevirtual index, 3)) (kk : ∀ μ', RepF μ' F → E μ' → JW K cs sh ad μ' (pc + 3) lv (.int v :: rest)) : JW K cs sh ad μ pc lv (.int a :: .ref (ad 0) :: rest) := by
  refine jw_x (y := yX5_count) (ws := wsX5_count) (rmY := rmX5_count) (As := [.int a]) (rest := rest) C X hF hE (fun μ h => ?_) miX5_count rfl hG ⟨rfl, rfl, Nat.le_trans (Nat.le_of_ble_eq_true rfl) hfr, Nat.le_trans (Nat.le_of_ble_eq_true rfl) hlo⟩ rfl rfl hW hcs d kk
  have h2 := cn_count l a hok μ h
  rw [e] at h2
  exact h2
theorem cn_sum (l : Launch) (a : Int32) (b : Int32) {F : FS} (hok : FOk F) : ∀ μ, RepF μ F → Con l yX5_sum wsX5_sum rmX5_sum shX (fun ad => [.ref (ad 0), .int a, .int b]) μ (pI fun r μ' => r = fSum a b F ∧ RepF μ' F) := fun μ hF => ctX5_sum l a b μ _ (x_sum hF hok ⟨rfl, hF⟩)
theorem jx_sum {K : KT} {l : Launch} {cc : ByteArray} {own : String} {Ts : List Cond} {rm : Room} {sh : List Ds} {ad : Nat → Nat} {cs : Nat × Nat} {μ : Mem} {pc index : Nat} {lv : List (Nat × Value)} {rest : List Value} {E : Mem → Prop} {F : FS} {v : Int32} {a : Int32} {b : Int32} (C : Ctx K l cc own Ts rm sh ad) (X : XC sh E) (hF : RepF μ F) (hE : E μ) (hok : FOk F) (e : fSum a b F = v) (hG : GoodIn Ts (wsV own index RX5 yX5_sum wsX5_sum)) (hfr : 20 ≤ rm.frames) (hlo : 1000 ≤ rm.locals) (hcs : cs.1 ≤ rm.cells ∧ cs.2 ≤ rm.slots) (hW : (rest.map fun v => v.category).sum ≤ 8) (d : decode cc pc = .ok (.invokevirtual index, 3)) (kk : ∀ μ', RepF μ' F → E μ' → JW K cs sh ad μ' (pc + 3) lv (.int v :: rest)) : JW K cs sh ad μ pc lv (.int b :: .int a :: .ref (ad 0) :: rest) := by
  refine jw_x (y := yX5_sum) (ws := wsX5_sum) (rmY := rmX5_sum) (As := [.int a, .int b]) (rest := rest) C X hF hE (fun μ h => ?_) miX5_sum rfl hG ⟨rfl, rfl, Nat.le_trans (Nat.le_of_ble_eq_true rfl) hfr, Nat.le_trans (Nat.le_of_ble_eq_true rfl) hlo⟩ rfl rfl hW hcs d kk
  have h2 := cn_sum l a b hok μ h
  rw [e] at h2
  exact h2
theorem cn_heavy (l : Launch) (a : Int32) {F : FS} (hok : FOk F) : ∀ μ, RepF μ F → Con l yX5_heaviest wsX5_heaviest rmX5_heaviest shX (fun ad => [.ref (ad 0), .int a]) μ (pI fun r μ' => r = fHeavy a F ∧ RepF μ' F) := fun μ hF => ctX5_heaviest l a μ _ (x_heavy hF hok ⟨rfl, hF⟩)
theorem jx_heavy {K : KT} {l : Launch} {cc : ByteArray} {own : String} {Ts : List Cond} {rm : Room} {sh : List Ds} {ad : Nat → Nat} {cs : Nat × Nat} {μ : Mem} {pc index : Nat} {lv : List (Nat × Value)} {rest : List Value} {E : Mem → Prop} {F : FS} {v : Int32} {a : Int32} (C : Ctx K l cc own Ts rm sh ad) (X : XC sh E) (hF : RepF μ F) (hE : E μ) (hok : FOk F) (e : fHeavy a F = v) (hG : GoodIn Ts (wsV own index RX5 yX5_heaviest wsX5_heaviest)) (hfr : 20 ≤ rm.frames) (hlo : 1000 ≤ rm.locals) (hcs : cs.1 ≤ rm.cells ∧ cs.2 ≤ rm.slots) (hW : (rest.map fun v => v.category).sum ≤ 8) (d : decode cc pc = .ok (.invokevirtual index, 3)) (kk : ∀ μ', RepF μ' F → E μ' → JW K cs sh ad μ' (pc + 3) lv (.int v :: rest)) : JW K cs sh ad μ pc lv (.int a :: .ref (ad 0) :: rest) := by
  refine jw_x (y := yX5_heaviest) (ws := wsX5_heaviest) (rmY := rmX5_heaviest) (As := [.int a]) (rest := rest) C X hF hE (fun μ h => ?_) miX5_heaviest rfl hG ⟨rfl, rfl, Nat.le_trans (Nat.le_of_ble_eq_true rfl) hfr, Nat.le_trans (Nat.le_of_ble_eq_true rfl) hlo⟩ rfl rfl hW hcs d kk
  have h2 := cn_heavy l a hok μ h
  rw [e] at h2
  exact h2
theorem cn_same (l : Launch) (a : Int32) (b : Int32) {F : FS} (hok : FOk F) : ∀ μ, RepF μ F → Con l yX5_same wsX5_same rmX5_same shX (fun ad => [.ref (ad 0), .int a, .int b]) μ (pI fun r μ' => r = fSame a b F ∧ RepF μ' F) := fun μ hF => ctX5_same l a b μ _ (x_same hF hok ⟨rfl, hF⟩)
theorem jx_same {K : KT} {l : Launch} {cc : ByteArray} {own : String} {Ts : List Cond} {rm : Room} {sh : List Ds} {ad : Nat → Nat} {cs : Nat × Nat} {μ : Mem} {pc index : Nat} {lv : List (Nat × Value)} {rest : List Value} {E : Mem → Prop} {F : FS} {v : Int32} {a : Int32} {b : Int32} (C : Ctx K l cc own Ts rm sh ad) (X : XC sh E) (hF : RepF μ F) (hE : E μ) (hok : FOk F) (e : fSame a b F = v) (hG : GoodIn Ts (wsV own index RX5 yX5_same wsX5_same)) (hfr : 20 ≤ rm.frames) (hlo : 1000 ≤ rm.locals) (hcs : cs.1 ≤ rm.cells ∧ cs.2 ≤ rm.slots) (hW : (rest.map fun v => v.category).sum ≤ 8) (d : decode cc pc = .ok (.invokevirtual index, 3)) (kk : ∀ μ', RepF μ' F → E μ' → JW K cs sh ad μ' (pc + 3) lv (.int v :: rest)) : JW K cs sh ad μ pc lv (.int b :: .int a :: .ref (ad 0) :: rest) := by
  refine jw_x (y := yX5_same) (ws := wsX5_same) (rmY := rmX5_same) (As := [.int a, .int b]) (rest := rest) C X hF hE (fun μ h => ?_) miX5_same rfl hG ⟨rfl, rfl, Nat.le_trans (Nat.le_of_ble_eq_true rfl) hfr, Nat.le_trans (Nat.le_of_ble_eq_true rfl) hlo⟩ rfl rfl hW hcs d kk
  have h2 := cn_same l a b hok μ h
  rw [e] at h2
  exact h2
theorem cn_would (l : Launch) (a : Int32) {F : FS} (hok : FOk F) : ∀ μ, RepF μ F → Con l yX5_wouldSink wsX5_wouldSink rmX5_wouldSink shX (fun ad => [.ref (ad 0), .int a]) μ (pI fun r μ' => r = fWould a F ∧ RepF μ' F) := fun μ hF => ctX5_wouldSink l a μ _ (x_would hF hok (fun _ h => ⟨rfl, h⟩))
theorem jx_would {K : KT} {l : Launch} {cc : ByteArray} {own : String} {Ts : List Cond} {rm : Room} {sh : List Ds} {ad : Nat → Nat} {cs : Nat × Nat} {μ : Mem} {pc index : Nat} {lv : List (Nat × Value)} {rest : List Value} {E : Mem → Prop} {F : FS} {v : Int32} {a : Int32} (C : Ctx K l cc own Ts rm sh ad) (X : XC sh E) (hF : RepF μ F) (hE : E μ) (hok : FOk F) (e : fWould a F = v) (hG : GoodIn Ts (wsV own index RX5 yX5_wouldSink wsX5_wouldSink)) (hfr : 20 ≤ rm.frames) (hlo : 1000 ≤ rm.locals) (hcs : cs.1 ≤ rm.cells ∧ cs.2 ≤ rm.slots) (hW : (rest.map fun v => v.category).sum ≤ 8) (d : decode cc pc = .ok (.invokevirtual index, 3)) (kk : ∀ μ', RepF μ' F → E μ' → JW K cs sh ad μ' (pc + 3) lv (.int v :: rest)) : JW K cs sh ad μ pc lv (.int a :: .ref (ad 0) :: rest) := by
  refine jw_x (y := yX5_wouldSink) (ws := wsX5_wouldSink) (rmY := rmX5_wouldSink) (As := [.int a]) (rest := rest) C X hF hE (fun μ h => ?_) miX5_wouldSink rfl hG ⟨rfl, rfl, Nat.le_trans (Nat.le_of_ble_eq_true rfl) hfr, Nat.le_trans (Nat.le_of_ble_eq_true rfl) hlo⟩ rfl rfl hW hcs d kk
  have h2 := cn_would l a hok μ h
  rw [e] at h2
  exact h2
theorem cn_worst (l : Launch) (a : Int32) {F : FS} (hok : FOk F) : ∀ μ, RepF μ F → Con l yX5_worstKey wsX5_worstKey rmX5_worstKey shX (fun ad => [.ref (ad 0), .int a]) μ (pI fun r μ' => r = fWorst a F ∧ RepF μ' F) := fun μ hF => ctX5_worstKey l a μ _ (x_worst hF hok (fun _ h => ⟨rfl, h⟩))
theorem jx_worst {K : KT} {l : Launch} {cc : ByteArray} {own : String} {Ts : List Cond} {rm : Room} {sh : List Ds} {ad : Nat → Nat} {cs : Nat × Nat} {μ : Mem} {pc index : Nat} {lv : List (Nat × Value)} {rest : List Value} {E : Mem → Prop} {F : FS} {v : Int32} {a : Int32} (C : Ctx K l cc own Ts rm sh ad) (X : XC sh E) (hF : RepF μ F) (hE : E μ) (hok : FOk F) (e : fWorst a F = v) (hG : GoodIn Ts (wsV own index RX5 yX5_worstKey wsX5_worstKey)) (hfr : 20 ≤ rm.frames) (hlo : 1000 ≤ rm.locals) (hcs : cs.1 ≤ rm.cells ∧ cs.2 ≤ rm.slots) (hW : (rest.map fun v => v.category).sum ≤ 8) (d : decode cc pc = .ok (.invokevirtual index, 3)) (kk : ∀ μ', RepF μ' F → E μ' → JW K cs sh ad μ' (pc + 3) lv (.int v :: rest)) : JW K cs sh ad μ pc lv (.int a :: .ref (ad 0) :: rest) := by
  refine jw_x (y := yX5_worstKey) (ws := wsX5_worstKey) (rmY := rmX5_worstKey) (As := [.int a]) (rest := rest) C X hF hE (fun μ h => ?_) miX5_worstKey rfl hG ⟨rfl, rfl, Nat.le_trans (Nat.le_of_ble_eq_true rfl) hfr, Nat.le_trans (Nat.le_of_ble_eq_true rfl) hlo⟩ rfl rfl hW hcs d kk
  have h2 := cn_worst l a hok μ h
  rw [e] at h2
  exact h2
theorem cn_toE (l : Launch) {F : FS} (hok : FOk F) : ∀ μ, RepF μ F → Con l yX5_toEmptyAll wsX5_toEmptyAll rmX5_toEmptyAll shX (fun ad => [.ref (ad 0)]) μ (pI fun r μ' => r = fToE F ∧ RepF μ' F) := fun μ hF => ctX5_toEmptyAll l μ _ (x_toE hF hok (fun _ h => ⟨rfl, h⟩))
theorem jx_toE {K : KT} {l : Launch} {cc : ByteArray} {own : String} {Ts : List Cond} {rm : Room} {sh : List Ds} {ad : Nat → Nat} {cs : Nat × Nat} {μ : Mem} {pc index : Nat} {lv : List (Nat × Value)} {rest : List Value} {E : Mem → Prop} {F : FS} {v : Int32} (C : Ctx K l cc own Ts rm sh ad) (X : XC sh E) (hF : RepF μ F) (hE : E μ) (hok : FOk F) (e : fToE F = v) (hG : GoodIn Ts (wsV own index RX5 yX5_toEmptyAll wsX5_toEmptyAll)) (hfr : 20 ≤ rm.frames) (hlo : 1000 ≤ rm.locals) (hcs : cs.1 ≤ rm.cells ∧ cs.2 ≤ rm.slots) (hW : (rest.map fun v => v.category).sum ≤ 8) (d : decode cc pc = .ok (.invokevirtual index, 3)) (kk : ∀ μ', RepF μ' F → E μ' → JW K cs sh ad μ' (pc + 3) lv (.int v :: rest)) : JW K cs sh ad μ pc lv (.ref (ad 0) :: rest) := by
  refine jw_x (y := yX5_toEmptyAll) (ws := wsX5_toEmptyAll) (rmY := rmX5_toEmptyAll) (As := []) (rest := rest) C X hF hE (fun μ h => ?_) miX5_toEmptyAll rfl hG ⟨rfl, rfl, Nat.le_trans (Nat.le_of_ble_eq_true rfl) hfr, Nat.le_trans (Nat.le_of_ble_eq_true rfl) hlo⟩ rfl rfl hW hcs d kk
  have h2 := cn_toE l hok μ h
  rw [e] at h2
  exact h2
theorem cn_put (l : Launch) (a : Int64) {F : FS} (hok : FOk F) : ∀ μ, RepF μ F → Con l yX5_put wsX5_put rmX5_put shX (fun ad => [.ref (ad 0), .long a]) μ (pI fun r μ' => r = (fPut a F).1 ∧ RepF μ' (fPut a F).2) := fun μ hF => ctX5_put l a μ _ (x_put hF hok (fun _ h => ⟨rfl, h⟩))
theorem jx_put {K : KT} {l : Launch} {cc : ByteArray} {own : String} {Ts : List Cond} {rm : Room} {sh : List Ds} {ad : Nat → Nat} {cs : Nat × Nat} {μ : Mem} {pc index : Nat} {lv : List (Nat × Value)} {rest : List Value} {E : Mem → Prop} {F F' : FS} {v : Int32} {a : Int64} (C : Ctx K l cc own Ts rm sh ad) (X : XC sh E) (hF : RepF μ F) (hE : E μ) (hok : FOk F) (e : fPut a F = (v, F')) (hG : GoodIn Ts (wsV own index RX5 yX5_put wsX5_put)) (hfr : 20 ≤ rm.frames) (hlo : 1000 ≤ rm.locals) (hcs : cs.1 ≤ rm.cells ∧ cs.2 ≤ rm.slots) (hW : (rest.map fun v => v.category).sum ≤ 8) (d : decode cc pc = .ok (.invokevirtual index, 3)) (kk : ∀ μ', RepF μ' F' → E μ' → JW K cs sh ad μ' (pc + 3) lv (.int v :: rest)) : JW K cs sh ad μ pc lv (.long a :: .ref (ad 0) :: rest) := by
  refine jw_x (y := yX5_put) (ws := wsX5_put) (rmY := rmX5_put) (As := [.long a]) (rest := rest) C X hF hE (fun μ h => ?_) miX5_put rfl hG ⟨rfl, rfl, Nat.le_trans (Nat.le_of_ble_eq_true rfl) hfr, Nat.le_trans (Nat.le_of_ble_eq_true rfl) hlo⟩ rfl rfl hW hcs d kk
  have h2 := cn_put l a hok μ h
  rw [e] at h2
  exact h2
theorem cn_wipe (l : Launch) {F : FS} (hok : FOk F) : ∀ μ, RepF μ F → Con l yX5_wipe wsX5_wipe rmX5_wipe shX (fun ad => [.ref (ad 0)]) μ (pI fun r μ' => r = (fWipe F).1 ∧ RepF μ' (fWipe F).2) := fun μ hF => ctX5_wipe l μ _ (x_wipe hF (fun _ h => ⟨rfl, h⟩))
theorem jx_wipe {K : KT} {l : Launch} {cc : ByteArray} {own : String} {Ts : List Cond} {rm : Room} {sh : List Ds} {ad : Nat → Nat} {cs : Nat × Nat} {μ : Mem} {pc index : Nat} {lv : List (Nat × Value)} {rest : List Value} {E : Mem → Prop} {F F' : FS} {v : Int32} (C : Ctx K l cc own Ts rm sh ad) (X : XC sh E) (hF : RepF μ F) (hE : E μ) (hok : FOk F) (e : fWipe F = (v, F')) (hG : GoodIn Ts (wsV own index RX5 yX5_wipe wsX5_wipe)) (hfr : 20 ≤ rm.frames) (hlo : 1000 ≤ rm.locals) (hcs : cs.1 ≤ rm.cells ∧ cs.2 ≤ rm.slots) (hW : (rest.map fun v => v.category).sum ≤ 8) (d : decode cc pc = .ok (.invokevirtual index, 3)) (kk : ∀ μ', RepF μ' F' → E μ' → JW K cs sh ad μ' (pc + 3) lv (.int v :: rest)) : JW K cs sh ad μ pc lv (.ref (ad 0) :: rest) := by
  refine jw_x (y := yX5_wipe) (ws := wsX5_wipe) (rmY := rmX5_wipe) (As := []) (rest := rest) C X hF hE (fun μ h => ?_) miX5_wipe rfl hG ⟨rfl, rfl, Nat.le_trans (Nat.le_of_ble_eq_true rfl) hfr, Nat.le_trans (Nat.le_of_ble_eq_true rfl) hlo⟩ rfl rfl hW hcs d kk
  have h2 := cn_wipe l hok μ h
  rw [e] at h2
  exact h2
theorem cn_fault (l : Launch) {F : FS} (hok : FOk F) : ∀ μ, RepF μ F → Con l yX5_fault wsX5_fault rmX5_fault shX (fun ad => [.ref (ad 0)]) μ (pI fun r μ' => r = fFault F ∧ RepF μ' F) := fun μ hF => ctX5_fault l μ _ (x_fault hF hok (fun _ h => ⟨rfl, h⟩))
theorem jx_fault {K : KT} {l : Launch} {cc : ByteArray} {own : String} {Ts : List Cond} {rm : Room} {sh : List Ds} {ad : Nat → Nat} {cs : Nat × Nat} {μ : Mem} {pc index : Nat} {lv : List (Nat × Value)} {rest : List Value} {E : Mem → Prop} {F : FS} {v : Int32} (C : Ctx K l cc own Ts rm sh ad) (X : XC sh E) (hF : RepF μ F) (hE : E μ) (hok : FOk F) (e : fFault F = v) (hG : GoodIn Ts (wsV own index RX5 yX5_fault wsX5_fault)) (hfr : 20 ≤ rm.frames) (hlo : 1000 ≤ rm.locals) (hcs : cs.1 ≤ rm.cells ∧ cs.2 ≤ rm.slots) (hW : (rest.map fun v => v.category).sum ≤ 8) (d : decode cc pc = .ok (.invokevirtual index, 3)) (kk : ∀ μ', RepF μ' F → E μ' → JW K cs sh ad μ' (pc + 3) lv (.int v :: rest)) : JW K cs sh ad μ pc lv (.ref (ad 0) :: rest) := by
  refine jw_x (y := yX5_fault) (ws := wsX5_fault) (rmY := rmX5_fault) (As := []) (rest := rest) C X hF hE (fun μ h => ?_) miX5_fault rfl hG ⟨rfl, rfl, Nat.le_trans (Nat.le_of_ble_eq_true rfl) hfr, Nat.le_trans (Nat.le_of_ble_eq_true rfl) hlo⟩ rfl rfl hW hcs d kk
  have h2 := cn_fault l hok μ h
  rw [e] at h2
  exact h2
theorem cn_carry (l : Launch) {F : FS} (hok : FOk F) : ∀ μ, RepF μ F → Con l yX5_carryOut wsX5_carryOut rmX5_carryOut shX (fun ad => [.ref (ad 0)]) μ (pI fun r μ' => r = (fCarry F).1 ∧ RepF μ' (fCarry F).2) := fun μ hF => ctX5_carryOut l μ _ (x_carry hF hok (fun _ h => ⟨rfl, h⟩))
theorem jx_carry {K : KT} {l : Launch} {cc : ByteArray} {own : String} {Ts : List Cond} {rm : Room} {sh : List Ds} {ad : Nat → Nat} {cs : Nat × Nat} {μ : Mem} {pc index : Nat} {lv : List (Nat × Value)} {rest : List Value} {E : Mem → Prop} {F F' : FS} {v : Int32} (C : Ctx K l cc own Ts rm sh ad) (X : XC sh E) (hF : RepF μ F) (hE : E μ) (hok : FOk F) (e : fCarry F = (v, F')) (hG : GoodIn Ts (wsV own index RX5 yX5_carryOut wsX5_carryOut)) (hfr : 20 ≤ rm.frames) (hlo : 1000 ≤ rm.locals) (hcs : cs.1 ≤ rm.cells ∧ cs.2 ≤ rm.slots) (hW : (rest.map fun v => v.category).sum ≤ 8) (d : decode cc pc = .ok (.invokevirtual index, 3)) (kk : ∀ μ', RepF μ' F' → E μ' → JW K cs sh ad μ' (pc + 3) lv (.int v :: rest)) : JW K cs sh ad μ pc lv (.ref (ad 0) :: rest) := by
  refine jw_x (y := yX5_carryOut) (ws := wsX5_carryOut) (rmY := rmX5_carryOut) (As := []) (rest := rest) C X hF hE (fun μ h => ?_) miX5_carryOut rfl hG ⟨rfl, rfl, Nat.le_trans (Nat.le_of_ble_eq_true rfl) hfr, Nat.le_trans (Nat.le_of_ble_eq_true rfl) hlo⟩ rfl rfl hW hcs d kk
  have h2 := cn_carry l hok μ h
  rw [e] at h2
  exact h2
theorem cn_undo (l : Launch) {F : FS} (hok : FOk F) : ∀ μ, RepF μ F → Con l yX5_undo wsX5_undo rmX5_undo shX (fun ad => [.ref (ad 0)]) μ (pI fun r μ' => r = (fUndo F).1 ∧ RepF μ' (fUndo F).2) := fun μ hF => ctX5_undo l μ _ (x_undo hF hok (fun _ h => ⟨rfl, h⟩))
theorem jx_undo {K : KT} {l : Launch} {cc : ByteArray} {own : String} {Ts : List Cond} {rm : Room} {sh : List Ds} {ad : Nat → Nat} {cs : Nat × Nat} {μ : Mem} {pc index : Nat} {lv : List (Nat × Value)} {rest : List Value} {E : Mem → Prop} {F F' : FS} {v : Int32} (C : Ctx K l cc own Ts rm sh ad) (X : XC sh E) (hF : RepF μ F) (hE : E μ) (hok : FOk F) (e : fUndo F = (v, F')) (hG : GoodIn Ts (wsV own index RX5 yX5_undo wsX5_undo)) (hfr : 20 ≤ rm.frames) (hlo : 1000 ≤ rm.locals) (hcs : cs.1 ≤ rm.cells ∧ cs.2 ≤ rm.slots) (hW : (rest.map fun v => v.category).sum ≤ 8) (d : decode cc pc = .ok (.invokevirtual index, 3)) (kk : ∀ μ', RepF μ' F' → E μ' → JW K cs sh ad μ' (pc + 3) lv (.int v :: rest)) : JW K cs sh ad μ pc lv (.ref (ad 0) :: rest) := by
  refine jw_x (y := yX5_undo) (ws := wsX5_undo) (rmY := rmX5_undo) (As := []) (rest := rest) C X hF hE (fun μ h => ?_) miX5_undo rfl hG ⟨rfl, rfl, Nat.le_trans (Nat.le_of_ble_eq_true rfl) hfr, Nat.le_trans (Nat.le_of_ble_eq_true rfl) hlo⟩ rfl rfl hW hcs d kk
  have h2 := cn_undo l hok μ h
  rw [e] at h2
  exact h2
theorem cn_save (l : Launch) (a : Int32) {F : FS} (hok : FOk F) : ∀ μ, RepF μ F → Con l yX5_save wsX5_save rmX5_save shX (fun ad => [.ref (ad 0), .int a]) μ (pI fun r μ' => r = (fSave a F).1 ∧ RepF μ' (fSave a F).2) := fun μ hF => ctX5_save l a μ _ (x_save hF hok (fun _ h => ⟨rfl, h⟩))
theorem jx_save {K : KT} {l : Launch} {cc : ByteArray} {own : String} {Ts : List Cond} {rm : Room} {sh : List Ds} {ad : Nat → Nat} {cs : Nat × Nat} {μ : Mem} {pc index : Nat} {lv : List (Nat × Value)} {rest : List Value} {E : Mem → Prop} {F F' : FS} {v : Int32} {a : Int32} (C : Ctx K l cc own Ts rm sh ad) (X : XC sh E) (hF : RepF μ F) (hE : E μ) (hok : FOk F) (e : fSave a F = (v, F')) (hG : GoodIn Ts (wsV own index RX5 yX5_save wsX5_save)) (hfr : 20 ≤ rm.frames) (hlo : 1000 ≤ rm.locals) (hcs : cs.1 ≤ rm.cells ∧ cs.2 ≤ rm.slots) (hW : (rest.map fun v => v.category).sum ≤ 8) (d : decode cc pc = .ok (.invokevirtual index, 3)) (kk : ∀ μ', RepF μ' F' → E μ' → JW K cs sh ad μ' (pc + 3) lv (.int v :: rest)) : JW K cs sh ad μ pc lv (.int a :: .ref (ad 0) :: rest) := by
  refine jw_x (y := yX5_save) (ws := wsX5_save) (rmY := rmX5_save) (As := [.int a]) (rest := rest) C X hF hE (fun μ h => ?_) miX5_save rfl hG ⟨rfl, rfl, Nat.le_trans (Nat.le_of_ble_eq_true rfl) hfr, Nat.le_trans (Nat.le_of_ble_eq_true rfl) hlo⟩ rfl rfl hW hcs d kk
  have h2 := cn_save l a hok μ h
  rw [e] at h2
  exact h2
theorem cn_restore (l : Launch) (a : Int32) {F : FS} (hok : FOk F) : ∀ μ, RepF μ F → Con l yX5_restore wsX5_restore rmX5_restore shX (fun ad => [.ref (ad 0), .int a]) μ (pI fun r μ' => r = (fRest a F).1 ∧ RepF μ' (fRest a F).2) := fun μ hF => ctX5_restore l a μ _ (x_restore hF hok (fun _ h => ⟨rfl, h⟩))
theorem jx_restore {K : KT} {l : Launch} {cc : ByteArray} {own : String} {Ts : List Cond} {rm : Room} {sh : List Ds} {ad : Nat → Nat} {cs : Nat × Nat} {μ : Mem} {pc index : Nat} {lv : List (Nat × Value)} {rest : List Value} {E : Mem → Prop} {F F' : FS} {v : Int32} {a : Int32} (C : Ctx K l cc own Ts rm sh ad) (X : XC sh E) (hF : RepF μ F) (hE : E μ) (hok : FOk F) (e : fRest a F = (v, F')) (hG : GoodIn Ts (wsV own index RX5 yX5_restore wsX5_restore)) (hfr : 20 ≤ rm.frames) (hlo : 1000 ≤ rm.locals) (hcs : cs.1 ≤ rm.cells ∧ cs.2 ≤ rm.slots) (hW : (rest.map fun v => v.category).sum ≤ 8) (d : decode cc pc = .ok (.invokevirtual index, 3)) (kk : ∀ μ', RepF μ' F' → E μ' → JW K cs sh ad μ' (pc + 3) lv (.int v :: rest)) : JW K cs sh ad μ pc lv (.int a :: .ref (ad 0) :: rest) := by
  refine jw_x (y := yX5_restore) (ws := wsX5_restore) (rmY := rmX5_restore) (As := [.int a]) (rest := rest) C X hF hE (fun μ h => ?_) miX5_restore rfl hG ⟨rfl, rfl, Nat.le_trans (Nat.le_of_ble_eq_true rfl) hfr, Nat.le_trans (Nat.le_of_ble_eq_true rfl) hlo⟩ rfl rfl hW hcs d kk
  have h2 := cn_restore l a hok μ h
  rw [e] at h2
  exact h2
theorem mT_0 {k j : Nat} (h : k ≠ 1) (h2 : k ≠ 2) : mT 27 k j = 0 := by
  unfold mT
  rw [if_neg (by omega), if_neg (by omega), if_neg (by omega)]
def w0 : WT := (fun _ => ([], 0, 0, 0), fun _ => none, 0)
def t00 : TS := (4, 1, 0, 0, w0)
def F00 : FS := (t00, [], fun _ => none, [])
theorem F00_ok : FOk F00 := by
  refine ⟨⟨by decide, by decide, by decide, fun k _ x h => (by cases h), fun n _ => ⟨Nat.zero_le _, fun s h => (by cases h)⟩⟩, fun t h => (by cases h), fun i t h => (by cases h), Nat.zero_le _, Nat.zero_le _, fun c h => (by cases h)⟩
theorem RepT_0 : RepT (mT 27) t00 := by
  refine ⟨rfl, rfl, rfl, rfl, fun n hn => ⟨⟨?_, fun i s h => (by cases h)⟩, ?_, ?_, ?_⟩, fun k hk => ?_, rfl⟩
  · exact mT_0 (by decide) (by decide)
  · exact mT_0 (by decide) (by decide)
  · exact mT_0 (by decide) (by decide)
  · exact mT_0 (by decide) (by decide)
  · show mT 27 2 k = -6
    unfold mT
    rw [if_neg (by omega), if_neg (by omega), if_pos ⟨rfl, hk⟩]
theorem RepF_0 {μ : Mem} (h : QX μ) : RepF μ F00 := by
  obtain ⟨h1, h2, h3, h4, -⟩ := h
  refine ⟨RepT_congr (fun k hk => h1 k hk) RepT_0, ⟨Nat.zero_le _, 0, by decide, congrFun h2 0, congrFun h2 1, fun j t h => (by cases h)⟩, fun i hi => congrFun h3 i, congrFun h4 0, fun i c h => (by cases h)⟩
set_option maxRecDepth 100000 in
set_option maxHeartbeats 4000000 in
theorem jw_mkX {K : KT} {l : Launch} {cc : ByteArray} {own : String} {Ts : List Cond} {rm : Room} {cs : Nat × Nat} {lv : List (Nat × Value)} {rest : List Value} {i1 i2 pc pc3 pc4 : Nat} (C : Ctx K l cc own Ts rm [] (fun _ => 0)) (hE : EX5 (kS K)) (h1 : Cond.classLink own i1 RX5 ∈ Ts) (h2 : Cond.instantiable RX5 6 ∈ Ts) (h3 : Cond.initialized RX5 ∈ Ts) (hin : ∀ w ∈ u_ws RX5 TX5 6, w ∈ Ts) (hG : GoodIn Ts wsX5_init) (hml : Cond.methodLink own i2 yX5_init ∈ Ts) (hins : Cond.instanceMethod yX5_init ∈ Ts) (hcells : cs.1 + 88 ≤ rm.cells) (hslots : cs.2 + 3874 ≤ rm.slots) (hfr : 20 ≤ rm.frames) (hlo : 1000 ≤ rm.locals) (hW : (rest.map fun v => v.category).sum ≤ 6) (d0 : decode cc pc = .ok (.new i1, 3)) (e3 : pc + 3 = pc3) (d1 : decode cc pc3 = .ok (.dup, 1)) (e4 : pc3 + 1 = pc4) (d2 : decode cc pc4 = .ok (.invokespecial i2, 3)) (kk : ∀ ad μ', Ctx K l cc own Ts rm shX ad → RepF μ' F00 → (∀ k, 88 ≤ k → μ' k = fun _ => 0) → JW K (cs.1 + 88, cs.2 + 3874) shX ad μ' (pc4 + 3) lv (.ref (ad 0) :: rest)) : JW K cs [] (fun _ => 0) μ0 pc lv rest := by
  subst e3
  subst e4
  refine jw_new C hin tyX5 tyX5_ok h1 h2 h3 (ci := 3) (N := 6) (fs := [.inl 0, .inl 0, .inl 0, .inl 0, .inl 0, .inl 0]) rfl (fun j hj => by rcases (show j = 0 ∨ j = 1 ∨ j = 2 ∨ j = 3 ∨ j = 4 ∨ j = 5 by omega) with rfl | rfl | rfl | rfl | rfl | rfl <;> rfl) rfl (by omega) (by omega) rfl rfl d0 (fun q1 C1 => ?_)
  refine jw_dup C1 d1 rfl ?_
  refine jw_callG (sh := []) C1 (fun a U g mk q => ⟨va_AO.moved (u := U) (U := U.calling g mk a) (Vm.Alike.refl U.vm) q.1, va_Nw.same rfl rfl q.2⟩) (fun U hW => ⟨va_AO.moved hW.alike hE.1, va_Nw.warmM hW hE.2⟩) (cgX5_init l) rfl rfl rfl rfl hG rfl h3 hml hins rfl (by decide) rfl rfl ⟨Nat.le_trans (Nat.le_of_ble_eq_true rfl) hfr, Nat.le_trans (Nat.le_of_ble_eq_true rfl) hlo⟩ (by show (1 + (rest.map fun v => v.category).sum) ≤ 8; omega) d2 ⟨by show cs.1 + 1 + 87 ≤ _; omega, by show cs.2 + 6 + 3868 ≤ _; omega⟩ (fun ad1 μ1 hA1 hlo1 hQ1 C2 => ?_)
  have w1 : ad1 0 = q1 := hA1 0 (by decide)
  have hQX : QX μ1 := by
    have e : (fun k => μ1 (([] : List Ds).length + k)) = μ1 := by funext k; show μ1 (0 + k) = μ1 k; rw [Nat.zero_add]
    rw [e] at hQ1
    exact hQ1
  have eL : gro ([] : List Ds).length [] shX = shX := by decide +kernel
  refine jw_lay eL ?_
  have C2 : Ctx K l cc own Ts rm shX ad1 := by rw [eL] at C2; exact C2
  have h := kk ad1 μ1 C2 (RepF_0 hQX) hQX.2.2.2.2
  rw [w1] at h
  exact h
