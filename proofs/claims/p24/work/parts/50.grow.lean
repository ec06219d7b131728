/-! growing worlds: constructors -/
def nulF (f : Nat ⊕ Nat) : Bool := match f with
  | .inl 0 => true
  | .inl _ => false
  | .inr _ => true
def clD (n : Nat) (d : Ds) : Bool := match d with
  | .inl _ => true
  | .inr (.inl (_, L)) => L.all fun k => decide (k ≤ n)
  | .inr (.inr (_, fs)) => fs.all fun f => match f with
    | .inl k => decide (k ≤ n)
    | .inr _ => true
/-- every reference goes to a cell of the layout -/
def clB (sh : List Ds) : Bool := sh.all (clD sh.length)
def adN (ad : Nat → Nat) (n q : Nat) : Nat → Nat := fun k => if k = n then q else ad k
theorem adN_n (ad : Nat → Nat) (n q : Nat) : adN ad n q n = q := by unfold adN; rw [if_pos rfl]
theorem adN_k (ad : Nat → Nat) {n k : Nat} (q : Nat) (h : k < n) : adN ad n q k = ad k := by unfold adN; rw [if_neg (by omega)]
theorem dsE_ad {tc : Nat → ClassId} {n : Nat} {ad ad' : Nat → Nat} {f : Nat → Int32} {d : Ds} (h : ∀ k, k < n → ad' k = ad k) (hc : clD n d = true) : dsE tc ad' f d = dsE tc ad f d := by
  rcases d with x | ⟨t, L⟩ | ⟨ci, fs⟩
  · rfl
  · simp only [clD, List.all_eq_true, decide_eq_true_eq] at hc
    simp only [dsE]
    have e : dsR ad' L = dsR ad L := by
      funext j
      unfold dsR
      cases hj : L[j]? with
      | none => rfl
      | some k =>
        have := hc k (List.mem_of_getElem? hj)
        cases k with
        | zero => rfl
        | succ k => simp only; rw [h k (by omega)]
    rw [e]
  · simp only [clD, List.all_eq_true] at hc
    simp only [dsE]
    congr 2
    apply List.map_congr_left
    intro x hx
    have := hc x hx
    rcases x with x | x
    · simp only [decide_eq_true_eq] at this
      cases x with
      | zero => rfl
      | succ k => simp only [dsV]; rw [h k (by omega)]
    · rfl
theorem clB_at {sh : List Ds} (h : clB sh = true) {k : Nat} {d : Ds} (hk : sh[k]? = some d) : clD sh.length d = true := by
  simp only [clB, List.all_eq_true] at h
  exact h d (List.mem_of_getElem? hk)
theorem wS_app1 {tc : Nat → ClassId} {sh : List Ds} {ad : Nat → Nat} {μ : Mem} {d : Ds} {q : Nat} (hcl : clB sh = true) : wS tc (sh ++ [d]) (adN ad sh.length q) μ = wS tc sh ad μ ++ [(q, dsE tc (adN ad sh.length q) (μ sh.length) d)] := by
  have hl : (wS tc sh ad μ).length = sh.length := by simp [wS]
  apply List.ext_getElem?
  intro j
  rw [wS_get]
  rcases Nat.lt_or_ge j sh.length with g | g
  · rw [List.getElem?_append_left g, List.getElem?_append_left (by rw [hl]; exact g), wS_get]
    cases hj : sh[j]? with
    | none => rfl
    | some d2 =>
      simp only [Option.map_some]
      rw [adN_k _ _ g, dsE_ad (fun k hk => adN_k ad q hk) (clB_at hcl hj)]
  · rw [List.getElem?_append_right g, List.getElem?_append_right (by rw [hl]; exact g), hl]
    rcases Nat.eq_or_lt_of_le g with e | e
    · subst e
      rw [Nat.sub_self]
      simp only [List.getElem?_cons_zero, Option.map_some]
      rw [adN_n]
    · obtain ⟨i, hi⟩ : ∃ i, j - sh.length = i + 1 := ⟨j - sh.length - 1, by omega⟩
      rw [hi]
      rfl
theorem wD.of {A : Nat → Prop} {tc : Nat → ClassId} {sh : List Ds} {ad : Nat → Nat} {μ : Mem} (h : va_D A (wS tc sh ad μ)) : wD A sh ad :=
  ⟨fun i j hi hj e => h.1 i j _ _ (wS_at (List.getElem?_eq_getElem hi)) (wS_at (List.getElem?_eq_getElem hj)) e, fun k hk => h.2 k _ (wS_at (List.getElem?_eq_getElem hk))⟩
theorem wS_setD {tc : Nat → ClassId} {sh : List Ds} {ad : Nat → Nat} {μ : Mem} {k : Nat} {d' : Ds} (hk : k < sh.length) : (wS tc sh ad μ).set k (ad k, dsE tc ad (μ k) d') = wS tc (sh.set k d') ad μ := by
  apply List.ext_getElem?
  intro j
  rw [List.getElem?_set, wS_get, wS_get]
  by_cases hj : k = j
  · subst hj
    rw [if_pos rfl, if_pos (by simpa [wS] using hk), List.getElem?_set_self hk]
    rfl
  · rw [if_neg hj, List.getElem?_set_ne hj]
section GROW
variable {K : KT} {l : Launch} {cc : ByteArray} {own : String} {Ts : List Cond} {rm : Room} {sh : List Ds} {ad : Nat → Nat} {cs : Nat × Nat} {μ : Mem} {pc : Nat} {lv : List (Nat × Value)} {rest : List Value}
theorem Ctx.re {sh' : List Ds} {ad' : Nat → Nat} (C : Ctx K l cc own Ts rm sh ad) (h : wD (kA K) sh' ad') : Ctx K l cc own Ts rm sh' ad' := ⟨C.1, C.2.1, h, C.2.2.2⟩
theorem jw_objInit (C : Ctx K l cc own Ts rm sh ad) {a index : Nat} (h1 : Cond.methodLink own index objectInit ∈ Ts) (h2 : Cond.instanceMethod objectInit ∈ Ts) (h3 : Cond.code objectInit ⟨#[0xb1]⟩ 1 none ∈ Ts) (hfr : 1 ≤ rm.frames) (hlo : 12 ≤ rm.locals) (d : decode cc pc = .ok (.invokespecial index, 3)) (kk : JW K cs sh ad μ (pc + 3) lv []) : JW K cs sh ad μ pc lv [.ref a] := fun H locs ls hP hS hl =>
  W.objInit C.x C.b C.ow (C.ts _ h1) (C.ts _ h2) (C.ts _ h3) rfl (hl.1.trans C.ml.symm) rfl d (by rw [C.r]; exact hfr) (by rw [C.r]; exact hlo) (kk H locs ls hP hS hl)
theorem jw_new (C : Ctx K l cc own Ts rm sh ad) {C0 : String} {T : u_T} {N ci index : Nat} (hin : ∀ w ∈ u_ws C0 T N, w ∈ Ts) (ty : Nat → FieldType) (hty : ∀ k, k < N → parseFieldDescriptor (T k).2.2.1 = some (ty k)) (h1 : Cond.classLink own index C0 ∈ Ts) (h2 : Cond.instantiable C0 N ∈ Ts) (h3 : Cond.initialized C0 ∈ Ts) (hc : vwCl[ci]? = some (C0, T, N)) {fs : List (Nat ⊕ Nat)} (hfs : ∀ j, j < N → defaultValue (ty j) = vp_V (fs.map (dsV (fun _ => 0) (fun _ => 0))) j) (hnl : fs.all nulF = true) (hcells : cs.1 + 1 ≤ rm.cells) (hslots : cs.2 + N ≤ rm.slots) (hcl : clB sh = true) (hμ : μ sh.length = fun _ => 0) (d : decode cc pc = .ok (.new index, 3))
    (kk : ∀ q, Ctx K l cc own Ts rm (sh ++ [.inr (.inr (ci, fs))]) (adN ad sh.length q) → JW K (cs.1 + 1, cs.2 + N) (sh ++ [.inr (.inr (ci, fs))]) (adN ad sh.length q) μ (pc + 3) lv (.ref q :: rest)) : JW K cs sh ad μ pc lv rest := fun H locs ls hP hS hl => by
  refine va_new C.x C.b C.ts hin ty hty C.ow (C.ts _ h1) (C.ts _ h2) (C.ts _ h3) C.k hP (C.d.va _ μ) hS C.a hc hfs (by rw [C.r]; exact hcells) (by rw [C.r]; exact hslots) d (fun q H1 hP1 hD1 hS1 => ?_)
  have e : dsE (kT K) (adN ad sh.length q) (μ sh.length) (.inr (.inr (ci, fs))) = .inr (ci, fs.map (dsV (fun _ => 0) (fun _ => 0))) := by
    rw [hμ]
    simp only [dsE]
    congr 2
    apply List.map_congr_left
    intro x hx
    have := List.all_eq_true.mp hnl x hx
    rcases x with x | x
    · cases x with
      | zero => rfl
      | succ k => cases this
    · rfl
  rw [← e, ← wS_app1 hcl] at hP1 hD1
  exact kk q (C.re (wD.of hD1)) H1 locs ls hP1 hS1 hl
theorem jw_newa (C : Ctx K l cc own Ts rm sh ad) {t : Nat} {ty : FieldType} {atype : ArrayType} {N : Nat} {n : Int32} (h1 : Cond.arrayClass (newarray.typeOf atype) ∈ Ts) (hty : newarray.typeOf atype = ty) (htk : (ktys (kT K))[t]? = some (kT K t, ty)) (hra : ∀ (U : State) (cA : ClassId), va_RA U cA ty → U.vm.findClass ("[" ++ ty.toString) = some cA) (hdv : defaultValue ty = .int 0) (hn : ¬ n < 0) (hN : n.toNatClampNeg = N) (hby : N * componentBytes ty ≤ 536870912) (hcells : cs.1 + 1 ≤ rm.cells) (hslots : cs.2 + N ≤ rm.slots) (hcl : clB sh = true) (hμ : μ sh.length = fun _ => 0) (d : decode cc pc = .ok (.newarray atype, 2))
    (kk : ∀ q, Ctx K l cc own Ts rm (sh ++ [.inl (t, N)]) (adN ad sh.length q) → JW K (cs.1 + 1, cs.2 + N) (sh ++ [.inl (t, N)]) (adN ad sh.length q) μ (pc + 2) lv (.ref q :: rest)) : JW K cs sh ad μ pc lv (.int n :: rest) := fun H locs ls hP hS hl => by
  refine va_newa (a0 := (N, .inl (fun _ => 0))) C.x C.b (C.ts _ h1) hty C.k hP (C.d.va _ μ) hS C.a (fun cA => by rw [hdv]; rfl) hn hN hby (by rw [C.r]; exact hcells) (by rw [C.r]; exact hslots) d (fun q cA H1 hK1 hP1 hD1 hS1 => ?_)
  have hl4 : (ktys (kT K)).length = 5 := rfl
  have f1 := hra _ _ (hK1.2 5 (cA, ty) (by rw [List.getElem?_append_right (by rw [hl4]; decide), hl4]; rfl)).2
  have f2 := hra _ _ (C.k.2 t _ htk).2
  have ec : cA = kT K t := Option.some.inj (f1.symm.trans f2)
  subst ec
  have ht4 : Nat.beq t 4 = false := by
    cases h : Nat.beq t 4 with
    | false => rfl
    | true =>
      have h4 := Nat.eq_of_beq_eq_true h
      subst h4
      have h5 : some (kT K 4, FieldType.long) = some (kT K 4, ty) := htk
      cases h5
      have h6 : Value.long 0 = Value.int 0 := hdv
      cases h6
  have e : dsE (kT K) (adN ad sh.length q) (μ sh.length) (.inl (t, N)) = .inl (kT K t, N, .inl (fun _ => 0)) := by
    rw [hμ]
    show Sum.inl (kT K t, N, cond (Nat.beq t 4) _ _) = _
    rw [ht4]
    rfl
  rw [← e, ← wS_app1 hcl] at hP1 hD1
  exact kk q (C.re (wD.of hD1)) H1 locs ls hP1 hS1 hl
theorem jw_newl (C : Ctx K l cc own Ts rm sh ad) {N : Nat} {n : Int32} (h1 : Cond.arrayClass .long ∈ Ts) (hn : ¬ n < 0) (hN : n.toNatClampNeg = N) (hby : N * componentBytes .long ≤ 536870912) (hcells : cs.1 + 1 ≤ rm.cells) (hslots : cs.2 + N ≤ rm.slots) (hcl : clB sh = true) (hμ : μ sh.length = fun _ => 0) (d : decode cc pc = .ok (.newarray .long, 2))
    (kk : ∀ q, Ctx K l cc own Ts rm (sh ++ [.inl (4, N)]) (adN ad sh.length q) → JW K (cs.1 + 1, cs.2 + N) (sh ++ [.inl (4, N)]) (adN ad sh.length q) μ (pc + 2) lv (.ref q :: rest)) : JW K cs sh ad μ pc lv (.int n :: rest) := fun H locs ls hP hS hl => by
  refine va_newa (atype := .long) (ty := .long) (a0 := (N, .inr (.inl (fun _ => 0)))) C.x C.b (C.ts _ h1) rfl C.k hP (C.d.va _ μ) hS C.a (fun cA => rfl) hn hN hby (by rw [C.r]; exact hcells) (by rw [C.r]; exact hslots) d (fun q cA H1 hK1 hP1 hD1 hS1 => ?_)
  have hl4 : (ktys (kT K)).length = 5 := rfl
  have f1 : (kS K).vm.findClass ("[" ++ FieldType.long.toString) = some cA := (hK1.2 5 (cA, .long) (by rw [List.getElem?_append_right (by rw [hl4]; decide), hl4]; rfl)).2
  have f2 : (kS K).vm.findClass ("[" ++ FieldType.long.toString) = some (kT K 4) := (C.k.2 4 (kT K 4, .long) rfl).2
  have ec : cA = kT K 4 := Option.some.inj (f1.symm.trans f2)
  subst ec
  have e : dsE (kT K) (adN ad sh.length q) (μ sh.length) (.inl (4, N)) = .inl (kT K 4, N, .inr (.inl (fun _ => 0))) := by
    rw [hμ]
    show Sum.inl (kT K 4, N, Sum.inr (Sum.inl (lgF (fun _ => 0)))) = _
    rw [lgF_0]
  rw [← e, ← wS_app1 hcl] at hP1 hD1
  exact kk q (C.re (wD.of hD1)) H1 locs ls hP1 hS1 hl
theorem dsR_0 (ad : Nat → Nat) (N : Nat) : dsR ad (List.replicate N 0) = fun _ => none := by
  funext j
  unfold dsR
  cases h : (List.replicate N 0)[j]? with
  | none => rfl
  | some k =>
    have := List.eq_of_mem_replicate (List.mem_of_getElem? h)
    subst this
    rfl
theorem jw_newq (C : Ctx K l cc own Ts rm sh ad) {N index : Nat} {n : Int32} (h1 : Cond.classLink own index RX4 ∈ Ts) (h2 : va_AO RX4 (kS K)) (hn : ¬ n < 0) (hN : n.toNatClampNeg = N) (hby : N * 4 ≤ 536870912) (hcells : cs.1 + 1 ≤ rm.cells) (hslots : cs.2 + N ≤ rm.slots) (hcl : clB sh = true) (d : decode cc pc = .ok (.anewarray index, 3))
    (kk : ∀ q, Ctx K l cc own Ts rm (sh ++ [.inr (.inl (3, List.replicate N 0))]) (adN ad sh.length q) → JW K (cs.1 + 1, cs.2 + N) (sh ++ [.inr (.inl (3, List.replicate N 0))]) (adN ad sh.length q) μ (pc + 3) lv (.ref q :: rest)) : JW K cs sh ad μ pc lv (.int n :: rest) := fun H locs ls hP hS hl => by
  refine va_newq C.x C.b C.ow (C.ts _ h1) h2 C.k hP (C.d.va _ μ) hS C.a hn hN hby (by rw [C.r]; exact hcells) (by rw [C.r]; exact hslots) d (fun q cA H1 hK1 hP1 hD1 hS1 => ?_)
  have hl4 : (ktys (kT K)).length = 5 := rfl
  obtain ⟨-, -, -, -, -, f1⟩ := (hK1.2 5 (cA, .object RX4) (by rw [List.getElem?_append_right (by rw [hl4]; decide), hl4]; rfl)).2
  obtain ⟨-, -, -, -, -, f2⟩ := (C.k.2 3 (kT K 3, .object RX4) rfl).2
  have ec : cA = kT K 3 := Option.some.inj (f1.symm.trans f2)
  subst ec
  have e : dsE (kT K) (adN ad sh.length q) (μ sh.length) (.inr (.inl (3, List.replicate N 0))) = .inl (kT K 3, N, .inr (.inr (.inr (.inr (fun _ => none))))) := by
    simp only [dsE, List.length_replicate, dsR_0]
  rw [← e, ← wS_app1 hcl] at hP1 hD1
  exact kk q (C.re (wD.of hD1)) H1 locs ls hP1 hS1 hl
theorem dsR_set {ad : Nat → Nat} {L : List Nat} {i j : Nat} (hi : i < L.length) : dsR ad (L.set i (j + 1)) = va_up (dsR ad L) i (some (ad j)) := by
  funext k
  unfold dsR va_up
  rw [List.getElem?_set]
  by_cases h : i = k
  · subst h
    simp [hi]
  · simp [h, Ne.symm h]
theorem jw_astq (C : Ctx K l cc own Ts rm sh ad) {a v q0 qk : Nat} {L : List Nat} {ci : Nat} {fs : List (Nat ⊕ Nat)} {T : u_T} {N : Nat} (ha : ad q0 = a) (hv : ad qk = v) (hq : sh[q0]? = some (.inr (.inl (3, L)))) (hk : sh[qk]? = some (.inr (.inr (ci, fs)))) (hc : vwCl[ci]? = some (RX4, T, N)) {i : Int32} (hin : vp_in i L.length) (d : decode cc pc = .ok (.aastore, 1))
    (kk : Ctx K l cc own Ts rm (sh.set q0 (.inr (.inl (3, L.set i.toNatClampNeg (qk + 1))))) ad → JW K cs (sh.set q0 (.inr (.inl (3, L.set i.toNatClampNeg (qk + 1))))) ad μ (pc + 1) lv rest) : JW K cs sh ad μ pc lv (.ref v :: .int i :: .ref a :: rest) := fun H locs ls hP hS hl => by
  subst ha
  subst hv
  have hlt : i.toNatClampNeg < L.length := Nat.not_le.mp fun q => hin (Or.inr q)
  have hq0 : q0 < sh.length := (List.getElem?_eq_some_iff.mp hq).1
  refine va_astq C.x C.b C.k hP (C.d.va _ μ) hS q0 3 qk ci (r := (RX4, T, N)) (wS_at hq) rfl (wS_at hk) hc hin d (fun H1 locs1 hP1 hD1 hS1 => ?_)
  have e : dsE (kT K) ad (μ q0) (.inr (.inl (3, L.set i.toNatClampNeg (qk + 1)))) = .inl (kT K 3, L.length, .inr (.inr (.inr (.inr (va_up (dsR ad L) i.toNatClampNeg (some (ad qk))))))) := by
    simp only [dsE, List.length_set, dsR_set hlt]
  rw [← e, wS_setD hq0] at hP1 hD1
  exact kk (C.re (wD.of hD1)) H1 locs1 ls hP1 hS1 hl
theorem jw_putF (C : Ctx K l cc own Ts rm sh ad) (hnm0 : (kMe K).name = "<init>") {C0 : String} {T : u_T} {N ci index : Nat} (hin : ∀ w ∈ u_ws C0 T N, w ∈ Ts) {a v q j : Nat} {fs : List (Nat ⊕ Nat)} (ha : ad q = a) (hv : ad j = v) (hq : sh[q]? = some (.inr (.inr (ci, fs)))) (hc : vwCl[ci]? = some (C0, T, N)) (k : Nat) (hk : k < N) (ty0 : Nat → FieldType) (hty : ∀ k, k < N → parseFieldDescriptor (T k).2.2.1 = some (ty0 k)) (hnm : ∀ a, a < N → ∀ b, b < N → a ≠ b → (T a).2.1 ≠ (T b).2.1) (hlink : Cond.fieldLink own index (T k).1 (T k).2.1 (T k).2.2.1 ∈ Ts) (hfin : (T k).2.2.2 = true) (hdecl : (T k).1 = own) {ty : FieldType} (hd : parseFieldDescriptor (T k).2.2.1 = some ty) (hn : narrow ty (.ref v) = .ref v) (hfit : fits ty (.ref v) = true) (hlen : k < fs.length) (d : decode cc pc = .ok (.putfield index, 3))
    (kk : Ctx K l cc own Ts rm (sh.set q (.inr (.inr (ci, fs.set k (.inl (j + 1)))))) ad → JW K cs (sh.set q (.inr (.inr (ci, fs.set k (.inl (j + 1)))))) ad μ (pc + 3) lv rest) : JW K cs sh ad μ pc lv (.ref v :: .ref a :: rest) := fun H locs ls hP hS hl => by
  subst ha
  subst hv
  have hq0 : q < sh.length := (List.getElem?_eq_some_iff.mp hq).1
  refine va_putF C.x C.b C.ts hin ty0 hty hnm C.ow C.k hP (C.d.va _ μ) hS q (wS_at hq) hc k hk (C.ts _ hlink) (fun _ h => h) hfin hnm0 hdecl hd hn hfit (by rw [List.length_map]; exact hlen) d (fun H1 locs1 hP1 hD1 hS1 => ?_)
  have e : dsE (kT K) ad (μ q) (.inr (.inr (ci, fs.set k (.inl (j + 1))))) = .inr (ci, (fs.map (dsV ad (μ q))).set k (.ref (ad j))) := by
    simp only [dsE, List.map_set]
    rfl
  rw [← e, wS_setD hq0] at hP1 hD1
  exact kk (C.re (wD.of hD1)) H1 locs1 ls hP1 hS1 hl
end GROW
