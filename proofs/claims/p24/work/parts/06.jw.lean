/-! A WORLD BY LAYOUT AND MEMORY. A layout says what each cell is; a memory holds all numbers: cell, place. JW: the kit's W over such a world. -/
/-- memory: cell number, place, number -/
abbrev Mem : Type := Nat → Nat → Int32
def mput (μ : Mem) (a : Nat) (f : Nat → Int32) : Mem := fun b => if b = a then f else μ b
def mset (μ : Mem) (a i : Nat) (v : Int32) : Mem := mput μ a (upd (μ a) i v)
/-- a cell: a row of numbers (kind, length), a row of references (kind, cells + 1; 0 is null), an object (class, fields: .inl 0 null, .inl (j + 1) cell j, .inr i the number at place i) -/
abbrev Ds : Type := (Nat × Nat) ⊕ (Nat × List Nat) ⊕ (Nat × List (Nat ⊕ Nat))
def dsV (ad : Nat → Nat) (f : Nat → Int32) (x : Nat ⊕ Nat) : Value := match x with
  | .inl 0 => .null
  | .inl (j + 1) => .ref (ad j)
  | .inr i => .int (f i)
def dsR (ad : Nat → Nat) (L : List Nat) (j : Nat) : Option Nat := match L[j]? with
  | some (k + 1) => some (ad k)
  | _ => none
/-- a row of longs: two numbers each -/
def lgF0 (f : Nat → Int32) : Nat → Int64 := fun i => Int64.ofNat ((f (2 * i)).toBitVec.toNat * 4294967296 + (f (2 * i + 1)).toBitVec.toNat)
def lgU0 (f : Nat → Int32) (i : Nat) (v : Int64) : Nat → Int32 := upd (upd f (2 * i) (Int32.ofNat (v.toBitVec.toNat / 4294967296))) (2 * i + 1) (Int32.ofNat (v.toBitVec.toNat % 4294967296))
theorem lgF0_U (f : Nat → Int32) (i : Nat) (v : Int64) : lgF0 (lgU0 f i v) = vp_updL (lgF0 f) i v := by
  funext j
  by_cases h : j = i
  · subst h
    have e1 : lgU0 f j v (2 * j) = Int32.ofNat (v.toBitVec.toNat / 4294967296) := by
      unfold lgU0 upd
      rw [if_neg (by omega), if_pos rfl]
    have e2 : lgU0 f j v (2 * j + 1) = Int32.ofNat (v.toBitVec.toNat % 4294967296) := by
      unfold lgU0 upd
      rw [if_pos rfl]
    have hv := v.toBitVec.isLt
    have e3 : (Int32.ofNat (v.toBitVec.toNat / 4294967296)).toBitVec.toNat = v.toBitVec.toNat / 4294967296 := by
      show (BitVec.ofNat 32 _).toNat = _
      rw [BitVec.toNat_ofNat]
      omega
    have e4 : (Int32.ofNat (v.toBitVec.toNat % 4294967296)).toBitVec.toNat = v.toBitVec.toNat % 4294967296 := by
      show (BitVec.ofNat 32 _).toNat = _
      rw [BitVec.toNat_ofNat]
      omega
    unfold lgF0
    rw [e1, e2, e3, e4]
    have e5 : v.toBitVec.toNat / 4294967296 * 4294967296 + v.toBitVec.toNat % 4294967296 = v.toBitVec.toNat := by omega
    rw [e5]
    have e6 : Int64.ofNat v.toBitVec.toNat = v := Int64.toBitVec_inj.mp (by show BitVec.ofNat 64 _ = _; simp)
    rw [e6]
    simp [vp_updL]
  · have e1 : lgU0 f i v (2 * j) = f (2 * j) := by
      unfold lgU0 upd
      rw [if_neg (by omega), if_neg (by omega)]
    have e2 : lgU0 f i v (2 * j + 1) = f (2 * j + 1) := by
      unfold lgU0 upd
      rw [if_neg (by omega), if_neg (by omega)]
    show Int64.ofNat (_ * 4294967296 + _) = _
    rw [e1, e2]
    simp [vp_updL, h, lgF0]
theorem lg_ex : ∃ (d : (Nat → Int32) → Nat → Int64) (e : (Nat → Int32) → Nat → Int64 → Nat → Int32), (∀ f i v, d (e f i v) = vp_updL (d f) i v) ∧ d (fun _ => 0) = fun _ => 0 := ⟨lgF0, lgU0, lgF0_U, by
  funext i
  show Int64.ofNat (((0 : Int32)).toBitVec.toNat * 4294967296 + ((0 : Int32)).toBitVec.toNat) = 0
  rw [show ((0 : Int32)).toBitVec.toNat = 0 from by decide, Nat.zero_mul]
  decide⟩
noncomputable def lgF : (Nat → Int32) → Nat → Int64 := lg_ex.choose
noncomputable def lgU : (Nat → Int32) → Nat → Int64 → Nat → Int32 := lg_ex.choose_spec.choose
theorem lgF_U (f : Nat → Int32) (i : Nat) (v : Int64) : lgF (lgU f i v) = vp_updL (lgF f) i v := lg_ex.choose_spec.choose_spec.1 f i v
theorem lgF_0 : lgF (fun _ => 0) = fun _ => 0 := lg_ex.choose_spec.choose_spec.2
noncomputable def dsE (tc : Nat → ClassId) (ad : Nat → Nat) (f : Nat → Int32) (d : Ds) : va_E := match d with
  | .inl (t, n) => .inl (tc t, n, cond (Nat.beq t 4) (.inr (.inl (lgF f))) (.inl f))
  | .inr (.inl (t, L)) => .inl (tc t, L.length, .inr (.inr (.inr (.inr (dsR ad L)))))
  | .inr (.inr (ci, fs)) => .inr (ci, fs.map (dsV ad f))
noncomputable def wS (tc : Nat → ClassId) (sh : List Ds) (ad : Nat → Nat) (μ : Mem) : va_W := sh.mapIdx fun k d => (ad k, dsE tc ad (μ k) d)
theorem wS_get (tc : Nat → ClassId) (sh : List Ds) (ad : Nat → Nat) (μ : Mem) (k : Nat) : (wS tc sh ad μ)[k]? = (sh[k]?).map fun d => (ad k, dsE tc ad (μ k) d) := by
  simp [wS, List.getElem?_mapIdx]
theorem wS_at {tc : Nat → ClassId} {sh : List Ds} {ad : Nat → Nat} {μ : Mem} {k : Nat} {d : Ds} (h : sh[k]? = some d) : (wS tc sh ad μ)[k]? = some (ad k, dsE tc ad (μ k) d) := by
  rw [wS_get, h]; rfl
theorem wS_inv {tc : Nat → ClassId} {sh : List Ds} {ad : Nat → Nat} {μ : Mem} {k : Nat} {q : Nat × va_E} (h : (wS tc sh ad μ)[k]? = some q) : ∃ d, sh[k]? = some d ∧ q = (ad k, dsE tc ad (μ k) d) := by
  rw [wS_get] at h
  cases hd : sh[k]? with
  | none => rw [hd] at h; cases h
  | some d => rw [hd] at h; cases h; exact ⟨d, rfl, rfl⟩
theorem wS_put {tc : Nat → ClassId} {sh : List Ds} {ad : Nat → Nat} {μ : Mem} {k : Nat} {d : Ds} (h : sh[k]? = some d) (f : Nat → Int32) : (wS tc sh ad μ).set k (ad k, dsE tc ad f d) = wS tc sh ad (mput μ k f) := by
  have hl : k < sh.length := (List.getElem?_eq_some_iff.mp h).1
  apply List.ext_getElem?
  intro j
  rw [List.getElem?_set, wS_get, wS_get]
  by_cases hj : k = j
  · subst hj
    rw [if_pos rfl, if_pos (by simpa [wS] using hl), h]
    simp [mput]
  · rw [if_neg hj]
    cases sh[j]? with
    | none => rfl
    | some d2 => simp [mput, Ne.symm hj]
/-- the layout's cells are apart, and of a kind -/
def wD (A : Nat → Prop) (sh : List Ds) (ad : Nat → Nat) : Prop := (∀ i j, i < sh.length → j < sh.length → ad i = ad j → i = j) ∧ ∀ k, k < sh.length → A (ad k)
theorem wD.va {A : Nat → Prop} {sh : List Ds} {ad : Nat → Nat} (h : wD A sh ad) (tc : Nat → ClassId) (μ : Mem) : va_D A (wS tc sh ad μ) := by
  refine ⟨fun i j p q hi hj hpq => ?_, fun k q hk => ?_⟩
  · obtain ⟨d, h1, rfl⟩ := wS_inv hi
    obtain ⟨d', h2, rfl⟩ := wS_inv hj
    exact h.1 i j (List.getElem?_eq_some_iff.mp h1).1 (List.getElem?_eq_some_iff.mp h2).1 hpq
  · obtain ⟨d, h1, rfl⟩ := wS_inv hk
    exact h.2 k (List.getElem?_eq_some_iff.mp h1).1
/-- which cells a method may change: its world's, and new ones -/
def wA (sh : List Ds) (ad : Nat → Nat) (sz : Nat) : Nat → Prop := fun q => (∃ k, k < sh.length ∧ q = ad k) ∨ sz ≤ q
theorem wD.self {B : Nat → Prop} {sh : List Ds} {ad : Nat → Nat} {sz : Nat} (h : wD B sh ad) : wD (wA sh ad sz) sh ad := ⟨h.1, fun k hk => Or.inl ⟨k, hk, rfl⟩⟩
/-- the kinds of rows -/
abbrev ktys (tc : Nat → ClassId) : List (ClassId × FieldType) := [(tc 0, .int), (tc 1, .boolean), (tc 2, .char), (tc 3, .object "StoneTree$Tree"), (tc 4, .long)]
/-- the two static rows of Shape -/
def tbF (j : Nat) : Int32 := [0, 0, 9, 18, 0, 3, 6, 9, 12, 15, 18, 21, 24].getD j 0
def tbK (j : Nat) : Int32 := [9, 3, 3, 3, 1, 1, 1, 1, 1, 1, 1, 1, 1].getD j 0
def kSt (A : Nat → Prop) (U : State) (H : Heap) : Prop := ∃ t1 t2 : Nat, va_Z RX2 "FIRST_KEYS" "[I" (.ref t1) A U H ∧ va_T .int t1 13 (fun j => .int (tbF j)) A U H ∧ va_Z RX2 "KEYS_OF_CHILD" "[I" (.ref t2) A U H ∧ va_T .int t2 13 (fun j => .int (tbK j)) A U H
theorem kSt.moved {A : Nat → Prop} {u U : State} {H : Heap} (hvm : u.vm.Alike U.vm) (h : kSt A u H) : kSt A U H := by
  obtain ⟨t1, t2, h1, h2, h3, h4⟩ := h
  exact ⟨t1, t2, h1.moved hvm, h2.moved hvm, h3.moved hvm, h4.moved hvm⟩
theorem kSt.kept {A : Nat → Prop} {U : State} {H H1 : Heap} (h : kSt A U H) (hq : ∀ a : Nat, a < H.size → ¬ A a → H1[a]? = H[a]?) : kSt A U H1 := by
  obtain ⟨t1, t2, h1, h2, h3, h4⟩ := h
  exact ⟨t1, t2, h1.kept hq, h2.kept hq, h3.kept hq, h4.kept hq⟩
theorem kSt.narrow {A B : Nat → Prop} {U : State} {H : Heap} (h : kSt A U H) (hAB : ∀ q, B q → A q) : kSt B U H := by
  obtain ⟨t1, t2, h1, h2, h3, h4⟩ := h
  exact ⟨t1, t2, h1.narrow hAB, h2.narrow hAB, h3.narrow hAB, h4.narrow hAB⟩
/-! a place where a method stands -/
abbrev KT : Type := Program × Launch × Env × Room × State × MethodId × Array Value × List Frame × Method × Code × (State → Prop) × va_G × (Nat → ClassId) × (Nat → Prop) × Nat
abbrev kP (K : KT) : Program := K.1
abbrev kL (K : KT) : Launch := K.2.1
abbrev kE (K : KT) : Env := K.2.2.1
abbrev kR (K : KT) : Room := K.2.2.2.1
abbrev kS (K : KT) : State := K.2.2.2.2.1
abbrev kM (K : KT) : MethodId := K.2.2.2.2.2.1
abbrev kAr (K : KT) : Array Value := K.2.2.2.2.2.2.1
abbrev kB (K : KT) : List Frame := K.2.2.2.2.2.2.2.1
abbrev kMe (K : KT) : Method := K.2.2.2.2.2.2.2.2.1
abbrev kC (K : KT) : Code := K.2.2.2.2.2.2.2.2.2.1
abbrev kQ (K : KT) : State → Prop := K.2.2.2.2.2.2.2.2.2.2.1
abbrev kD (K : KT) : va_G := K.2.2.2.2.2.2.2.2.2.2.2.1
abbrev kT (K : KT) : Nat → ClassId := K.2.2.2.2.2.2.2.2.2.2.2.2.1
abbrev kA (K : KT) : Nat → Prop := K.2.2.2.2.2.2.2.2.2.2.2.2.2.1
abbrev kN (K : KT) : Nat := K.2.2.2.2.2.2.2.2.2.2.2.2.2.2
def JW (K : KT) (cs : Nat × Nat) (sh : List Ds) (ad : Nat → Nat) (μ : Mem) (pc : Nat) (lv : List (Nat × Value)) (st : List Value) : Prop :=
  ∀ (H : Heap) (locs : List Loc) (ls : Array Slot), va_P (kD K) vwCl (wS (kT K) sh ad μ) H → va_S (kA K) (kS K).heap H locs → lv_has ls (kN K) lv → W (kP K) (kL K) (kE K) (kR K) (kS K) (kM K) (kAr K) (kB K) (kMe K) (kC K) H locs cs.1 cs.2 (kQ K) (F0 (kM K) pc ls st)
def Ctx (K : KT) (l : Launch) (cc : ByteArray) (own : String) (Ts : List Cond) (rm : Room) (sh : List Ds) (ad : Nat → Nat) : Prop :=
  ((kP K).tables.exec = Jvm.exec ∧ (kC K).code = cc ∧ (kC K).maxLocals = kN K ∧ (kS K).vm.findClass own = some (kM K).cls ∧ ∀ w ∈ Ts, w.before (kAr K) (kS K) = true) ∧ va_K (kD K) vwCl (ktys (kT K)) (kS K) ∧ wD (kA K) sh ad ∧ (∀ q, (kS K).heap.size ≤ q → kA K q) ∧ kSt (kA K) (kS K) (kS K).heap ∧ kL K = l ∧ kR K = rm

section JWROWS
variable {K : KT} {l : Launch} {cc : ByteArray} {own : String} {Ts : List Cond} {rm : Room} {sh : List Ds} {ad : Nat → Nat} {cs : Nat × Nat} {μ : Mem} {pc : Nat} {lv lw : List (Nat × Value)} {rest : List Value}
theorem Ctx.x (C : Ctx K l cc own Ts rm sh ad) : (kP K).tables.exec = Jvm.exec := C.1.1
theorem Ctx.b (C : Ctx K l cc own Ts rm sh ad) : (kC K).code = cc := C.1.2.1
theorem Ctx.ml (C : Ctx K l cc own Ts rm sh ad) : (kC K).maxLocals = kN K := C.1.2.2.1
theorem Ctx.ow (C : Ctx K l cc own Ts rm sh ad) : (kS K).vm.findClass own = some (kM K).cls := C.1.2.2.2.1
theorem Ctx.ts (C : Ctx K l cc own Ts rm sh ad) : ∀ w ∈ Ts, w.before (kAr K) (kS K) = true := C.1.2.2.2.2
theorem Ctx.k (C : Ctx K l cc own Ts rm sh ad) : va_K (kD K) vwCl (ktys (kT K)) (kS K) := C.2.1
theorem Ctx.d (C : Ctx K l cc own Ts rm sh ad) : wD (kA K) sh ad := C.2.2.1
theorem Ctx.a (C : Ctx K l cc own Ts rm sh ad) : ∀ q, (kS K).heap.size ≤ q → kA K q := C.2.2.2.1
theorem Ctx.st (C : Ctx K l cc own Ts rm sh ad) : kSt (kA K) (kS K) (kS K).heap := C.2.2.2.2.1
theorem Ctx.la (C : Ctx K l cc own Ts rm sh ad) : kL K = l := C.2.2.2.2.2.1
theorem Ctx.r (C : Ctx K l cc own Ts rm sh ad) : kR K = rm := C.2.2.2.2.2.2
theorem jw_iconst (C : Ctx K l cc own Ts rm sh ad) {n : Int} {v : Int32} (d : decode cc pc = .ok (.iconst n, 1)) (hv : Int32.ofInt n = v) (k : JW K cs sh ad μ (pc + 1) lv (.int v :: rest)) : JW K cs sh ad μ pc lv rest := fun H locs ls hP hS hl => lv_iconst C.x C.b d hv (k H locs ls hP hS hl)
theorem jw_bipush (C : Ctx K l cc own Ts rm sh ad) {n : Int} {v : Int32} (d : decode cc pc = .ok (.bipush n, 2)) (hv : (Int8.ofInt n).toInt32 = v) (k : JW K cs sh ad μ (pc + 2) lv (.int v :: rest)) : JW K cs sh ad μ pc lv rest := fun H locs ls hP hS hl => lv_bipush C.x C.b d hv (k H locs ls hP hS hl)
theorem jw_sipush (C : Ctx K l cc own Ts rm sh ad) {n : Int} {v : Int32} (d : decode cc pc = .ok (.sipush n, 3)) (hv : (Int16.ofInt n).toInt32 = v) (k : JW K cs sh ad μ (pc + 3) lv (.int v :: rest)) : JW K cs sh ad μ pc lv rest := fun H locs ls hP hS hl => lv_sipush C.x C.b d hv (k H locs ls hP hS hl)
theorem jw_lconst (C : Ctx K l cc own Ts rm sh ad) {n : Fin 2} {v : Int64} (d : decode cc pc = .ok (.lconst n, 1)) (hv : Int64.ofNat (n : Nat) = v) (k : JW K cs sh ad μ (pc + 1) lv (.long v :: rest)) : JW K cs sh ad μ pc lv rest := fun H locs ls hP hS hl => lv_lconst C.x C.b d hv (k H locs ls hP hS hl)
theorem jw_ldc2 (C : Ctx K l cc own Ts rm sh ad) {index : Nat} {v : Int64} (hc : (Jvm.Cond.constantLong own index v) ∈ Ts) (d : decode cc pc = .ok (.ldc2_w index, 3)) (k : JW K cs sh ad μ (pc + 3) lv (.long v :: rest)) : JW K cs sh ad μ pc lv rest := fun H locs ls hP hS hl => lv_ldc2 C.x C.b C.ow (C.ts _ hc) d (k H locs ls hP hS hl)
theorem jw_iload_n (C : Ctx K l cc own Ts rm sh ad) {j : Fin 4} {i : Nat} {x : Int32} (d : decode cc pc = .ok (.iload_n j, 1)) (hi : (j : Nat) = i) (q : Nat) (hq : lv[q]? = some (i, .int x)) (k : JW K cs sh ad μ (pc + 1) lv (.int x :: rest)) : JW K cs sh ad μ pc lv rest := fun H locs ls hP hS hl => lv_iload_n C.x C.b d hi (lv_at hl q hq) (k H locs ls hP hS hl)
theorem jw_iload (C : Ctx K l cc own Ts rm sh ad) {i : Nat} {x : Int32} (d : decode cc pc = .ok (.iload i, 2)) (q : Nat) (hq : lv[q]? = some (i, .int x)) (k : JW K cs sh ad μ (pc + 2) lv (.int x :: rest)) : JW K cs sh ad μ pc lv rest := fun H locs ls hP hS hl => lv_iload C.x C.b d (lv_at hl q hq) (k H locs ls hP hS hl)
theorem jw_lload_n (C : Ctx K l cc own Ts rm sh ad) {j : Fin 4} {i : Nat} {x : Int64} (d : decode cc pc = .ok (.lload_n j, 1)) (hi : (j : Nat) = i) (q : Nat) (hq : lv[q]? = some (i, .long x)) (k : JW K cs sh ad μ (pc + 1) lv (.long x :: rest)) : JW K cs sh ad μ pc lv rest := fun H locs ls hP hS hl => lv_lload_n C.x C.b d hi (lv_at hl q hq) (k H locs ls hP hS hl)
theorem jw_lload (C : Ctx K l cc own Ts rm sh ad) {i : Nat} {x : Int64} (d : decode cc pc = .ok (.lload i, 2)) (q : Nat) (hq : lv[q]? = some (i, .long x)) (k : JW K cs sh ad μ (pc + 2) lv (.long x :: rest)) : JW K cs sh ad μ pc lv rest := fun H locs ls hP hS hl => lv_lload C.x C.b d (lv_at hl q hq) (k H locs ls hP hS hl)
theorem jw_aload_n (C : Ctx K l cc own Ts rm sh ad) {j : Fin 4} {i : Nat} {x : Nat} (d : decode cc pc = .ok (.aload_n j, 1)) (hi : (j : Nat) = i) (q : Nat) (hq : lv[q]? = some (i, .ref x)) (k : JW K cs sh ad μ (pc + 1) lv (.ref x :: rest)) : JW K cs sh ad μ pc lv rest := fun H locs ls hP hS hl => lv_aload_n C.x C.b d hi (lv_at hl q hq) (k H locs ls hP hS hl)
theorem jw_aload (C : Ctx K l cc own Ts rm sh ad) {i : Nat} {x : Nat} (d : decode cc pc = .ok (.aload i, 2)) (q : Nat) (hq : lv[q]? = some (i, .ref x)) (k : JW K cs sh ad μ (pc + 2) lv (.ref x :: rest)) : JW K cs sh ad μ pc lv rest := fun H locs ls hP hS hl => lv_aload C.x C.b d (lv_at hl q hq) (k H locs ls hP hS hl)
theorem jw_istore_n (C : Ctx K l cc own Ts rm sh ad) {j : Fin 4} {i : Nat} {x : Int32} (d : decode cc pc = .ok (.istore_n j, 1)) (hi : (j : Nat) = i) (hn : i < kN K) (hl : (i, Value.int x) :: lv.filter (fun q => !(q.1 == i) && !(q.1 + 1 == i && q.2.category == 2)) = lw) (k : JW K cs sh ad μ (pc + 1) lw rest) : JW K cs sh ad μ pc lv (.int x :: rest) := fun H locs ls hP hS h => lv_istore_n C.x C.b d hi h hn hl (fun ls h => k H locs ls hP hS h)
theorem jw_istore (C : Ctx K l cc own Ts rm sh ad) {i : Nat} {x : Int32} (d : decode cc pc = .ok (.istore i, 2)) (hn : i < kN K) (hl : (i, Value.int x) :: lv.filter (fun q => !(q.1 == i) && !(q.1 + 1 == i && q.2.category == 2)) = lw) (k : JW K cs sh ad μ (pc + 2) lw rest) : JW K cs sh ad μ pc lv (.int x :: rest) := fun H locs ls hP hS h => lv_istore C.x C.b d h hn hl (fun ls h => k H locs ls hP hS h)
theorem jw_lstore_n (C : Ctx K l cc own Ts rm sh ad) {j : Fin 4} {i : Nat} {x : Int64} (d : decode cc pc = .ok (.lstore_n j, 1)) (hi : (j : Nat) = i) (hn : i + 1 < kN K) (hl : (i, Value.long x) :: lv.filter (fun q => !(q.1 == i) && (!(q.1 == i + 1) && !(q.1 + 1 == i && q.2.category == 2))) = lw) (k : JW K cs sh ad μ (pc + 1) lw rest) : JW K cs sh ad μ pc lv (.long x :: rest) := fun H locs ls hP hS h => lv_lstore_n C.x C.b d hi h hn hl (fun ls h => k H locs ls hP hS h)
theorem jw_lstore (C : Ctx K l cc own Ts rm sh ad) {i : Nat} {x : Int64} (d : decode cc pc = .ok (.lstore i, 2)) (hn : i + 1 < kN K) (hl : (i, Value.long x) :: lv.filter (fun q => !(q.1 == i) && (!(q.1 == i + 1) && !(q.1 + 1 == i && q.2.category == 2))) = lw) (k : JW K cs sh ad μ (pc + 2) lw rest) : JW K cs sh ad μ pc lv (.long x :: rest) := fun H locs ls hP hS h => lv_lstore C.x C.b d h hn hl (fun ls h => k H locs ls hP hS h)
theorem jw_astore_n (C : Ctx K l cc own Ts rm sh ad) {j : Fin 4} {i : Nat} {x : Nat} (d : decode cc pc = .ok (.astore_n j, 1)) (hi : (j : Nat) = i) (hn : i < kN K) (hl : (i, Value.ref x) :: lv.filter (fun q => !(q.1 == i) && !(q.1 + 1 == i && q.2.category == 2)) = lw) (k : JW K cs sh ad μ (pc + 1) lw rest) : JW K cs sh ad μ pc lv (.ref x :: rest) := fun H locs ls hP hS h => lv_astore_n C.x C.b d hi h hn hl (fun ls h => k H locs ls hP hS h)
theorem jw_astore (C : Ctx K l cc own Ts rm sh ad) {i : Nat} {x : Nat} (d : decode cc pc = .ok (.astore i, 2)) (hn : i < kN K) (hl : (i, Value.ref x) :: lv.filter (fun q => !(q.1 == i) && !(q.1 + 1 == i && q.2.category == 2)) = lw) (k : JW K cs sh ad μ (pc + 2) lw rest) : JW K cs sh ad μ pc lv (.ref x :: rest) := fun H locs ls hP hS h => lv_astore C.x C.b d h hn hl (fun ls h => k H locs ls hP hS h)
theorem jw_iinc (C : Ctx K l cc own Ts rm sh ad) {i q : Nat} {n : Int} {x v : Int32} (d : decode cc pc = .ok (.iinc i n, 3)) (hq : lv[q]? = some (i, .int x)) (hv : x + Int32.ofInt n = v) (hn : i < kN K) (hl : (i, Value.int v) :: lv.filter (fun q => !(q.1 == i) && !(q.1 + 1 == i && q.2.category == 2)) = lw) (k : JW K cs sh ad μ (pc + 3) lw rest) : JW K cs sh ad μ pc lv rest := fun H locs ls hP hS h => lv_iinc C.x C.b d h hq hv hn hl (fun ls h => k H locs ls hP hS h)
theorem jw_sub (ks : List Nat) (hk : lv_pick lv ks = lw) (k : JW K cs sh ad μ pc lw rest) : JW K cs sh ad μ pc lv rest := fun H locs ls hP hS h => k H locs ls hP hS (lv_sub h ks hk)
theorem jw_iadd (C : Ctx K l cc own Ts rm sh ad) {x y : Int32} (d : decode cc pc = .ok (.iadd, 1)) (k : JW K cs sh ad μ (pc + 1) lv (.int (x + y) :: rest)) : JW K cs sh ad μ pc lv (.int y :: .int x :: rest) := fun H locs ls hP hS hl => lv_iadd C.x C.b d (k H locs ls hP hS hl)
theorem jw_isub (C : Ctx K l cc own Ts rm sh ad) {x y : Int32} (d : decode cc pc = .ok (.isub, 1)) (k : JW K cs sh ad μ (pc + 1) lv (.int (x - y) :: rest)) : JW K cs sh ad μ pc lv (.int y :: .int x :: rest) := fun H locs ls hP hS hl => lv_isub C.x C.b d (k H locs ls hP hS hl)
theorem jw_imul (C : Ctx K l cc own Ts rm sh ad) {x y : Int32} (d : decode cc pc = .ok (.imul, 1)) (k : JW K cs sh ad μ (pc + 1) lv (.int (x * y) :: rest)) : JW K cs sh ad μ pc lv (.int y :: .int x :: rest) := fun H locs ls hP hS hl => lv_imul C.x C.b d (k H locs ls hP hS hl)
theorem jw_iand (C : Ctx K l cc own Ts rm sh ad) {x y : Int32} (d : decode cc pc = .ok (.iand, 1)) (k : JW K cs sh ad μ (pc + 1) lv (.int (x &&& y) :: rest)) : JW K cs sh ad μ pc lv (.int y :: .int x :: rest) := fun H locs ls hP hS hl => lv_iand C.x C.b d (k H locs ls hP hS hl)
theorem jw_ior (C : Ctx K l cc own Ts rm sh ad) {x y : Int32} (d : decode cc pc = .ok (.ior, 1)) (k : JW K cs sh ad μ (pc + 1) lv (.int (x ||| y) :: rest)) : JW K cs sh ad μ pc lv (.int y :: .int x :: rest) := fun H locs ls hP hS hl => lv_ior C.x C.b d (k H locs ls hP hS hl)
theorem jw_ishl (C : Ctx K l cc own Ts rm sh ad) {x y : Int32} (d : decode cc pc = .ok (.ishl, 1)) (k : JW K cs sh ad μ (pc + 1) lv (.int (x <<< (y &&& 31)) :: rest)) : JW K cs sh ad μ pc lv (.int y :: .int x :: rest) := fun H locs ls hP hS hl => lv_ishl C.x C.b d (k H locs ls hP hS hl)
theorem jw_ishr (C : Ctx K l cc own Ts rm sh ad) {x y : Int32} (d : decode cc pc = .ok (.ishr, 1)) (k : JW K cs sh ad μ (pc + 1) lv (.int (x >>> (y &&& 31)) :: rest)) : JW K cs sh ad μ pc lv (.int y :: .int x :: rest) := fun H locs ls hP hS hl => lv_ishr C.x C.b d (k H locs ls hP hS hl)
theorem jw_idiv (C : Ctx K l cc own Ts rm sh ad) {x y : Int32} (d : decode cc pc = .ok (.idiv, 1)) (hne : ¬ y = 0) (k : JW K cs sh ad μ (pc + 1) lv (.int (x / y) :: rest)) : JW K cs sh ad μ pc lv (.int y :: .int x :: rest) := fun H locs ls hP hS hl => lv_idiv C.x C.b d hne (k H locs ls hP hS hl)
theorem jw_irem (C : Ctx K l cc own Ts rm sh ad) {x y : Int32} (d : decode cc pc = .ok (.irem, 1)) (hne : ¬ y = 0) (k : JW K cs sh ad μ (pc + 1) lv (.int (x - x / y * y) :: rest)) : JW K cs sh ad μ pc lv (.int y :: .int x :: rest) := fun H locs ls hP hS hl => lv_irem C.x C.b d hne (k H locs ls hP hS hl)
theorem jw_land (C : Ctx K l cc own Ts rm sh ad) {x y : Int64} (d : decode cc pc = .ok (.land, 1)) (k : JW K cs sh ad μ (pc + 1) lv (.long (x &&& y) :: rest)) : JW K cs sh ad μ pc lv (.long y :: .long x :: rest) := fun H locs ls hP hS hl => lv_land C.x C.b d (k H locs ls hP hS hl)
theorem jw_lor (C : Ctx K l cc own Ts rm sh ad) {x y : Int64} (d : decode cc pc = .ok (.lor, 1)) (k : JW K cs sh ad μ (pc + 1) lv (.long (x ||| y) :: rest)) : JW K cs sh ad μ pc lv (.long y :: .long x :: rest) := fun H locs ls hP hS hl => lv_lor C.x C.b d (k H locs ls hP hS hl)
theorem jw_lushr (C : Ctx K l cc own Ts rm sh ad) {x : Int64} {y : Int32} (d : decode cc pc = .ok (.lushr, 1)) (k : JW K cs sh ad μ (pc + 1) lv (.long ((x.toUInt64 >>> (y.toInt64.toUInt64 &&& Int64.toUInt64 63)).toInt64) :: rest)) : JW K cs sh ad μ pc lv (.int y :: .long x :: rest) := fun H locs ls hP hS hl => lv_lushr C.x C.b d rfl (k H locs ls hP hS hl)
theorem jw_lshl (C : Ctx K l cc own Ts rm sh ad) {x : Int64} {y : Int32} (d : decode cc pc = .ok (.lshl, 1)) (k : JW K cs sh ad μ (pc + 1) lv (.long (x <<< (y.toInt64 &&& 63)) :: rest)) : JW K cs sh ad μ pc lv (.int y :: .long x :: rest) := fun H locs ls hP hS hl => lv_lshl C.x C.b d rfl (k H locs ls hP hS hl)
theorem jw_i2l (C : Ctx K l cc own Ts rm sh ad) {x : Int32} (d : decode cc pc = .ok (.i2l, 1)) (k : JW K cs sh ad μ (pc + 1) lv (.long (x.toInt64) :: rest)) : JW K cs sh ad μ pc lv (.int x :: rest) := fun H locs ls hP hS hl => lv_i2l C.x C.b d rfl (k H locs ls hP hS hl)
theorem jw_l2i (C : Ctx K l cc own Ts rm sh ad) {x : Int64} (d : decode cc pc = .ok (.l2i, 1)) (k : JW K cs sh ad μ (pc + 1) lv (.int (x.toInt32) :: rest)) : JW K cs sh ad μ pc lv (.long x :: rest) := fun H locs ls hP hS hl => lv_l2i C.x C.b d rfl (k H locs ls hP hS hl)
theorem jw_i2c (C : Ctx K l cc own Ts rm sh ad) {x : Int32} (d : decode cc pc = .ok (.i2c, 1)) (k : JW K cs sh ad μ (pc + 1) lv (.int ((x.toUInt32 % 65536).toInt32) :: rest)) : JW K cs sh ad μ pc lv (.int x :: rest) := fun H locs ls hP hS hl => lv_i2c C.x C.b d rfl (k H locs ls hP hS hl)
theorem jw_lcmp (C : Ctx K l cc own Ts rm sh ad) {x y : Int64} (d : decode cc pc = .ok (.lcmp, 1)) (k : JW K cs sh ad μ (pc + 1) lv (.int (lg_cmp x y) :: rest)) : JW K cs sh ad μ pc lv (.long y :: .long x :: rest) := fun H locs ls hP hS hl => W.lcmp C.x C.b d (k H locs ls hP hS hl)
theorem jw_dup (C : Ctx K l cc own Ts rm sh ad) {va : Value} (d : decode cc pc = .ok (.dup, 1)) (hva : va.category = 1) (k : JW K cs sh ad μ (pc + 1) lv (va :: va :: rest)) : JW K cs sh ad μ pc lv (va :: rest) := fun H locs ls hP hS hl => lv_dup C.x C.b d hva (k H locs ls hP hS hl)
theorem jw_dup2 (C : Ctx K l cc own Ts rm sh ad) {va vb : Value} (d : decode cc pc = .ok (.dup2, 1)) (hva : va.category = 1) (hvb : vb.category = 1) (k : JW K cs sh ad μ (pc + 1) lv (va :: vb :: va :: vb :: rest)) : JW K cs sh ad μ pc lv (va :: vb :: rest) := fun H locs ls hP hS hl => lv_dup2_11 C.x C.b d hva hvb (k H locs ls hP hS hl)
theorem jw_goto (C : Ctx K l cc own Ts rm sh ad) {off : Int} {tgt : Nat} (d : decode cc pc = .ok (.goto off, 3)) (ht : (pc : Int) + off = (tgt : Int)) (k : JW K cs sh ad μ tgt lv rest) : JW K cs sh ad μ pc lv rest := fun H locs ls hP hS hl => lv_goto C.x C.b d ht (k H locs ls hP hS hl)
theorem jw_ifnonnull (C : Ctx K l cc own Ts rm sh ad) {x : Nat} {off : Int} {tgt : Nat} (d : decode cc pc = .ok (.ifnonnull off, 3)) (ht : (pc : Int) + off = (tgt : Int)) (k : JW K cs sh ad μ tgt lv rest) : JW K cs sh ad μ pc lv (.ref x :: rest) := fun H locs ls hP hS hl => lv_ifnonnull C.x C.b d ht (k H locs ls hP hS hl)
theorem jw_ifnull (C : Ctx K l cc own Ts rm sh ad) {x : Nat} {off : Int} (d : decode cc pc = .ok (.ifnull off, 3)) (k : JW K cs sh ad μ (pc + 3) lv rest) : JW K cs sh ad μ pc lv (.ref x :: rest) := fun H locs ls hP hS hl => lv_ifnull C.x C.b d (k H locs ls hP hS hl)
theorem jw_if_eq (C : Ctx K l cc own Ts rm sh ad) {x : Int32} {off : Int} (tgt : Nat) (d : decode cc pc = .ok (.ifCond .eq off, 3)) (ht : (pc : Int) + off = (tgt : Int)) (kt : x = 0 → JW K cs sh ad μ tgt lv rest) (kf : ¬ x = 0 → JW K cs sh ad μ (pc + 3) lv rest) : JW K cs sh ad μ pc lv (.int x :: rest) := fun H locs ls hP hS hl => lv_if_eq C.x C.b d ht (fun h => kt h H locs ls hP hS hl) (fun h => kf h H locs ls hP hS hl)
theorem jw_if_ne (C : Ctx K l cc own Ts rm sh ad) {x : Int32} {off : Int} (tgt : Nat) (d : decode cc pc = .ok (.ifCond .ne off, 3)) (ht : (pc : Int) + off = (tgt : Int)) (kt : ¬ x = 0 → JW K cs sh ad μ tgt lv rest) (kf : x = 0 → JW K cs sh ad μ (pc + 3) lv rest) : JW K cs sh ad μ pc lv (.int x :: rest) := fun H locs ls hP hS hl => lv_if_ne C.x C.b d ht (fun h => kt h H locs ls hP hS hl) (fun h => kf h H locs ls hP hS hl)
theorem jw_if_lt (C : Ctx K l cc own Ts rm sh ad) {x : Int32} {off : Int} (tgt : Nat) (d : decode cc pc = .ok (.ifCond .lt off, 3)) (ht : (pc : Int) + off = (tgt : Int)) (kt : x < 0 → JW K cs sh ad μ tgt lv rest) (kf : ¬ x < 0 → JW K cs sh ad μ (pc + 3) lv rest) : JW K cs sh ad μ pc lv (.int x :: rest) := fun H locs ls hP hS hl => lv_if_lt C.x C.b d ht (fun h => kt h H locs ls hP hS hl) (fun h => kf h H locs ls hP hS hl)
theorem jw_if_ge (C : Ctx K l cc own Ts rm sh ad) {x : Int32} {off : Int} (tgt : Nat) (d : decode cc pc = .ok (.ifCond .ge off, 3)) (ht : (pc : Int) + off = (tgt : Int)) (kt : 0 ≤ x → JW K cs sh ad μ tgt lv rest) (kf : ¬ 0 ≤ x → JW K cs sh ad μ (pc + 3) lv rest) : JW K cs sh ad μ pc lv (.int x :: rest) := fun H locs ls hP hS hl => lv_if_ge C.x C.b d ht (fun h => kt h H locs ls hP hS hl) (fun h => kf h H locs ls hP hS hl)
theorem jw_if_gt (C : Ctx K l cc own Ts rm sh ad) {x : Int32} {off : Int} (tgt : Nat) (d : decode cc pc = .ok (.ifCond .gt off, 3)) (ht : (pc : Int) + off = (tgt : Int)) (kt : 0 < x → JW K cs sh ad μ tgt lv rest) (kf : ¬ 0 < x → JW K cs sh ad μ (pc + 3) lv rest) : JW K cs sh ad μ pc lv (.int x :: rest) := fun H locs ls hP hS hl => lv_if_gt C.x C.b d ht (fun h => kt h H locs ls hP hS hl) (fun h => kf h H locs ls hP hS hl)
theorem jw_if_le (C : Ctx K l cc own Ts rm sh ad) {x : Int32} {off : Int} (tgt : Nat) (d : decode cc pc = .ok (.ifCond .le off, 3)) (ht : (pc : Int) + off = (tgt : Int)) (kt : x ≤ 0 → JW K cs sh ad μ tgt lv rest) (kf : ¬ x ≤ 0 → JW K cs sh ad μ (pc + 3) lv rest) : JW K cs sh ad μ pc lv (.int x :: rest) := fun H locs ls hP hS hl => lv_if_le C.x C.b d ht (fun h => kt h H locs ls hP hS hl) (fun h => kf h H locs ls hP hS hl)
theorem jw_icmp_eq (C : Ctx K l cc own Ts rm sh ad) {x y : Int32} {off : Int} (tgt : Nat) (d : decode cc pc = .ok (.if_icmp .eq off, 3)) (ht : (pc : Int) + off = (tgt : Int)) (kt : x = y → JW K cs sh ad μ tgt lv rest) (kf : ¬ x = y → JW K cs sh ad μ (pc + 3) lv rest) : JW K cs sh ad μ pc lv (.int y :: .int x :: rest) := fun H locs ls hP hS hl => lv_icmp_eq C.x C.b d ht (fun h => kt h H locs ls hP hS hl) (fun h => kf h H locs ls hP hS hl)
theorem jw_icmp_ne (C : Ctx K l cc own Ts rm sh ad) {x y : Int32} {off : Int} (tgt : Nat) (d : decode cc pc = .ok (.if_icmp .ne off, 3)) (ht : (pc : Int) + off = (tgt : Int)) (kt : ¬ x = y → JW K cs sh ad μ tgt lv rest) (kf : x = y → JW K cs sh ad μ (pc + 3) lv rest) : JW K cs sh ad μ pc lv (.int y :: .int x :: rest) := fun H locs ls hP hS hl => lv_icmp_ne C.x C.b d ht (fun h => kt h H locs ls hP hS hl) (fun h => kf h H locs ls hP hS hl)
theorem jw_icmp_lt (C : Ctx K l cc own Ts rm sh ad) {x y : Int32} {off : Int} (tgt : Nat) (d : decode cc pc = .ok (.if_icmp .lt off, 3)) (ht : (pc : Int) + off = (tgt : Int)) (kt : x < y → JW K cs sh ad μ tgt lv rest) (kf : ¬ x < y → JW K cs sh ad μ (pc + 3) lv rest) : JW K cs sh ad μ pc lv (.int y :: .int x :: rest) := fun H locs ls hP hS hl => lv_icmp_lt C.x C.b d ht (fun h => kt h H locs ls hP hS hl) (fun h => kf h H locs ls hP hS hl)
theorem jw_icmp_ge (C : Ctx K l cc own Ts rm sh ad) {x y : Int32} {off : Int} (tgt : Nat) (d : decode cc pc = .ok (.if_icmp .ge off, 3)) (ht : (pc : Int) + off = (tgt : Int)) (kt : y ≤ x → JW K cs sh ad μ tgt lv rest) (kf : ¬ y ≤ x → JW K cs sh ad μ (pc + 3) lv rest) : JW K cs sh ad μ pc lv (.int y :: .int x :: rest) := fun H locs ls hP hS hl => lv_icmp_ge C.x C.b d ht (fun h => kt h H locs ls hP hS hl) (fun h => kf h H locs ls hP hS hl)
theorem jw_icmp_gt (C : Ctx K l cc own Ts rm sh ad) {x y : Int32} {off : Int} (tgt : Nat) (d : decode cc pc = .ok (.if_icmp .gt off, 3)) (ht : (pc : Int) + off = (tgt : Int)) (kt : y < x → JW K cs sh ad μ tgt lv rest) (kf : ¬ y < x → JW K cs sh ad μ (pc + 3) lv rest) : JW K cs sh ad μ pc lv (.int y :: .int x :: rest) := fun H locs ls hP hS hl => lv_icmp_gt C.x C.b d ht (fun h => kt h H locs ls hP hS hl) (fun h => kf h H locs ls hP hS hl)
theorem jw_icmp_le (C : Ctx K l cc own Ts rm sh ad) {x y : Int32} {off : Int} (tgt : Nat) (d : decode cc pc = .ok (.if_icmp .le off, 3)) (ht : (pc : Int) + off = (tgt : Int)) (kt : x ≤ y → JW K cs sh ad μ tgt lv rest) (kf : ¬ x ≤ y → JW K cs sh ad μ (pc + 3) lv rest) : JW K cs sh ad μ pc lv (.int y :: .int x :: rest) := fun H locs ls hP hS hl => lv_icmp_le C.x C.b d ht (fun h => kt h H locs ls hP hS hl) (fun h => kf h H locs ls hP hS hl)
theorem jw_tsIn (C : Ctx K l cc own Ts rm sh ad) {dflt lo hi : Int} {offs : Array Int} {len : Nat} {x : Int32} (v : Int32) {off : Int} (tgt : Nat) (d : decode cc pc = .ok (.tableswitch dflt lo hi offs, len)) (hx : x = v) (h1 : ¬ v.toInt < lo) (h2 : ¬ hi < v.toInt) (ho : offs[(v.toInt - lo).toNat]? = some off) (ht : (pc : Int) + off = (tgt : Int)) (k : JW K cs sh ad μ tgt lv rest) : JW K cs sh ad μ pc lv (.int x :: rest) := fun H locs ls hP hS hl => lv_tableIn C.x C.b d (by rw [hx]; exact h1) (by rw [hx]; exact h2) (by rw [hx]; exact ho) ht (k H locs ls hP hS hl)
theorem jw_tsOut (C : Ctx K l cc own Ts rm sh ad) {dflt lo hi : Int} {offs : Array Int} {len : Nat} {x : Int32} (tgt : Nat) (d : decode cc pc = .ok (.tableswitch dflt lo hi offs, len)) (h : x.toInt < lo ∨ hi < x.toInt) (ht : (pc : Int) + dflt = (tgt : Int)) (k : JW K cs sh ad μ tgt lv rest) : JW K cs sh ad μ pc lv (.int x :: rest) := fun H locs ls hP hS hl => lv_tableOut C.x C.b d h ht (k H locs ls hP hS hl)
theorem jw_lookup (C : Ctx K l cc own Ts rm sh ad) {dflt : Int} {ps : Array (Int × Int)} {len : Nat} {x : Int32} {off : Int} (tgt : Nat) (d : decode cc pc = .ok (.lookupswitch dflt ps, len)) (hp : (ps.toList.zip (ps.toList.drop 1)).all (fun (a, next) => a.1 < next.1) = true) (ho : Op.lookupswitch.offset ps.toList dflt x.toInt = off) (ht : (pc : Int) + off = (tgt : Int)) (k : JW K cs sh ad μ tgt lv rest) : JW K cs sh ad μ pc lv (.int x :: rest) := fun H locs ls hP hS hl => lv_lookup C.x C.b d hp ho ht (k H locs ls hP hS hl)
theorem jw_getR (C : Ctx K l cc own Ts rm sh ad) {C0 : String} {T : u_T} {N ci index : Nat} (hin : ∀ w ∈ u_ws C0 T N, w ∈ Ts) {a : Nat} {q : Nat} {fs : List (Nat ⊕ Nat)} (ha : ad q = a) (hq : sh[q]? = some (.inr (.inr (ci, fs)))) (hc : vwCl[ci]? = some (C0, T, N)) (k : Nat) (hk : k < N) {j : Nat} (hx : fs[k]? = some (.inl (j + 1))) (hlink : Cond.fieldLink own index (T k).1 (T k).2.1 (T k).2.2.1 ∈ Ts) (d : decode cc pc = .ok (.getfield index, 3)) (kk : JW K cs sh ad μ (pc + 3) lv (.ref (ad j) :: rest)) : JW K cs sh ad μ pc lv (.ref a :: rest) := fun H locs ls hP hS hl => by subst ha; exact va_get C.x C.b C.ts hin C.ow C.k hP q (wS_at hq) hc k hk (C.ts _ hlink) (fun _ h => h) (v := .ref (ad j)) (by rw [List.getElem?_map, hx]; rfl) d (kk H locs ls hP hS hl)
theorem jw_getI (C : Ctx K l cc own Ts rm sh ad) {C0 : String} {T : u_T} {N ci index : Nat} (hin : ∀ w ∈ u_ws C0 T N, w ∈ Ts) {a : Nat} {q : Nat} {fs : List (Nat ⊕ Nat)} (ha : ad q = a) (hq : sh[q]? = some (.inr (.inr (ci, fs)))) (hc : vwCl[ci]? = some (C0, T, N)) (k : Nat) (hk : k < N) {j : Nat} (hx : fs[k]? = some (.inr j)) (hlink : Cond.fieldLink own index (T k).1 (T k).2.1 (T k).2.2.1 ∈ Ts) (d : decode cc pc = .ok (.getfield index, 3)) (kk : JW K cs sh ad μ (pc + 3) lv (.int (μ q j) :: rest)) : JW K cs sh ad μ pc lv (.ref a :: rest) := fun H locs ls hP hS hl => by subst ha; exact va_get C.x C.b C.ts hin C.ow C.k hP q (wS_at hq) hc k hk (C.ts _ hlink) (fun _ h => h) (v := .int (μ q j)) (by rw [List.getElem?_map, hx]; rfl) d (kk H locs ls hP hS hl)
theorem dsV_set {ad : Nat → Nat} {f : Nat → Int32} {fs : List (Nat ⊕ Nat)} {k j : Nat} {v : Int32} (hx : fs[k]? = some (.inr j)) (hu : ∀ i : Nat, i ≠ k → fs[i]? ≠ some (.inr j)) : (fs.map (dsV ad f)).set k (.int v) = fs.map (dsV ad (upd f j v)) := by
  have hl : k < fs.length := (List.getElem?_eq_some_iff.mp hx).1
  apply List.ext_getElem?
  intro i
  rw [List.getElem?_set, List.getElem?_map, List.getElem?_map]
  by_cases hi : k = i
  · subst hi
    rw [if_pos rfl, if_pos (by rw [List.length_map]; exact hl), hx]
    simp [dsV, upd]
  · rw [if_neg hi]
    cases he : fs[i]? with
    | none => rfl
    | some y =>
      rcases y with y | y
      · cases y <;> rfl
      · have hne : y ≠ j := fun e => hu i (Ne.symm hi) (by rw [he, e])
        simp [dsV, upd, hne]

theorem jw_putI (C : Ctx K l cc own Ts rm sh ad) {C0 : String} {T : u_T} {N ci index : Nat} (hin : ∀ w ∈ u_ws C0 T N, w ∈ Ts) {a : Nat} {q : Nat} {fs : List (Nat ⊕ Nat)} (ha : ad q = a) (hq : sh[q]? = some (.inr (.inr (ci, fs)))) (hc : vwCl[ci]? = some (C0, T, N)) (k : Nat) (hk : k < N) (ty0 : Nat → FieldType) (hty : ∀ k, k < N → parseFieldDescriptor (T k).2.2.1 = some (ty0 k)) (hnm : ∀ a, a < N → ∀ b, b < N → a ≠ b → (T a).2.1 ≠ (T b).2.1) {j : Nat} {v : Int32} (hx : fs[k]? = some (.inr j)) (hu : ∀ i : Nat, i ≠ k → fs[i]? ≠ some (.inr j)) (hlink : Cond.fieldLink own index (T k).1 (T k).2.1 (T k).2.2.1 ∈ Ts) (hfin : (T k).2.2.2 = false) {ty : FieldType} (hd : parseFieldDescriptor (T k).2.2.1 = some ty) (hn : narrow ty (.int v) = .int v) (hfit : fits ty (.int v) = true) (d : decode cc pc = .ok (.putfield index, 3)) (kk : JW K cs sh ad (mset μ q j v) (pc + 3) lv rest) : JW K cs sh ad μ pc lv (.int v :: .ref a :: rest) := fun H locs ls hP hS hl => by
  subst ha
  refine va_put C.x C.b C.ts hin ty0 hty hnm C.ow C.k hP (C.d.va _ μ) hS q (wS_at hq) hc k hk (C.ts _ hlink) (fun _ h => h) hfin hd hn hfit (by rw [List.length_map]; exact (List.getElem?_eq_some_iff.mp hx).1) d (fun H1 locs1 hP1 _ hS1 => ?_)
  rw [dsV_set hx hu] at hP1
  exact kk H1 locs1 ls (by rw [show mset μ q j v = mput μ q (upd (μ q) j v) from rfl, ← wS_put hq]; exact hP1) hS1 hl
theorem jw_iald (C : Ctx K l cc own Ts rm sh ad) {a q n : Nat} (ha : ad q = a) (hq : sh[q]? = some (.inl (0, n))) {i : Int32} (hin : vp_in i n) (d : decode cc pc = .ok (.iaload, 1)) (kk : JW K cs sh ad μ (pc + 1) lv (.int (μ q i.toNatClampNeg) :: rest)) : JW K cs sh ad μ pc lv (.int i :: .ref a :: rest) := fun H locs ls hP hS hl => by subst ha; exact va_iald C.x C.b C.k hP q 0 (wS_at hq) rfl hin d (kk H locs ls hP hS hl)
theorem jw_iast (C : Ctx K l cc own Ts rm sh ad) {a q n : Nat} (ha : ad q = a) (hq : sh[q]? = some (.inl (0, n))) {i x : Int32} (hin : vp_in i n) (d : decode cc pc = .ok (.iastore, 1)) (kk : JW K cs sh ad (mset μ q i.toNatClampNeg x) (pc + 1) lv rest) : JW K cs sh ad μ pc lv (.int x :: .int i :: .ref a :: rest) := fun H locs ls hP hS hl => by
  subst ha
  refine va_iast C.x C.b C.k hP (C.d.va _ μ) hS q 0 (wS_at hq) rfl hin d (fun H1 locs1 hP1 _ hS1 => ?_)
  exact kk H1 locs1 ls (by rw [show mset μ q i.toNatClampNeg x = mput μ q (upd (μ q) i.toNatClampNeg x) from rfl, ← wS_put hq]; exact hP1) hS1 hl
theorem jw_zald (C : Ctx K l cc own Ts rm sh ad) {a q n : Nat} (ha : ad q = a) (hq : sh[q]? = some (.inl (1, n))) {i : Int32} (hin : vp_in i n) (d : decode cc pc = .ok (.baload, 1)) (kk : JW K cs sh ad μ (pc + 1) lv (.int (μ q i.toNatClampNeg) :: rest)) : JW K cs sh ad μ pc lv (.int i :: .ref a :: rest) := fun H locs ls hP hS hl => by subst ha; exact va_zald C.x C.b C.k hP q 1 (wS_at hq) rfl hin d (kk H locs ls hP hS hl)
theorem jw_zast (C : Ctx K l cc own Ts rm sh ad) {a q n : Nat} (ha : ad q = a) (hq : sh[q]? = some (.inl (1, n))) {i x : Int32} (hin : vp_in i n) (d : decode cc pc = .ok (.bastore, 1)) (kk : JW K cs sh ad (mset μ q i.toNatClampNeg (vp_nar .boolean x)) (pc + 1) lv rest) : JW K cs sh ad μ pc lv (.int x :: .int i :: .ref a :: rest) := fun H locs ls hP hS hl => by
  subst ha
  refine va_zast C.x C.b C.k hP (C.d.va _ μ) hS q 1 (wS_at hq) rfl hin d (fun H1 locs1 hP1 _ hS1 => ?_)
  exact kk H1 locs1 ls (by rw [show mset μ q i.toNatClampNeg (vp_nar .boolean x) = mput μ q (upd (μ q) i.toNatClampNeg (vp_nar .boolean x)) from rfl, ← wS_put hq]; exact hP1) hS1 hl
theorem jw_cald (C : Ctx K l cc own Ts rm sh ad) {a q n : Nat} (ha : ad q = a) (hq : sh[q]? = some (.inl (2, n))) {i : Int32} (hin : vp_in i n) (d : decode cc pc = .ok (.caload, 1)) (kk : JW K cs sh ad μ (pc + 1) lv (.int (μ q i.toNatClampNeg) :: rest)) : JW K cs sh ad μ pc lv (.int i :: .ref a :: rest) := fun H locs ls hP hS hl => by subst ha; exact va_cald C.x C.b C.k hP q 2 (wS_at hq) rfl hin d (kk H locs ls hP hS hl)
theorem jw_cast (C : Ctx K l cc own Ts rm sh ad) {a q n : Nat} (ha : ad q = a) (hq : sh[q]? = some (.inl (2, n))) {i x : Int32} (hin : vp_in i n) (d : decode cc pc = .ok (.castore, 1)) (kk : JW K cs sh ad (mset μ q i.toNatClampNeg (vp_nar .char x)) (pc + 1) lv rest) : JW K cs sh ad μ pc lv (.int x :: .int i :: .ref a :: rest) := fun H locs ls hP hS hl => by
  subst ha
  refine va_cast C.x C.b C.k hP (C.d.va _ μ) hS q 2 (wS_at hq) rfl hin d (fun H1 locs1 hP1 _ hS1 => ?_)
  exact kk H1 locs1 ls (by rw [show mset μ q i.toNatClampNeg (vp_nar .char x) = mput μ q (upd (μ q) i.toNatClampNeg (vp_nar .char x)) from rfl, ← wS_put hq]; exact hP1) hS1 hl
theorem jw_lald (C : Ctx K l cc own Ts rm sh ad) {a q n : Nat} (ha : ad q = a) (hq : sh[q]? = some (.inl (4, n))) {i : Int32} (hin : vp_in i n) (d : decode cc pc = .ok (.laload, 1)) (kk : JW K cs sh ad μ (pc + 1) lv (.long (lgF (μ q) i.toNatClampNeg) :: rest)) : JW K cs sh ad μ pc lv (.int i :: .ref a :: rest) := fun H locs ls hP hS hl => by subst ha; exact va_lald C.x C.b C.k hP q 4 (wS_at hq) rfl hin d (kk H locs ls hP hS hl)
theorem jw_last (C : Ctx K l cc own Ts rm sh ad) {a q n : Nat} (ha : ad q = a) (hq : sh[q]? = some (.inl (4, n))) {i : Int32} {x : Int64} (hin : vp_in i n) (d : decode cc pc = .ok (.lastore, 1)) (kk : JW K cs sh ad (mput μ q (lgU (μ q) i.toNatClampNeg x)) (pc + 1) lv rest) : JW K cs sh ad μ pc lv (.long x :: .int i :: .ref a :: rest) := fun H locs ls hP hS hl => by
  subst ha
  refine va_last C.x C.b C.k hP (C.d.va _ μ) hS q 4 (wS_at hq) rfl hin d (fun H1 locs1 hP1 _ hS1 => ?_)
  rw [← lgF_U] at hP1
  exact kk H1 locs1 ls (by rw [← wS_put hq]; exact hP1) hS1 hl
theorem jw_alenD (C : Ctx K l cc own Ts rm sh ad) {a q t n : Nat} (ha : ad q = a) (hq : sh[q]? = some (.inl (t, n))) {ty : FieldType} (ht : (ktys (kT K))[t]? = some (kT K t, ty)) {v : Int32} (hv : Int32.ofNat n = v) (d : decode cc pc = .ok (.arraylength, 1)) (kk : JW K cs sh ad μ (pc + 1) lv (.int v :: rest)) : JW K cs sh ad μ pc lv (.ref a :: rest) := fun H locs ls hP hS hl => by subst ha; exact va_alen C.x C.b C.k hP q t (wS_at hq) ht hv d (kk H locs ls hP hS hl)
theorem jw_alenR (C : Ctx K l cc own Ts rm sh ad) {a q : Nat} {L : List Nat} (ha : ad q = a) (hq : sh[q]? = some (.inr (.inl (3, L)))) {v : Int32} (hv : Int32.ofNat L.length = v) (d : decode cc pc = .ok (.arraylength, 1)) (kk : JW K cs sh ad μ (pc + 1) lv (.int v :: rest)) : JW K cs sh ad μ pc lv (.ref a :: rest) := fun H locs ls hP hS hl => by subst ha; exact va_alen C.x C.b C.k hP q 3 (wS_at hq) rfl hv d (kk H locs ls hP hS hl)
theorem jw_aald (C : Ctx K l cc own Ts rm sh ad) {a q : Nat} {L : List Nat} (ha : ad q = a) (hq : sh[q]? = some (.inr (.inl (3, L)))) {i : Int32} (hin : vp_in i L.length) {j : Nat} (hj : L[i.toNatClampNeg]? = some (j + 1)) (d : decode cc pc = .ok (.aaload, 1)) (kk : JW K cs sh ad μ (pc + 1) lv (.ref (ad j) :: rest)) : JW K cs sh ad μ pc lv (.int i :: .ref a :: rest) := fun H locs ls hP hS hl => by
  subst ha
  refine va_aldq C.x C.b C.k hP q 3 (wS_at hq) rfl hin d ?_
  have e : va_rf (dsR ad L i.toNatClampNeg) = .ref (ad j) := by unfold dsR; rw [hj]; rfl
  rw [e]
  exact kk H locs ls hP hS hl
theorem jw_gets (C : Ctx K l cc own Ts rm sh ad) {n0 : String} {v : Value} {index : Nat} (hZ : va_Z RX2 n0 "[I" v (kA K) (kS K) (kS K).heap) (hlink : Cond.fieldLink own index RX2 n0 "[I" ∈ Ts) (d : decode cc pc = .ok (.getstatic index, 3)) (kk : JW K cs sh ad μ (pc + 3) lv (v :: rest)) : JW K cs sh ad μ pc lv rest := fun H locs ls hP hS hl => va_gets C.x C.b hZ hS C.ow (C.ts _ hlink) (fun _ h => h) d (kk H locs ls hP hS hl)
theorem jw_tlen (C : Ctx K l cc own Ts rm sh ad) {t n : Nat} {f : Nat → Value} (hT : va_T .int t n f (kA K) (kS K) (kS K).heap) {v : Int32} (hv : Int32.ofNat n = v) (d : decode cc pc = .ok (.arraylength, 1)) (kk : JW K cs sh ad μ (pc + 1) lv (.int v :: rest)) : JW K cs sh ad μ pc lv (.ref t :: rest) := fun H locs ls hP hS hl => va_tlen C.x C.b hT hS hv d (kk H locs ls hP hS hl)
theorem jw_tald (C : Ctx K l cc own Ts rm sh ad) {t n : Nat} {f : Nat → Int32} (hT : va_T .int t n (fun j => .int (f j)) (kA K) (kS K) (kS K).heap) {i : Int32} (hin : vp_in i n) (d : decode cc pc = .ok (.iaload, 1)) (kk : JW K cs sh ad μ (pc + 1) lv (.int (f i.toNatClampNeg) :: rest)) : JW K cs sh ad μ pc lv (.int i :: .ref t :: rest) := fun H locs ls hP hS hl => va_ti C.x C.b hT hS hin rfl d (kk H locs ls hP hS hl)
theorem jw_mmax (C : Ctx K l cc own Ts rm sh ad) {index : Nat} {x y : Int32} (hlink : Cond.methodLink own index Lib.Math.max.name ∈ Ts) (hst : Cond.static Lib.Math.max.name ∈ Ts) (hini : Cond.initialized "java/lang/Math" ∈ Ts) (hco : Cond.code Lib.Math.max.name Lib.Math.max.code 2 (some .int) ∈ Ts) (hfr : 1 ≤ rm.frames) (hlo : (rest.map fun v => v.category).sum + 13 ≤ rm.locals) (hcs : cs.1 ≤ rm.cells ∧ cs.2 ≤ rm.slots) (d : decode cc pc = .ok (.invokestatic index, 3)) (kk : JW K cs sh ad μ (pc + 3) lv (.int (if x < y then y else x) :: rest)) : JW K cs sh ad μ pc lv (.int y :: .int x :: rest) := fun H locs ls hP hS hl => va_mmax C.x C.b (C.ml.trans hl.1.symm) C.ow (C.ts _ hlink) (C.ts _ hst) (C.ts _ hini) (C.ts _ hco) (by rw [C.r]; exact hfr) (by rw [C.r]; exact hlo) (by rw [C.r]; exact hcs.1) (by rw [C.r]; exact hcs.2) d (kk H locs ls hP hS hl)
theorem jw_mmin (C : Ctx K l cc own Ts rm sh ad) {index : Nat} {x y : Int32} (hlink : Cond.methodLink own index Lib.Math.min.name ∈ Ts) (hst : Cond.static Lib.Math.min.name ∈ Ts) (hini : Cond.initialized "java/lang/Math" ∈ Ts) (hco : Cond.code Lib.Math.min.name Lib.Math.min.code 2 (some .int) ∈ Ts) (hfr : 1 ≤ rm.frames) (hlo : (rest.map fun v => v.category).sum + 13 ≤ rm.locals) (hcs : cs.1 ≤ rm.cells ∧ cs.2 ≤ rm.slots) (d : decode cc pc = .ok (.invokestatic index, 3)) (kk : JW K cs sh ad μ (pc + 3) lv (.int (if y < x then y else x) :: rest)) : JW K cs sh ad μ pc lv (.int y :: .int x :: rest) := fun H locs ls hP hS hl => va_mmin C.x C.b (C.ml.trans hl.1.symm) C.ow (C.ts _ hlink) (C.ts _ hst) (C.ts _ hini) (C.ts _ hco) (by rw [C.r]; exact hfr) (by rw [C.r]; exact hlo) (by rw [C.r]; exact hcs.1) (by rw [C.r]; exact hcs.2) d (kk H locs ls hP hS hl)
theorem jw_copyi (C : Ctx K l cc own Ts rm sh ad) {index : Nat} {a0 a q0 q1 n0 n1 : Nat} (ha0 : ad q0 = a0) (ha1 : ad q1 = a) (hq0 : sh[q0]? = some (.inl (0, n0))) (hq1 : sh[q1]? = some (.inl (0, n1))) (hlink : Cond.methodLink own index arraycopyName ∈ Ts) (hnat : Cond.native arraycopyName ∈ Ts) (hst : Cond.static arraycopyName ∈ Ts) (hini : Cond.initialized "java/lang/System" ∈ Ts)
    {sp dp n : Int32} (h1 : ¬ sp < 0) (h2 : ¬ dp < 0) (h3 : ¬ n < 0) (h4 : sp.toNatClampNeg + n.toNatClampNeg ≤ n0) (h5 : dp.toNatClampNeg + n.toNatClampNeg ≤ n1) (hfr : 1 ≤ rm.frames) (hlo : (rest.map fun v => v.category).sum + (nativeFrameWords "java/lang/System" "arraycopy" 5 + 11) ≤ rm.locals) (d : decode cc pc = .ok (.invokestatic index, 3))
    (kk : JW K cs sh ad (mput μ q1 (va_cpy (μ q0) (μ q1) sp.toNatClampNeg dp.toNatClampNeg n.toNatClampNeg)) (pc + 3) lv rest) : JW K cs sh ad μ pc lv (.int n :: .int dp :: .ref a :: .int sp :: .ref a0 :: rest) := fun H locs ls hP hS hl => by
  subst ha0
  subst ha1
  refine va_copyi C.x C.b (C.ml.trans hl.1.symm) C.ow (C.ts _ hlink) (C.ts _ hnat) (C.ts _ hst) (C.ts _ hini) C.k hP (C.d.va _ μ) hS q0 q1 0 0 (ty := .int) (wS_at hq0) (wS_at hq1) rfl rfl rfl h1 h2 h3 h4 h5 (fun _ _ => rfl) (by rw [C.r]; exact hfr) (by rw [C.r]; exact hlo) d (fun H1 locs1 hP1 _ hS1 => ?_)
  exact kk H1 locs1 ls (by rw [← wS_put hq1]; exact hP1) hS1 hl
end JWROWS
/-! contracts -/
def wQ (D : va_G) (tc : Nat → ClassId) (sh : List Ds) (ad : Nat → Nat) (A : Nat → Prop) (post : Option Value → Mem → Prop) : Array Value → State → Outcome → State → Prop := fun _ st oc t => (∃ (v : Option Value) (μ' : Mem), oc = .returned v ∧ post v μ' ∧ va_P D vwCl (wS tc sh ad μ') t.heap) ∧ va_F A st t
/-- method y, over the layout sh with the memory μ, at the arguments av: it returns, and post holds of its answer and the new memory -/
def Con (l : Launch) (y : MethodName) (ws : List Cond) (rm : Room) (sh : List Ds) (av : (Nat → Nat) → List Value) (μ : Mem) (post : Option Value → Mem → Prop) : Prop :=
  ∀ (D : va_G) (tc : Nat → ClassId) (ad : Nat → Nat) (sz : Nat), Met l y ws rm (va_Pc (av ad) (fun U => U.heap.size = sz ∧ va_P D vwCl (wS tc sh ad μ) U.heap ∧ va_K D vwCl (ktys tc) U ∧ wD (fun _ => True) sh ad ∧ kSt (wA sh ad sz) U U.heap)) (wQ D tc sh ad (wA sh ad sz) post) 0 0 (wA sh ad sz)
def pI (Q : Int32 → Mem → Prop) : Option Value → Mem → Prop := fun v μ => ∃ r, v = some (.int r) ∧ Q r μ
def pV (Q : Mem → Prop) : Option Value → Mem → Prop := fun v μ => v = none ∧ Q μ
def CtxM (K : KT) (l : Launch) (cc : ByteArray) (own : String) (Ts : List Cond) (rm : Room) (sh : List Ds) (ad : Nat → Nat) (ret : Option FieldType) (post : Option Value → Mem → Prop) : Prop :=
  Ctx K l cc own Ts rm sh ad ∧ (kMe K).sig.returnType = ret ∧ (kMe K).locks = false ∧ kQ K = MQ (kB K) (wQ (kD K) (kT K) sh ad (kA K) post) (kAr K) (kS K) 0 0 (kA K)
theorem Con.mk {l : Launch} {y : MethodName} {ws ws' : List Cond} {rm : Room} {sh : List Ds} {av : (Nat → Nat) → List Value} {μ : Mem} {post : Option Value → Mem → Prop} {cc : ByteArray} {maxL : Nat} {ret : Option FieldType} {own : String} (hy : plainName y.cls = true) (ho : y.cls = own) (hw : ws = Cond.code y cc maxL ret :: ws') (hlen : ∀ ad, (lg_sl (av ad)).length ≤ maxL)
    (body : ∀ (K : KT) (ad : Nat → Nat), kN K = maxL → CtxM K l cc own ws rm sh ad ret post → JW K (0, 0) sh ad μ 0 (lv_args 0 (av ad)) []) : Con l y ws rm sh av μ post := by
  intro D tc ad sz
  refine Met.ofW (cc := cc) (maxL := maxL) (ret := ret) hy hw ?_
  intro p e s m args below meth c s₁ B hml hv
  obtain ⟨rfl, hsz, hP, hK, hD, hSt⟩ := hv
  subst hsz
  have hl := lv_entry (av ad) (n := maxL) (hlen ad)
  rw [lg_entry_eq]
  refine body (p, l, e, rm, s, m, (av ad).toArray, below, meth, c, MQ below (wQ D tc sh ad (wA sh ad s.heap.size) post) (av ad).toArray s 0 0 (wA sh ad s.heap.size), D, tc, wA sh ad s.heap.size, maxL) ad rfl ?_ s.heap [] _ hP va_S.rf hl
  refine ⟨⟨⟨B.exec, B.bytes, hml, by rw [← ho]; exact findClass_of_methodNamed B.named, atoms_spec (ws := ws) B.pre⟩, hK, hD.self, fun q h => Or.inr h, hSt, rfl, rfl⟩, B.returns, B.notSynchronized, rfl⟩
section JRET
variable {K : KT} {l : Launch} {cc : ByteArray} {own : String} {Ts : List Cond} {rm : Room} {sh : List Ds} {ad : Nat → Nat} {μ : Mem} {pc : Nat} {lv : List (Nat × Value)}
theorem jw_iret {Q : Int32 → Mem → Prop} {v : Int32} (C : CtxM K l cc own Ts rm sh ad (some .int) (pI Q)) (h : Q v μ) (d : decode cc pc = .ok (.ireturn, 1)) : JW K (0, 0) sh ad μ pc lv [.int v] := fun H locs ls hP hS hl => by
  rw [C.2.2.2]
  exact W.iret C.1.x C.1.b C.2.1 (fun t ht hW => ⟨⟨some (.int v), μ, rfl, ⟨v, rfl, h⟩, by rw [ht]; exact hP⟩, hS.F ht⟩) hS.2.2 d C.2.2.1
theorem jw_zret {Q : Int32 → Mem → Prop} {v : Int32} {ty : FieldType} (C : CtxM K l cc own Ts rm sh ad (some ty) (pI Q)) (hn : narrow ty (.int v) = .int v) (h : Q v μ) (d : decode cc pc = .ok (.ireturn, 1)) : JW K (0, 0) sh ad μ pc lv [.int v] := fun H locs ls hP hS hl => by
  rw [C.2.2.2]
  exact W.zret C.1.x C.1.b C.2.1 hn (fun t ht hW => ⟨⟨some (.int v), μ, rfl, ⟨v, rfl, h⟩, by rw [ht]; exact hP⟩, hS.F ht⟩) hS.2.2 d C.2.2.1
theorem jw_vret {Q : Mem → Prop} (C : CtxM K l cc own Ts rm sh ad none (pV Q)) (h : Q μ) (d : decode cc pc = .ok (.return_, 1)) : JW K (0, 0) sh ad μ pc lv [] := fun H locs ls hP hS hl => by
  rw [C.2.2.2]
  exact W.vret C.1.x C.1.b C.2.1 (fun t ht hW => ⟨⟨none, μ, rfl, ⟨rfl, h⟩, by rw [ht]; exact hP⟩, hS.F ht⟩) hS.2.2 d C.2.2.1
end JRET
/-! a callee's world as a part of the caller's: its cell j is the caller's cell (i j) -/
def dsM (i : Nat → Nat) (d : Ds) : Ds := match d with
  | .inl x => .inl x
  | .inr (.inl (t, L)) => .inr (.inl (t, L.map fun k => if k = 0 then 0 else i (k - 1) + 1))
  | .inr (.inr (ci, fs)) => .inr (.inr (ci, fs.map fun f => match f with
    | .inl 0 => .inl 0
    | .inl (k + 1) => .inl (i k + 1)
    | .inr j => .inr j))
theorem dsM_E (tc : Nat → ClassId) (ad : Nat → Nat) (f : Nat → Int32) (i : Nat → Nat) (d : Ds) : dsE tc ad f (dsM i d) = dsE tc (fun k => ad (i k)) f d := by
  rcases d with x | ⟨t, L⟩ | ⟨ci, fs⟩
  · rfl
  · simp only [dsM, dsE, List.length_map]
    have e : dsR ad (L.map fun k => if k = 0 then 0 else i (k - 1) + 1) = dsR (fun k => ad (i k)) L := by
      funext j
      unfold dsR
      rw [List.getElem?_map]
      cases L[j]? with
      | none => rfl
      | some k => cases k <;> simp
    rw [e]
  · simp only [dsM, dsE, List.map_map]
    congr 2
    apply List.map_congr_left
    intro x _
    rcases x with x | x
    · cases x <;> rfl
    · rfl
def embB (sh sh' : List Ds) (i : Nat → Nat) : Bool := ((List.range sh'.length).all fun j => decide (sh[i j]? = (sh'[j]?).map (dsM i))) && va_nd ((List.range sh'.length).map i)
theorem embB_at {sh sh' : List Ds} {i : Nat → Nat} (h : embB sh sh' i = true) {j : Nat} (hj : j < sh'.length) : ∃ d, sh'[j]? = some d ∧ sh[i j]? = some (dsM i d) := by
  simp only [embB, Bool.and_eq_true, List.all_eq_true, List.mem_range, decide_eq_true_eq] at h
  have h1 := h.1 j hj
  rw [List.getElem?_eq_getElem hj] at h1 ⊢
  exact ⟨_, rfl, h1⟩
theorem embB_inj {sh sh' : List Ds} {i : Nat → Nat} (h : embB sh sh' i = true) {j k : Nat} (hj : j < sh'.length) (hk : k < sh'.length) (e : i j = i k) : j = k := by
  simp only [embB, Bool.and_eq_true] at h
  refine va_nd_inj _ h.2 j k (i j) ?_ ?_
  · simp [hj]
  · simp [hk, e]
/-- behind a call: the callee's cells from its memory, the others as they were -/
def glue (i : Nat → Nat) (n : Nat) (μ μ' : Mem) : Mem := fun k => match (List.range n).find? (fun j => i j == k) with
  | some j => μ' j
  | none => μ k
theorem glue_in {sh sh' : List Ds} {i : Nat → Nat} {μ μ' : Mem} (h : embB sh sh' i = true) {j : Nat} (hj : j < sh'.length) : glue i sh'.length μ μ' (i j) = μ' j := by
  unfold glue
  cases hf : (List.range sh'.length).find? (fun k => i k == i j) with
  | none =>
    have := List.find?_eq_none.mp hf j (List.mem_range.mpr hj)
    simp at this
  | some k =>
    have h1 := List.find?_some hf
    have h2 := List.mem_range.mp (List.mem_of_find?_eq_some hf)
    rw [embB_inj h h2 hj (by simpa using h1)]
theorem glue_out {i : Nat → Nat} {n : Nat} {μ μ' : Mem} {k : Nat} (h : ∀ j, j < n → i j ≠ k) : glue i n μ μ' k = μ k := by
  unfold glue
  have hf : (List.range n).find? (fun j => i j == k) = none := List.find?_eq_none.mpr (fun j hj => by simpa using h j (List.mem_range.mp hj))
  rw [hf]
section JCALL
variable {K : KT} {l : Launch} {cc : ByteArray} {own : String} {Ts : List Cond} {rm : Room} {sh : List Ds} {ad : Nat → Nat} {cs : Nat × Nat} {μ : Mem} {pc : Nat} {lv : List (Nat × Value)} {rest st0 : List Value}
variable {y : MethodName} {bytes : ByteArray} {maxL n index : Nat} {ret : Option FieldType} {ws : List Cond} {rmY : Room} {sh' : List Ds} {av : (Nat → Nat) → List Value} {post : Option Value → Mem → Prop} {As : List Value}
/-- what a call gives, whatever its kind -/
theorem jw_run {i : Nat → Nat} (C : Ctx K l cc own Ts rm sh ad) (hemb : embB sh sh' i = true)
    (kk : ∀ (v : Option Value) (μ' : Mem), post v μ' → JW K cs sh ad (glue i sh'.length μ μ') (pc + 3) lv (v.toList ++ rest)) {H : Heap} {locs : List Loc} {ls : Array Slot} {a : Array Value} (hP : va_P (kD K) vwCl (wS (kT K) sh ad μ) H) (hS : va_S (kA K) (kS K).heap H locs) (hl : lv_has ls (kN K) lv)
    (hr : va_Run (kP K) (kL K) (kE K) (kR K) (kS K) (kM K) (kAr K) (kB K) (kMe K) (kC K) H locs cs.1 cs.2 0 0 (F0 (kM K) pc ls st0) rest (wQ (kD K) (kT K) sh' (fun k => ad (i k)) (wA sh' (fun k => ad (i k)) H.size) post a) (wA sh' (fun k => ad (i k)) H.size)) :
    W (kP K) (kL K) (kE K) (kR K) (kS K) (kM K) (kAr K) (kB K) (kMe K) (kC K) H locs cs.1 cs.2 (kQ K) (F0 (kM K) pc ls st0) := by
  have hF : ∀ q, wA sh' (fun k => ad (i k)) H.size q → kA K q := by
    intro q hq
    rcases hq with ⟨k, hk, rfl⟩ | hq
    · obtain ⟨d, h1, h2⟩ := embB_at hemb hk
      exact C.d.2 _ (List.getElem?_eq_some_iff.mp h2).1
    · exact C.a q (Nat.le_trans hS.1 hq)
  intro T hT X
  obtain ⟨v, st₀, t, T', L, h0, X', hL, e1, e2, ⟨⟨v', μ', hv, hp, hPt⟩, hz, hk⟩, st⟩ := hr T hT X
  cases hv
  rw [h0] at hz hk
  rw [← e1] at hPt hz hk
  have hP' : va_P (kD K) vwCl (wS (kT K) sh ad (glue i sh'.length μ μ')) T'.heap := by
    intro k q hq
    obtain ⟨d, hd, rfl⟩ := wS_inv hq
    by_cases hi : ∃ j, j < sh'.length ∧ i j = k
    · obtain ⟨j, hj, rfl⟩ := hi
      obtain ⟨d', h1, h2⟩ := embB_at hemb hj
      have e : d = dsM i d' := Option.some.inj (hd.symm.trans h2)
      rw [glue_in hemb hj, e, dsM_E]
      exact hPt j _ (wS_at h1)
    · have hn : ∀ j, j < sh'.length → i j ≠ k := fun j hj e => hi ⟨j, hj, e⟩
      rw [glue_out hn]
      have h1 := hP k _ (wS_at hd)
      refine h1.kept (hk _ h1.lt (fun hq => ?_))
      rcases hq with ⟨j, hj, e⟩ | hq
      · obtain ⟨d', -, h2⟩ := embB_at hemb hj
        exact hn j hj (C.d.1 _ _ (List.getElem?_eq_some_iff.mp h2).1 (List.getElem?_eq_some_iff.mp hd).1 e.symm)
      · exact absurd h1.lt (Nat.not_lt.mpr hq)
  obtain ⟨t2, a1, b1⟩ := kk v μ' hp T'.heap (locs ++ L) ls hP' ⟨Nat.le_trans hS.1 hz, fun q h1 h2 => by rw [hk q (Nat.lt_of_lt_of_le h1 hS.1) (fun z => h2 (hF q z))]; exact hS.2.1 q h1 h2, fun q hq => by
      rcases List.mem_append.mp hq with h | h
      · exact hS.2.2 q h
      · exact hF _ (hL q h)⟩ hl T' rfl X'
  exact ⟨t2, st t2 a1, b1⟩
/-- what a callee asks of the state at the call -/
theorem jw_pre {i : Nat → Nat} (C : Ctx K l cc own Ts rm sh ad) (hemb : embB sh sh' i = true) {H : Heap} {locs : List Loc} (hP : va_P (kD K) vwCl (wS (kT K) sh ad μ) H) (hS : va_S (kA K) (kS K).heap H locs) :
    FrameBlind (va_Pc (av (fun k => ad (i k))) (fun U => U.heap.size = H.size ∧ va_P (kD K) vwCl (wS (kT K) sh' (fun k => ad (i k)) (fun k => μ (i k))) U.heap ∧ va_K (kD K) vwCl (ktys (kT K)) U ∧ wD (fun _ => True) sh' (fun k => ad (i k)) ∧ kSt (wA sh' (fun k => ad (i k)) H.size) U U.heap)) ∧
    ∀ U : State, U.heap = H → (kS K).WarmedH U.vm → va_Pc (av (fun k => ad (i k))) (fun U => U.heap.size = H.size ∧ va_P (kD K) vwCl (wS (kT K) sh' (fun k => ad (i k)) (fun k => μ (i k))) U.heap ∧ va_K (kD K) vwCl (ktys (kT K)) U ∧ wD (fun _ => True) sh' (fun k => ad (i k)) ∧ kSt (wA sh' (fun k => ad (i k)) H.size) U U.heap) (av (fun k => ad (i k))).toArray U := by
  have hF : ∀ q, wA sh' (fun k => ad (i k)) H.size q → kA K q := by
    intro q hq
    rcases hq with ⟨k, hk, rfl⟩ | hq
    · obtain ⟨d, h1, h2⟩ := embB_at hemb hk
      exact C.d.2 _ (List.getElem?_eq_some_iff.mp h2).1
    · exact C.a q (Nat.le_trans hS.1 hq)
  refine ⟨?_, ?_⟩
  · intro a U g mk q
    obtain ⟨q0, q1, qP, qK, qD, qS⟩ := q
    exact ⟨q0, q1, qP, va_K.moved (u := U) (U := U.calling g mk a) (Vm.Alike.refl U.vm) qK, qD, kSt.moved (u := U) (U := U.calling g mk a) (Vm.Alike.refl U.vm) qS⟩
  · intro U hU hW
    refine ⟨rfl, by rw [hU], ?_, C.k.moved hW.alike, ⟨fun a b ha hb e => ?_, fun _ _ => trivial⟩, ?_⟩
    · rw [hU]
      intro k q hq
      obtain ⟨d, hd, rfl⟩ := wS_inv hq
      obtain ⟨d', h1, h2⟩ := embB_at hemb (List.getElem?_eq_some_iff.mp hd).1
      cases h1.symm.trans hd
      have h3 := hP (i k) _ (wS_at h2)
      rw [dsM_E] at h3
      exact h3
    · obtain ⟨d1, -, h1⟩ := embB_at hemb ha
      obtain ⟨d2, -, h2⟩ := embB_at hemb hb
      exact embB_inj hemb ha hb (C.d.1 _ _ (List.getElem?_eq_some_iff.mp h1).1 (List.getElem?_eq_some_iff.mp h2).1 e)
    · rw [hU]
      exact (((C.st.kept hS.2.1).narrow hF).moved hW.alike)
theorem jw_callV {i : Nat → Nat} (C : Ctx K l cc own Ts rm sh ad) (hcon : Con l y ws rmY sh' av (fun k => μ (i k)) post) (hemb : embB sh sh' i = true) {b ci : Nat} {fs : List (Nat ⊕ Nat)} {q : vw_C} (hav : av (fun k => ad (i k)) = .ref (ad b) :: As) (hb : sh[b]? = some (.inr (.inr (ci, fs)))) (hc : vwCl[ci]? = some q)
    (cw : CallW (kR K) (kS K) (kAr K) own q.1 index y bytes maxL ret ws rmY 0 0 n) (hn : As.length = n) (hst : st0 = As.reverse ++ .ref (ad b) :: rest) (hW : (rest.map fun v => v.category).sum ≤ 8) (d : decode cc pc = .ok (.invokevirtual index, 3)) (hcs : cs.1 ≤ rm.cells ∧ cs.2 ≤ rm.slots)
    (kk : ∀ (v : Option Value) (μ' : Mem), post v μ' → JW K cs sh ad (glue i sh'.length μ μ') (pc + 3) lv (v.toList ++ rest)) : JW K cs sh ad μ pc lv st0 := fun H locs ls hP hS hl => by
  have hp := jw_pre (av := av) C hemb hP hS
  have hM := hcon (kD K) (kT K) (fun k => ad (i k)) H.size
  rw [← C.la] at hM
  refine jw_run C hemb kk hP hS hl (va_runV C.1 hM cw ⟨hp.1, va_recv C.k hP hc (wS_at hb), fun U hU hW => ?_⟩ rfl hn hl.1 hst (lv_room hW) d (by rw [C.r]; exact hcs))
  rw [← hav]
  exact hp.2 U hU hW
theorem jw_callS {i : Nat → Nat} (C : Ctx K l cc own Ts rm sh ad) (hcon : Con l y ws rmY sh' av (fun k => μ (i k)) post) (hemb : embB sh sh' i = true) (hav : av (fun k => ad (i k)) = As)
    (cw : CallB (kR K) (kS K) (kAr K) own index y bytes maxL ret ws rmY 0 0 n ∧ (Cond.static y).before (kAr K) (kS K) = true) (hn : As.length = n) (hst : st0 = As.reverse ++ rest) (hW : (rest.map fun v => v.category).sum ≤ 8) (d : decode cc pc = .ok (.invokestatic index, 3)) (hcs : cs.1 ≤ rm.cells ∧ cs.2 ≤ rm.slots)
    (kk : ∀ (v : Option Value) (μ' : Mem), post v μ' → JW K cs sh ad (glue i sh'.length μ μ') (pc + 3) lv (v.toList ++ rest)) : JW K cs sh ad μ pc lv st0 := fun H locs ls hP hS hl => by
  have hp := jw_pre (av := av) C hemb hP hS
  have hM := hcon (kD K) (kT K) (fun k => ad (i k)) H.size
  rw [← C.la] at hM
  refine jw_run C hemb kk hP hS hl (va_runS C.1 hM cw ⟨hp.1, fun U hU hW => ?_⟩ rfl hn hl.1 hst (lv_room hW) d (by rw [C.r]; exact hcs))
  rw [← hav]
  exact hp.2 U hU hW
end JCALL

/-! the calls as the generator uses them -/
def MI (y : MethodName) (ws : List Cond) (bytes : ByteArray) (maxL : Nat) (ret : Option FieldType) (n : Nat) : Prop :=
  (∃ ws', ws = Cond.code y bytes maxL ret :: ws') ∧ y.cls ≠ "java/lang/invoke/MethodHandle" ∧ y.cls ≠ "java/lang/invoke/VarHandle" ∧ (parseMethodDescriptor y.desc).map (fun d => d.parameters.length) = some n
theorem JW.congr {K : KT} {cs : Nat × Nat} {sh : List Ds} {ad : Nat → Nat} {μ μ' : Mem} {pc : Nat} {lv : List (Nat × Value)} {st : List Value} (h : ∀ k, k < sh.length → μ k = μ' k) (k : JW K cs sh ad μ pc lv st) : JW K cs sh ad μ' pc lv st := fun H locs ls hP hS hl => by
  refine k H locs ls ?_ hS hl
  have e : wS (kT K) sh ad μ = wS (kT K) sh ad μ' := by
    apply List.ext_getElem?
    intro i
    rw [wS_get, wS_get]
    cases hi : sh[i]? with
    | none => rfl
    | some d => simp only [Option.map_some]; rw [h i (List.getElem?_eq_some_iff.mp hi).1]
  rw [e]
  exact hP
theorem glue_0 (i : Nat → Nat) (μ μ' : Mem) : glue i 0 μ μ' = μ := by
  funext k
  exact glue_out (fun j hj => absurd hj (Nat.not_lt_zero j))
theorem glue_id {sh : List Ds} (h : embB sh sh (fun k => k) = true) (μ μ' : Mem) : ∀ k, k < sh.length → glue (fun k => k) sh.length μ μ' k = μ' k := fun _ hk => glue_in (i := fun k => k) h hk
section JCALL2
variable {K : KT} {l : Launch} {cc : ByteArray} {own : String} {Ts : List Cond} {rm : Room} {sh : List Ds} {ad : Nat → Nat} {cs : Nat × Nat} {μ : Mem} {pc : Nat} {lv : List (Nat × Value)} {rest st0 : List Value}
variable {y : MethodName} {bytes : ByteArray} {maxL n index : Nat} {ret : Option FieldType} {ws : List Cond} {rmY : Room} {sh' : List Ds} {av : (Nat → Nat) → List Value} {As : List Value}
theorem MI.V {C0 : String} (C : Ctx K l cc own Ts rm sh ad) (hM : MI y ws bytes maxL ret n) (hG : GoodIn Ts (wsV own index C0 y ws)) (hC : y.cls = C0) (hR : rmY.cells = 0 ∧ rmY.slots = 0 ∧ rmY.frames + 1 ≤ rm.frames ∧ 8 + (maxL + 11) + rmY.locals ≤ rm.locals) : CallW (kR K) (kS K) (kAr K) own C0 index y bytes maxL ret ws rmY 0 0 n := by
  obtain ⟨⟨ws', hw⟩, h1, h2, h3⟩ := hM
  exact cwV n C.ts hG hw hR.1 hR.2.1 ⟨hC, h1, h2, h3⟩ (by rw [C.r]; exact hR.2.2)
theorem MI.S (C : Ctx K l cc own Ts rm sh ad) (hM : MI y ws bytes maxL ret n) (hG : GoodIn Ts (va_wsS own index y ws)) (hR : rmY.cells = 0 ∧ rmY.slots = 0 ∧ rmY.frames + 1 ≤ rm.frames ∧ 8 + (maxL + 11) + rmY.locals ≤ rm.locals) : CallB (kR K) (kS K) (kAr K) own index y bytes maxL ret ws rmY 0 0 n ∧ (Cond.static y).before (kAr K) (kS K) = true := by
  obtain ⟨⟨ws', hw⟩, h1, h2, h3⟩ := hM
  exact va_cwS n C.ts hG hw hR.1 hR.2.1 ⟨h1, h2, h3⟩ (by rw [C.r]; exact hR.2.2)
theorem jw_cVI {Q : Int32 → Mem → Prop} (C : Ctx K l cc own Ts rm sh ad) {b ci : Nat} {fs : List (Nat ⊕ Nat)} {q : vw_C} (d : decode cc pc = .ok (.invokevirtual index, 3)) (hemb : embB sh sh (fun k => k) = true) (hcon : Con l y ws rmY sh av μ (pI Q)) (hM : MI y ws bytes maxL ret n) (hb : sh[b]? = some (.inr (.inr (ci, fs)))) (hc : vwCl[ci]? = some q) (hG : GoodIn Ts (wsV own index q.1 y ws)) (hC : y.cls = q.1) (hR : rmY.cells = 0 ∧ rmY.slots = 0 ∧ rmY.frames + 1 ≤ rm.frames ∧ 8 + (maxL + 11) + rmY.locals ≤ rm.locals) (hav : av ad = .ref (ad b) :: As) (hn : As.length = n) (hst : st0 = As.reverse ++ .ref (ad b) :: rest) (hW : (rest.map fun v => v.category).sum ≤ 8) (hcs : cs.1 ≤ rm.cells ∧ cs.2 ≤ rm.slots)
    (kk : ∀ (r : Int32) (μ' : Mem), Q r μ' → JW K cs sh ad μ' (pc + 3) lv (.int r :: rest)) : JW K cs sh ad μ pc lv st0 := jw_callV (i := fun k => k) C hcon hemb hav hb hc (hM.V C hG hC hR) hn hst hW d hcs (fun v μ' h => by obtain ⟨r, rfl, hQ⟩ := h; exact JW.congr (fun k hk => (glue_id hemb μ μ' k hk).symm) (kk r μ' hQ))
theorem jw_cVV {Q : Mem → Prop} (C : Ctx K l cc own Ts rm sh ad) {b ci : Nat} {fs : List (Nat ⊕ Nat)} {q : vw_C} (d : decode cc pc = .ok (.invokevirtual index, 3)) (hemb : embB sh sh (fun k => k) = true) (hcon : Con l y ws rmY sh av μ (pV Q)) (hM : MI y ws bytes maxL ret n) (hb : sh[b]? = some (.inr (.inr (ci, fs)))) (hc : vwCl[ci]? = some q) (hG : GoodIn Ts (wsV own index q.1 y ws)) (hC : y.cls = q.1) (hR : rmY.cells = 0 ∧ rmY.slots = 0 ∧ rmY.frames + 1 ≤ rm.frames ∧ 8 + (maxL + 11) + rmY.locals ≤ rm.locals) (hav : av ad = .ref (ad b) :: As) (hn : As.length = n) (hst : st0 = As.reverse ++ .ref (ad b) :: rest) (hW : (rest.map fun v => v.category).sum ≤ 8) (hcs : cs.1 ≤ rm.cells ∧ cs.2 ≤ rm.slots)
    (kk : ∀ (μ' : Mem), Q μ' → JW K cs sh ad μ' (pc + 3) lv rest) : JW K cs sh ad μ pc lv st0 := jw_callV (i := fun k => k) C hcon hemb hav hb hc (hM.V C hG hC hR) hn hst hW d hcs (fun v μ' h => by obtain ⟨rfl, hQ⟩ := h; exact JW.congr (fun k hk => (glue_id hemb μ μ' k hk).symm) (kk μ' hQ))
theorem jw_gVI {Q : Int32 → Mem → Prop} (C : Ctx K l cc own Ts rm sh ad) {b ci : Nat} {fs : List (Nat ⊕ Nat)} {q : vw_C} (d : decode cc pc = .ok (.invokevirtual index, 3)) (i : Nat → Nat) (hemb : embB sh sh' i = true) (hcon : Con l y ws rmY sh' av (fun k => μ (i k)) (pI Q)) (hM : MI y ws bytes maxL ret n) (hb : sh[b]? = some (.inr (.inr (ci, fs)))) (hc : vwCl[ci]? = some q) (hG : GoodIn Ts (wsV own index q.1 y ws)) (hC : y.cls = q.1) (hR : rmY.cells = 0 ∧ rmY.slots = 0 ∧ rmY.frames + 1 ≤ rm.frames ∧ 8 + (maxL + 11) + rmY.locals ≤ rm.locals) (hav : av (fun k => ad (i k)) = .ref (ad b) :: As) (hn : As.length = n) (hst : st0 = As.reverse ++ .ref (ad b) :: rest) (hW : (rest.map fun v => v.category).sum ≤ 8) (hcs : cs.1 ≤ rm.cells ∧ cs.2 ≤ rm.slots)
    (kk : ∀ (r : Int32) (μ' : Mem), Q r μ' → JW K cs sh ad (glue i sh'.length μ μ') (pc + 3) lv (.int r :: rest)) : JW K cs sh ad μ pc lv st0 := jw_callV (i := i) C hcon hemb hav hb hc (hM.V C hG hC hR) hn hst hW d hcs (fun v μ' h => by obtain ⟨r, rfl, hQ⟩ := h; exact kk r μ' hQ)
theorem jw_gVV {Q : Mem → Prop} (C : Ctx K l cc own Ts rm sh ad) {b ci : Nat} {fs : List (Nat ⊕ Nat)} {q : vw_C} (d : decode cc pc = .ok (.invokevirtual index, 3)) (i : Nat → Nat) (hemb : embB sh sh' i = true) (hcon : Con l y ws rmY sh' av (fun k => μ (i k)) (pV Q)) (hM : MI y ws bytes maxL ret n) (hb : sh[b]? = some (.inr (.inr (ci, fs)))) (hc : vwCl[ci]? = some q) (hG : GoodIn Ts (wsV own index q.1 y ws)) (hC : y.cls = q.1) (hR : rmY.cells = 0 ∧ rmY.slots = 0 ∧ rmY.frames + 1 ≤ rm.frames ∧ 8 + (maxL + 11) + rmY.locals ≤ rm.locals) (hav : av (fun k => ad (i k)) = .ref (ad b) :: As) (hn : As.length = n) (hst : st0 = As.reverse ++ .ref (ad b) :: rest) (hW : (rest.map fun v => v.category).sum ≤ 8) (hcs : cs.1 ≤ rm.cells ∧ cs.2 ≤ rm.slots)
    (kk : ∀ (μ' : Mem), Q μ' → JW K cs sh ad (glue i sh'.length μ μ') (pc + 3) lv rest) : JW K cs sh ad μ pc lv st0 := jw_callV (i := i) C hcon hemb hav hb hc (hM.V C hG hC hR) hn hst hW d hcs (fun v μ' h => by obtain ⟨rfl, hQ⟩ := h; exact kk μ' hQ)
theorem jw_eSI {Q : Int32 → Prop} (C : Ctx K l cc own Ts rm sh ad) (d : decode cc pc = .ok (.invokestatic index, 3))  (hcon : Con l y ws rmY [] av μ (pI (fun r _ => Q r))) (hM : MI y ws bytes maxL ret n) (hG : GoodIn Ts (va_wsS own index y ws)) (hR : rmY.cells = 0 ∧ rmY.slots = 0 ∧ rmY.frames + 1 ≤ rm.frames ∧ 8 + (maxL + 11) + rmY.locals ≤ rm.locals) (hav : av ad = As) (hn : As.length = n) (hst : st0 = As.reverse ++ rest) (hW : (rest.map fun v => v.category).sum ≤ 8) (hcs : cs.1 ≤ rm.cells ∧ cs.2 ≤ rm.slots)
    (kk : ∀ (r : Int32), Q r → JW K cs sh ad μ (pc + 3) lv (.int r :: rest)) : JW K cs sh ad μ pc lv st0 := jw_callS (i := fun k => k) C hcon rfl hav (hM.S C hG hR) hn hst hW d hcs (fun v μ' h => by obtain ⟨r, rfl, hQ⟩ := h; exact (by rw [show ([] : List Ds).length = 0 from rfl, glue_0]; exact kk r hQ))
theorem jw_gSI {Q : Int32 → Mem → Prop} (C : Ctx K l cc own Ts rm sh ad) (d : decode cc pc = .ok (.invokestatic index, 3)) (i : Nat → Nat) (hemb : embB sh sh' i = true) (hcon : Con l y ws rmY sh' av (fun k => μ (i k)) (pI Q)) (hM : MI y ws bytes maxL ret n) (hG : GoodIn Ts (va_wsS own index y ws)) (hR : rmY.cells = 0 ∧ rmY.slots = 0 ∧ rmY.frames + 1 ≤ rm.frames ∧ 8 + (maxL + 11) + rmY.locals ≤ rm.locals) (hav : av (fun k => ad (i k)) = As) (hn : As.length = n) (hst : st0 = As.reverse ++ rest) (hW : (rest.map fun v => v.category).sum ≤ 8) (hcs : cs.1 ≤ rm.cells ∧ cs.2 ≤ rm.slots)
    (kk : ∀ (r : Int32) (μ' : Mem), Q r μ' → JW K cs sh ad (glue i sh'.length μ μ') (pc + 3) lv (.int r :: rest)) : JW K cs sh ad μ pc lv st0 := jw_callS (i := i) C hcon hemb hav (hM.S C hG hR) hn hst hW d hcs (fun v μ' h => by obtain ⟨r, rfl, hQ⟩ := h; exact kk r μ' hQ)
theorem jw_gSV {Q : Mem → Prop} (C : Ctx K l cc own Ts rm sh ad) (d : decode cc pc = .ok (.invokestatic index, 3)) (i : Nat → Nat) (hemb : embB sh sh' i = true) (hcon : Con l y ws rmY sh' av (fun k => μ (i k)) (pV Q)) (hM : MI y ws bytes maxL ret n) (hG : GoodIn Ts (va_wsS own index y ws)) (hR : rmY.cells = 0 ∧ rmY.slots = 0 ∧ rmY.frames + 1 ≤ rm.frames ∧ 8 + (maxL + 11) + rmY.locals ≤ rm.locals) (hav : av (fun k => ad (i k)) = As) (hn : As.length = n) (hst : st0 = As.reverse ++ rest) (hW : (rest.map fun v => v.category).sum ≤ 8) (hcs : cs.1 ≤ rm.cells ∧ cs.2 ≤ rm.slots)
    (kk : ∀ (μ' : Mem), Q μ' → JW K cs sh ad (glue i sh'.length μ μ') (pc + 3) lv rest) : JW K cs sh ad μ pc lv st0 := jw_callS (i := i) C hcon hemb hav (hM.S C hG hR) hn hst hW d hcs (fun v μ' h => by obtain ⟨rfl, hQ⟩ := h; exact kk μ' hQ)
end JCALL2
theorem nar_z {v : Int32} (h : v = 0 ∨ v = 1) : narrow .boolean (.int v) = .int v := by rcases h with rfl | rfl <;> rfl
