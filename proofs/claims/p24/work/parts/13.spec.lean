/-! THE TREE, as the document tells it, in plain numbers -/
/-- a stone: kind, first key, last key, number -/
abbrev Stn : Type := Nat × Nat × Nat × Nat
abbrev sK (s : Stn) : Nat := s.1
abbrev sF (s : Stn) : Nat := s.2.1
abbrev sL (s : Stn) : Nat := s.2.2.1
abbrev sN (s : Stn) : Nat := s.2.2.2
def s0 : Stn := (0, 0, 0, 0)
def sOk (s : Stn) : Prop := sK s < 3 ∧ sF s ≤ sL s ∧ sL s < 27 ∧ sN s < 1000
/-- it has one of the keys lo to hi -/
def tou (lo hi : Nat) (s : Stn) : Bool := decide (sF s ≤ hi) && decide (lo ≤ sL s)
/-- the part of it that has keys lo to hi -/
def prt (lo hi : Nat) (s : Stn) : Stn := (sK s, max (sF s) lo, min (sL s) hi, sN s)
def lft (lo hi : Nat) (s : Stn) : List Stn := (if sF s < lo then [prt 0 (lo - 1) s] else []) ++ (if hi < sL s then [prt (hi + 1) 26 s] else [])
/-- what is left of a buffer, and what goes down -/
def rst (lo hi : Nat) (b : List Stn) : List Stn := b.flatMap fun s => if tou lo hi s = true then lft lo hi s else [s]
def gon (lo hi : Nat) (b : List Stn) : List Stn := (b.filter (tou lo hi)).map (prt lo hi)
def apl (s : Stn) (v : Option Nat) : Option Nat := if sK s = 0 then some (sN s) else if sK s = 1 then v.map (fun x => (x + sN s) % 1000) else none
/-- the last of the first n places with a stone that has the key -/
def lw (b : List Stn) (k : Nat) : Nat → Option Nat
  | 0 => none
  | n + 1 => if tou k k (b.getD n s0) = true then some n else lw b k n
def wmo (o : Stn) (m : Nat) : Stn := if sK o = 2 then o else (sK o, sF o, sL o, (sN o + m) % 1000)
/-- the buffer, if the new stone becomes one with an earlier one -/
def joi (b : List Stn) (s : Stn) : Option (List Stn) :=
  if sF s = sL s then match lw b (sF s) b.length with
    | some i => if sF (b.getD i s0) = sL (b.getD i s0) then some (if sK s = 1 then b.set i (wmo (b.getD i s0) (sN s)) else b.eraseIdx i ++ [s]) else none
    | none => none
  else none
/-- a node: its buffer, how often a child got stones, the stones that it sent down, those that became one -/
abbrev NS : Type := List Stn × Int32 × Int32 × Int32
def putN (d : Nat) (x : NS) (s : Stn) : NS := if d = 1 then match joi x.1 s with
    | some b => (b, x.2.1, x.2.2.1, x.2.2.2 + 1)
    | none => (x.1 ++ [s], x.2)
  else (x.1 ++ [s], x.2)
/-- the shape: a node's first key, the keys of each child, its child -/
def kc (n : Nat) : Nat := if n = 0 then 9 else if n < 4 then 3 else 1
def fk (n : Nat) : Nat := if n = 0 then 0 else if n < 4 then 9 * (n - 1) else 3 * (n - 4)
def clo (n c : Nat) : Nat := fk n + kc n * c
def chi (n c : Nat) : Nat := clo n c + kc n - 1
def lk (n : Nat) : Nat := fk n + 3 * kc n - 1
def chN (n c : Nat) : Nat := 3 * n + 1 + c
def wgt (lo hi : Nat) (b : List Stn) : Nat := (b.filter (tou lo hi)).length
def wg (n c : Nat) (b : List Stn) : Nat := wgt (clo n c) (chi n c) b
def heav (n : Nat) (b : List Stn) : Nat := if wg n (if wg n 0 b < wg n 1 b then 1 else 0) b < wg n 2 b then 2 else if wg n 0 b < wg n 1 b then 1 else 0
def takeN (n c : Nat) (x : NS) : NS := (rst (clo n c) (chi n c) x.1, x.2.1 + (if gon (clo n c) (chi n c) x.1 = [] then 0 else 1), x.2.2.1 + nI (gon (clo n c) (chi n c) x.1).length, x.2.2.2)
/-- all nodes, the leaves, the stones that were applied -/
abbrev WT : Type := (Nat → NS) × (Nat → Option Nat) × Int32
def up {α : Type} (f : Nat → α) (k : Nat) (v : α) : Nat → α := fun j => if j = k then v else f j
def setN (n : Nat) (x : NS) (w : WT) : WT := (up w.1 n x, w.2)
def lfA (key : Nat) (s : Stn) (w : WT) : WT := (w.1, up w.2.1 key (apl s (w.2.1 key)), w.2.2 + 1)
def sinkG (n c : Nat) (ch : Stn → WT → WT) (w : WT) : WT := (gon (clo n c) (chi n c) (w.1 n).1).foldl (fun w s => ch s w) (setN n (takeN n c (w.1 n)) w)
def roundsG (B n : Nat) (sink : Nat → WT → WT) : Nat → WT → WT
  | 0, w => w
  | k + 1, w => if B < (w.1 n).1.length then roundsG B n sink k (sink (heav n (w.1 n).1) w) else w
def comeG (B d n : Nat) (sink : Nat → WT → WT) (s : Stn) (w : WT) : WT := roundsG B n sink 3 (setN n (putN d (w.1 n) s) w)
def sinkL (n c : Nat) : WT → WT := sinkG n c (lfA (clo n c))
def comeL (B d n : Nat) : Stn → WT → WT := comeG B d n (sinkL n)
def sinkM (B d n c : Nat) : WT → WT := sinkG n c (comeL B d (chN n c))
def comeM (B d n : Nat) : Stn → WT → WT := comeG B d n (sinkM B d n)
def sinkR (B d c : Nat) : WT → WT := sinkG 0 c (comeM B d (chN 0 c))
def comeR (B d : Nat) : Stn → WT → WT := comeG B d 0 (sinkR B d)
def sinkN (B d n c : Nat) : WT → WT := if n = 0 then sinkR B d c else if n < 4 then sinkM B d n c else sinkL n c
def empN (B d n : Nat) (w : WT) : WT := sinkN B d n 2 (sinkN B d n 1 (sinkN B d n 0 w))
/-- a key read through a buffer; through its three nodes -/
def thr (b : List Stn) (k : Nat) (v : Option Nat) : Option Nat := b.foldl (fun v s => if tou k k s = true then apl s v else v) v
def lowN (k : Nat) : Nat := 4 + k / 3
def midN (k : Nat) : Nat := 1 + k / 9
def rdK (w : WT) (k : Nat) : Option Nat := thr (w.1 0).1 k (thr (w.1 (midN k)).1 k (thr (w.1 (lowN k)).1 k (w.2.1 k)))
/-- sums over the 13 nodes -/
def sumN (f : Nat → Int32) : Nat → Int32
  | 0 => 0
  | n + 1 => sumN f n + f n
def allSt (w : WT) : Int32 := sumN (fun n => nI (w.1 n).1.length) 13
def allSk (w : WT) : Int32 := sumN (fun n => (w.1 n).2.2.1) 13
/-! plain facts -/
theorem up_same {α : Type} (f : Nat → α) (k : Nat) (v : α) : up f k v k = v := by simp [up]
theorem up_ne {α : Type} (f : Nat → α) {k j : Nat} (v : α) (h : j ≠ k) : up f k v j = f j := by simp [up, h]
theorem up_up {α : Type} (f : Nat → α) (k : Nat) (v u : α) : up (up f k v) k u = up f k u := by
  funext j
  by_cases h : j = k <;> simp [up, h]
theorem up_comm {α : Type} (f : Nat → α) {k j : Nat} (h : k ≠ j) (v u : α) : up (up f k v) j u = up (up f j u) k v := by
  funext i
  by_cases h1 : i = k
  · subst h1
    simp [up, h]
  · by_cases h2 : i = j
    · subst h2; simp [up, h1]
    · simp [up, h1, h2]
theorem up_self {α : Type} (f : Nat → α) (k : Nat) : up f k (f k) = f := by
  funext j
  by_cases h : j = k
  · subst h; simp [up]
  · simp [up, h]
/-- f leaves node n alone: it may be set before or behind -/
def Comm (n : Nat) (f : WT → WT) : Prop := ∀ (x : NS) (w : WT), f (setN n x w) = setN n x (f w)
theorem setN_at (n : Nat) (x : NS) (w : WT) : (setN n x w).1 n = x := up_same _ _ _
theorem setN_ne {n m : Nat} (x : NS) (w : WT) (h : m ≠ n) : (setN n x w).1 m = w.1 m := up_ne _ _ h
theorem setN_setN (n : Nat) (x y : NS) (w : WT) : setN n y (setN n x w) = setN n y w := by
  unfold setN
  rw [up_up]
theorem setN_self (n : Nat) (w : WT) : setN n (w.1 n) w = w := by
  unfold setN
  rw [up_self]
theorem setN_comm {n m : Nat} (h : n ≠ m) (x y : NS) (w : WT) : setN m y (setN n x w) = setN n x (setN m y w) := by
  unfold setN
  rw [up_comm _ h]
theorem Comm.at {n : Nat} {f : WT → WT} (h : Comm n f) (w : WT) : (f w).1 n = w.1 n := by
  have h1 := h (w.1 n) w
  rw [setN_self] at h1
  rw [h1, setN_at]
theorem comm_foldl {n : Nat} {ch : Stn → WT → WT} (h : ∀ s, Comm n (ch s)) : ∀ g : List Stn, Comm n (fun w => g.foldl (fun w s => ch s w) w)
  | [] => fun _ _ => rfl
  | s :: g => fun x w => by
    show g.foldl (fun w s => ch s w) (ch s (setN n x w)) = setN n x (g.foldl (fun w s => ch s w) (ch s w))
    rw [h s x w]
    exact comm_foldl h g x (ch s w)
theorem comm_sinkG {n m c : Nat} {ch : Stn → WT → WT} (hnm : m ≠ n) (h : ∀ s, Comm n (ch s)) : Comm n (sinkG m c ch) := by
  intro x w
  unfold sinkG
  rw [setN_ne x w hnm, setN_comm (Ne.symm hnm)]
  exact comm_foldl h _ x _
theorem comm_roundsG {n m B : Nat} {sink : Nat → WT → WT} (hnm : m ≠ n) (h : ∀ c, Comm n (sink c)) : ∀ k, Comm n (roundsG B m sink k)
  | 0 => fun _ _ => rfl
  | k + 1 => fun x w => by
    unfold roundsG
    rw [setN_ne x w hnm]
    by_cases hB : B < (w.1 m).1.length
    · rw [if_pos hB, if_pos hB, h _ x w]
      exact comm_roundsG hnm h k x _
    · rw [if_neg hB, if_neg hB]
theorem comm_comeG {n m B d : Nat} {sink : Nat → WT → WT} (hnm : m ≠ n) (h : ∀ c, Comm n (sink c)) (s : Stn) : Comm n (comeG B d m sink s) := by
  intro x w
  unfold comeG
  rw [setN_ne x w hnm, setN_comm (Ne.symm hnm)]
  exact comm_roundsG hnm h 3 x _
theorem comm_lfA (n key : Nat) (s : Stn) : Comm n (lfA key s) := fun _ _ => rfl
theorem comm_sinkL {n m : Nat} (hnm : m ≠ n) (c : Nat) : Comm n (sinkL m c) := comm_sinkG hnm (fun s => comm_lfA n _ s)
theorem comm_comeL {n m B d : Nat} (hnm : m ≠ n) (s : Stn) : Comm n (comeL B d m s) := comm_comeG hnm (fun c => comm_sinkL hnm c) s
theorem comm_sinkM {n m B d : Nat} (hnm : m ≠ n) (hch : ∀ c, c < 3 → chN m c ≠ n) {c : Nat} (hc : c < 3) : Comm n (sinkM B d m c) := comm_sinkG hnm (fun s => comm_comeL (hch c hc) s)
theorem heav_lt (n : Nat) (b : List Stn) : heav n b < 3 := by
  unfold heav
  by_cases h : wg n 0 b < wg n 1 b
  · rw [if_pos h]; split <;> omega
  · rw [if_neg h]; split <;> omega
