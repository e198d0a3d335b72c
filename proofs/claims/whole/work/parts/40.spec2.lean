/-! what the calls answer: code, answer, the state afterwards -/
def ud {α : Type} (f : Nat → α) (i : Nat) (v : α) : Nat → α := fun j => if j = i then v else f j
theorem ud_at {α : Type} {f : Nat → α} {i : Nat} {v : α} : ud f i v i = v := if_pos rfl
theorem ud_ne {α : Type} {f : Nat → α} {i j : Nat} {v : α} (h : j ≠ i) : ud f i v j = f j := if_neg h
theorem ud_upd {f : Nat → Int32} {i : Nat} {v : Int32} : upd f i v = ud f i v := rfl
def ndo (σ : Sg) (h : Int32) : Option Nat := if h < nI 0 ∨ ¬ h < nI 10 then none else sH σ h.toNatClampNeg
def bad (to : Int32) : Bool := decide (to < nI 0 ∨ ¬ to < nI 10)
/-- a node more, in the hand at `to` -/
def addN (σ : Sg) (to k a b : Nat) (v : Int32) (p dd l g : Nat) (L : List Int32) : Sg :=
  (sN σ + 1, ud (sH σ) to (some (sN σ)), ud (sK σ) (sN σ) k, ud (sO σ) (sN σ) a, ud (sT σ) (sN σ) b, ud (sV σ) (sN σ) v, ud (sP σ) (sN σ) p, ud (sD σ) (sN σ) dd, ud (sL σ) (sN σ) l, ud (sG σ) (sN σ) g, ud (sS σ) (8 * sN σ) L, sC σ, sR σ)
abbrev Out : Type := Nat × Int32 × Sg
def bade (σ : Sg) (c : Nat) : Out := (c, nI 0, σ)
/-- a new node: refused where there is no room -/
def crt (σ : Sg) (to k a b : Nat) (v : Int32) (p dd l g : Nat) (L : List Int32) : Out :=
  if sN σ = 40 ∨ 3 < l ∨ 6 < g then bade σ 2 else (0, nI (sN σ + 1), addN σ to k a b v p dd l g L)
def sp_make (σ : Sg) (to kind : Int32) : Out :=
  if bad to = true ∨ ¬ (kind = nI 0 ∨ kind = nI 6) then bade σ 1 else crt σ to.toNatClampNeg kind.toNatClampNeg 0 0 (nI 0) 0 0 1 1 []
/-- those that stand first, in rising order -/
def ins1 (v : Int32) : List Int32 → List Int32
  | [] => [v]
  | x :: xs => if x < v then x :: ins1 v xs else if x = v then x :: xs else v :: x :: xs
def srt (L : List Int32) : List Int32 := L.foldl (fun acc v => ins1 v acc) []
def cpl (kind : Int32) (L : List Int32) : List Int32 := if kind = nI 1 then L else srt L
def sp_copy (σ : Sg) (to kind node : Int32) : Out := match ndo σ node with
  | none => bade σ 1
  | some n => if bad to = true ∨ ¬ (kind = nI 1 ∨ kind = nI 2) then bade σ 1 else if stale σ n = true then bade σ 2 else
    if 24 < (cpl kind (El σ n)).length then bade σ 2 else crt σ to.toNatClampNeg kind.toNatClampNeg 0 0 (nI 0) 0 0 1 1 (cpl kind (El σ n))
def sp_over (σ : Sg) (to node : Int32) (k : Nat) (v : Int32) : Out := match ndo σ node with
  | none => bade σ 1
  | some n => if bad to = true ∨ kRow (sK σ n) = false then bade σ 1 else if stale σ n = true then bade σ 2 else crt σ to.toNatClampNeg k n 0 v 0 0 (sL σ n) (sG σ n + 1) []
def sp_part (σ : Sg) (to node start end_ : Int32) : Out := match ndo σ node with
  | none => bade σ 1
  | some n => if bad to = true ∨ kRow (sK σ n) = false then bade σ 1 else if stale σ n = true then bade σ 2 else
    if start < nI 0 ∨ end_ < start ∨ ¬ end_ ≤ nI (El σ n).length then bade σ 3 else
    crt σ to.toNatClampNeg 4 n 0 start (end_.toNatClampNeg - start.toNatClampNeg) (ch σ n) (sL σ n) (sG σ n + 1) []
def sp_ofMap (σ : Sg) (to node key : Int32) : Out := match ndo σ node with
  | none => bade σ 1
  | some n => if bad to = true ∨ sK σ n ≠ 6 ∨ key < nI 0 ∨ ¬ key < nI 9 then bade σ 1 else
    crt σ to.toNatClampNeg (if key = nI 8 then 8 else 7) n 0 key 0 0 1 1 []
def sp_combine (σ : Sg) (to kind one other : Int32) : Out := match ndo σ one, ndo σ other with
  | some a, some b => if bad to = true ∨ kind < nI 9 ∨ ¬ kind ≤ nI 11 then bade σ 1 else if stale σ a = true ∨ stale σ b = true then bade σ 2 else
    crt σ to.toNatClampNeg kind.toNatClampNeg a b (nI 0) 0 0 (sL σ a + sL σ b) (max (sG σ a) (sG σ b) + 1) []
  | _, _ => bade σ 1
def setH (σ : Sg) (to : Nat) (o : Option Nat) : Sg := (sN σ, ud (sH σ) to o, sK σ, sO σ, sT σ, sV σ, sP σ, sD σ, sL σ, sG σ, sS σ, sC σ, sR σ)
def sp_hold (σ : Sg) (to src : Int32) : Out :=
  if bad to = true ∨ src < -1 ∨ ¬ src ≤ nI 9 then bade σ 1 else match ndo σ src with
    | none => (0, -1, setH σ to.toNatClampNeg none)
    | some n => (0, nI (sK σ n), setH σ to.toNatClampNeg (some n))
def sp_size (σ : Sg) (node : Int32) : Out := match ndo σ node with
  | none => bade σ 1
  | some n => if stale σ n = true then bade σ 2 else (0, nI (El σ n).length, σ)
def sp_at (σ : Sg) (node i : Int32) : Out := match ndo σ node with
  | none => bade σ 1
  | some n => if stale σ n = true then bade σ 2 else if i < nI 0 ∨ ¬ i < nI (El σ n).length then bade σ 3 else (0, (El σ n).getD i.toNatClampNeg 0, σ)
def sp_find (σ : Sg) (node v : Int32) : Out := match ndo σ node with
  | none => bade σ 1
  | some n => if stale σ n = true then bade σ 2 else match fst1 v (El σ n) with
    | none => bade σ 3
    | some k => (0, nI k, σ)
def sp_alike (σ : Sg) (one other : Int32) : Out := match ndo σ one, ndo σ other with
  | some a, some b => if stale σ a = true ∨ stale σ b = true then bade σ 2 else (0, b2i (decide (El σ a = El σ b)), σ)
  | _, _ => bade σ 1
def sp_about (σ : Sg) (node what : Int32) : Out := match ndo σ node with
  | none => bade σ 1
  | some n => if what < nI 0 ∨ ¬ what < nI 5 ∨ (what = nI 3 ∧ kRow (sK σ n) = false) then bade σ 1 else
    (0, if what = nI 0 then nI (sK σ n) else if what = nI 1 then nI (sL σ n) else if what = nI 2 then nI (sG σ n) else if what = nI 3 then nI (ch σ n) else b2i (stale σ n), σ)
/-- whether all down from a row can be written (w = 0 insert, 1 take, 2 put) -/
def supF (σ : Sg) (w : Nat) : Nat → Nat → Bool
  | 0, _ => false
  | f + 1, n => if kBased (sK σ n) = true then (if sK σ n = 5 ∧ w ≠ 1 then false else supF σ w f (sO σ n)) else decide (sK σ n = 0 ∨ sK σ n = 7 ∨ (w = 1 ∧ (sK σ n = 6 ∨ sK σ n = 8)))
def sup (σ : Sg) (w n : Nat) : Bool := supF σ w (n + 1) n
/-- the place in the leaf -/
def dnF (σ : Sg) (ins : Bool) : Nat → Nat → Nat → Nat
  | 0, _, i => i
  | f + 1, n, i => if sK σ n = 3 then dnF σ ins f (sO σ n) ((El σ (sO σ n)).length - i - (if ins = true then 0 else 1)) else if sK σ n = 4 then dnF σ ins f (sO σ n) (i + sB σ n) else if sK σ n = 5 then dnF σ ins f (sO σ n) i else i
def dn (σ : Sg) (ins : Bool) (n i : Nat) : Nat := dnF σ ins (n + 1) n i
/-- k lies on the way down from n -/
def onF (σ : Sg) : Nat → Nat → Nat → Bool
  | 0, _, _ => false
  | f + 1, n, k => decide (k = n) || (kBased (sK σ n) && onF σ f (sO σ n) k)
def onP (σ : Sg) (n k : Nat) : Bool := onF σ (n + 1) n k
def ordR (R : List Nat) (key : Nat) (L : List Int32) : List Nat := if L = [] then R.erase key else if key ∈ R then R else R ++ [key]
/-- the list l is L now, by one change -/
def setL (σ : Sg) (l : Nat) (L : List Int32) (c : Nat) : Sg :=
  (sN σ, sH σ, sK σ, sO σ, sT σ, sV σ, sP σ, sD σ, sL σ, sG σ, ud (sS σ) l L, ud (sC σ) l (sC σ l + c), if sK σ (l / 8) = 6 then ud (sR σ) (l / 8) (ordR (sR σ (l / 8)) (l % 8) L) else sR σ)
/-- the PARTs on the way down from n have noted it -/
def noteP (σ : Sg) (n : Nat) (up : Bool) : Sg :=
  (sN σ, sH σ, sK σ, sO σ, sT σ, sV σ, fun k => if onP σ n k = true ∧ sK σ k = 4 then (if up = true then sP σ k + 1 else sP σ k - 1) else sP σ k, fun k => if onP σ n k = true ∧ sK σ k = 4 then ch σ (sO σ k) else sD σ k, sL σ, sG σ, sS σ, sC σ, sR σ)
def fulB (σ : Sg) (l : Nat) : Bool := if sK σ (l / 8) = 0 then decide ((sS σ l).length = 16) else decide (((sR σ (l / 8)).flatMap (fun k => sS σ (8 * (l / 8) + k))).length = 24)
def insAt (L : List Int32) (i : Nat) (v : Int32) : List Int32 := L.take i ++ v :: L.drop i
def delAt (L : List Int32) (i : Nat) : List Int32 := L.take i ++ L.drop (i + 1)
def setAt (L : List Int32) (i : Nat) (v : Int32) : List Int32 := L.take i ++ v :: L.drop (i + 1)
def sp_putIn (σ : Sg) (n i : Nat) (v : Int32) : Out := match lo σ n with
  | none => bade σ 3
  | some l => if fulB σ l = true then bade σ 3 else (0, nI ((El σ n).length + 1), noteP (setL σ l (insAt (sS σ l) (dn σ true n i) v) 1) n true)
def sp_add (σ : Sg) (node v : Int32) : Out := match ndo σ node with
  | none => bade σ 1
  | some n => if sup σ 0 n = false then bade σ 2 else if stale σ n = true then bade σ 3 else sp_putIn σ n (El σ n).length v
def sp_insert (σ : Sg) (node i v : Int32) : Out := match ndo σ node with
  | none => bade σ 1
  | some n => if sup σ 0 n = false then bade σ 2 else if stale σ n = true then bade σ 3 else if i < nI 0 ∨ ¬ i ≤ nI (El σ n).length then bade σ 4 else sp_putIn σ n i.toNatClampNeg v
def setS (σ : Sg) (l : Nat) (L : List Int32) : Sg := (sN σ, sH σ, sK σ, sO σ, sT σ, sV σ, sP σ, sD σ, sL σ, sG σ, ud (sS σ) l L, sC σ, sR σ)
def sp_put (σ : Sg) (node i v : Int32) : Out := match ndo σ node with
  | none => bade σ 1
  | some n => if sup σ 2 n = false then bade σ 2 else if stale σ n = true then bade σ 3 else if i < nI 0 ∨ ¬ i < nI (El σ n).length then bade σ 4 else
    match lo σ n with
    | none => bade σ 4
    | some l => (0, (El σ n).getD i.toNatClampNeg 0, setS σ l (setAt (sS σ l) (dn σ false n i.toNatClampNeg) v))
/-- the place i among the lists of a map: which key, which place there -/
def whr (σ : Sg) (x : Nat) : List Nat → Nat → Nat × Nat
  | [], i => (0, i)
  | k :: ks, i => if i < (sS σ (8 * x + k)).length then (k, i) else whr σ x ks (i - (sS σ (8 * x + k)).length)
def tkAt (σ : Sg) (n i : Nat) : Sg :=
  if sK σ (lf σ n) = 6 then setL σ (8 * lf σ n + (whr σ (lf σ n) (sR σ (lf σ n)) i).1) (delAt (sS σ (8 * lf σ n + (whr σ (lf σ n) (sR σ (lf σ n)) i).1)) (whr σ (lf σ n) (sR σ (lf σ n)) i).2) 1
  else if sK σ (lf σ n) = 8 then setL σ (8 * sO σ (lf σ n) + (sR σ (sO σ (lf σ n))).getD i 0) [] (sS σ (8 * sO σ (lf σ n) + (sR σ (sO σ (lf σ n))).getD i 0)).length
  else match lo σ n with
    | none => σ
    | some l => noteP (setL σ l (delAt (sS σ l) (dn σ false n i)) 1) n false
def sp_take (σ : Sg) (node i : Int32) : Out := match ndo σ node with
  | none => bade σ 1
  | some n => if sup σ 1 n = false then bade σ 2 else if stale σ n = true then bade σ 3 else if i < nI 0 ∨ ¬ i < nI (El σ n).length then bade σ 4 else (0, (El σ n).getD i.toNatClampNeg 0, tkAt σ n i.toNatClampNeg)
def sp_remove (σ : Sg) (node v : Int32) : Out := match ndo σ node with
  | none => bade σ 1
  | some n => if sup σ 1 n = false then bade σ 2 else if stale σ n = true then bade σ 3 else match fst1 v (El σ n) with
    | none => bade σ 4
    | some i => (0, nI i, tkAt σ n i)
