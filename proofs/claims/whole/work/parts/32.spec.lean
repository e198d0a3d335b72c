/-! what a state of the system is, in numbers and lists; what the calls answer -/
/-- nodes, handles, kind, one, two, number, part length, noted, leaves, height, lists (8 n + key), changes, order of keys -/
abbrev Sg : Type := Nat × (Nat → Option Nat) × (Nat → Nat) × (Nat → Nat) × (Nat → Nat) × (Nat → Int32) × (Nat → Nat) × (Nat → Nat) × (Nat → Nat) × (Nat → Nat) × (Nat → List Int32) × (Nat → Nat) × (Nat → List Nat)
def sN (σ : Sg) : Nat := σ.1
def sH (σ : Sg) : Nat → Option Nat := σ.2.1
def sK (σ : Sg) : Nat → Nat := σ.2.2.1
def sO (σ : Sg) : Nat → Nat := σ.2.2.2.1
def sT (σ : Sg) : Nat → Nat := σ.2.2.2.2.1
def sV (σ : Sg) : Nat → Int32 := σ.2.2.2.2.2.1
def sP (σ : Sg) : Nat → Nat := σ.2.2.2.2.2.2.1
def sD (σ : Sg) : Nat → Nat := σ.2.2.2.2.2.2.2.1
def sL (σ : Sg) : Nat → Nat := σ.2.2.2.2.2.2.2.2.1
def sG (σ : Sg) : Nat → Nat := σ.2.2.2.2.2.2.2.2.2.1
def sS (σ : Sg) : Nat → List Int32 := σ.2.2.2.2.2.2.2.2.2.2.1
def sC (σ : Sg) : Nat → Nat := σ.2.2.2.2.2.2.2.2.2.2.2.1
def sR (σ : Sg) : Nat → List Nat := σ.2.2.2.2.2.2.2.2.2.2.2.2
/-- a place in a base (START), a key -/
def sB (σ : Sg) (n : Nat) : Nat := (sV σ n).toNatClampNeg
def kBased (k : Nat) : Bool := decide (3 ≤ k ∧ k ≤ 5)
def kRow (k : Nat) : Bool := decide (k < 6 ∨ k = 7)
def kOne (k : Nat) : Bool := decide (3 ≤ k ∧ k ≠ 6)
def kTwo (k : Nat) : Bool := decide (9 ≤ k)
def kLst (k : Nat) : Bool := decide (k < 3)
/-- once: at the end, if it isn't there -/
def addOnce (acc : List Int32) (v : Int32) : List Int32 := if v ∈ acc then acc else acc ++ [v]
def combA (k : Nat) (B : List Int32) (acc : List Int32) (v : Int32) : List Int32 := if k = 9 ∨ (v ∈ B ↔ k = 10) then addOnce acc v else acc
def comb (k : Nat) (A B : List Int32) : List Int32 := if k = 9 then B.foldl addOnce (A.foldl (combA k B) []) else A.foldl (combA k B) []
/-- the ELEMENTS of a node of kind κ out of those of what lies below -/
def ElB (σ : Sg) (κ n : Nat) (A B : List Int32) : List Int32 := match κ with
  | 0 => sS σ (8 * n)
  | 1 => sS σ (8 * n)
  | 2 => sS σ (8 * n)
  | 3 => A.reverse
  | 4 => (A.drop (sB σ n)).take (sP σ n)
  | 5 => A.map (· + sV σ n)
  | 6 => (sR σ n).flatMap (fun k => sS σ (8 * n + k))
  | 7 => sS σ (8 * sO σ n + sB σ n)
  | 8 => (sR σ (sO σ n)).map nI
  | k => comb k A B
def ElF (σ : Sg) : Nat → Nat → List Int32
  | 0, _ => []
  | f + 1, n => ElB σ (sK σ n) n (ElF σ f (sO σ n)) (ElF σ f (sT σ n))
theorem ElB_A {σ : Sg} {κ n : Nat} {A A' B : List Int32} (h : kOne κ = false) : ElB σ κ n A B = ElB σ κ n A' B := by
  have h1 : κ = 0 ∨ κ = 1 ∨ κ = 2 ∨ κ = 6 := by simp [kOne] at h; omega
  rcases h1 with rfl | rfl | rfl | rfl <;> rfl
theorem ElB_B {σ : Sg} {κ n : Nat} {A B B' : List Int32} (h : kTwo κ = false) : ElB σ κ n A B = ElB σ κ n A B' := by
  have h1 : κ = 0 ∨ κ = 1 ∨ κ = 2 ∨ κ = 3 ∨ κ = 4 ∨ κ = 5 ∨ κ = 6 ∨ κ = 7 ∨ κ = 8 := by simp [kTwo] at h; omega
  rcases h1 with rfl | rfl | rfl | rfl | rfl | rfl | rfl | rfl | rfl <;> rfl
def El (σ : Sg) (n : Nat) : List Int32 := ElF σ (n + 1) n
/-- the leaf of a row -/
def lfF (σ : Sg) : Nat → Nat → Nat
  | 0, n => n
  | f + 1, n => if kBased (sK σ n) = true then lfF σ f (sO σ n) else n
def lf (σ : Sg) (n : Nat) : Nat := lfF σ (n + 1) n
/-- the list of a row -/
def lo (σ : Sg) (n : Nat) : Option Nat := if sK σ (lf σ n) = 0 then some (8 * lf σ n) else if sK σ (lf σ n) = 7 then some (8 * sO σ (lf σ n) + sB σ (lf σ n)) else none
def ch (σ : Sg) (n : Nat) : Nat := match lo σ n with
  | some l => sC σ l
  | none => 0
/-- the node itself is a PART whose base has changed -/
def lst1 (σ : Sg) (n : Nat) : Bool := decide (sK σ n = 4 ∧ sD σ n ≠ ch σ (sO σ n))
def staleF (σ : Sg) : Nat → Nat → Bool
  | 0, _ => false
  | f + 1, n => lst1 σ n || (kOne (sK σ n) && staleF σ f (sO σ n)) || (kTwo (sK σ n) && staleF σ f (sT σ n))
def stale (σ : Sg) (n : Nat) : Bool := staleF σ (n + 1) n
/-- a node of the row of another, itself or below -/
def rcF (σ : Sg) : Nat → Nat → Nat → Bool
  | 0, _, _ => false
  | f + 1, n, k => decide (k = n) || (kOne (sK σ n) && rcF σ f (sO σ n) k) || (kTwo (sK σ n) && rcF σ f (sT σ n) k)
def rc (σ : Sg) (n k : Nat) : Bool := rcF σ (n + 1) n k
/-- what holds in every state; T bounds the changes -/
def WF (T : Nat) (σ : Sg) : Prop := sN σ ≤ 40 ∧ T < 1000000 ∧ (∀ h n, h < 10 → sH σ h = some n → n < sN σ) ∧
  (∀ n, n < sN σ → sK σ n < 12 ∧ (kOne (sK σ n) = true → sO σ n < n) ∧ (kTwo (sK σ n) = true → sT σ n < n) ∧ (kBased (sK σ n) = true → kRow (sK σ (sO σ n)) = true) ∧ (sK σ n = 7 ∨ sK σ n = 8 → sK σ (sO σ n) = 6) ∧
    (sK σ n = 7 → sV σ n = nI (sB σ n) ∧ sB σ n < 8) ∧ (sK σ n = 4 → sV σ n = nI (sB σ n) ∧ sB σ n ≤ 72 ∧ sP σ n ≤ 72 ∧ sD σ n ≤ ch σ (sO σ n) ∧ (stale σ n = false → sB σ n + sP σ n ≤ (El σ (sO σ n)).length)) ∧
    1 ≤ sL σ n ∧ sL σ n ≤ 3 ∧ 1 ≤ sG σ n ∧ sG σ n ≤ 6 ∧ (kBased (sK σ n) = true → sL σ n = sL σ (sO σ n) ∧ sG σ n = sG σ (sO σ n) + 1) ∧
    (kTwo (sK σ n) = true → sL σ n = sL σ (sO σ n) + sL σ (sT σ n) ∧ sG σ n = max (sG σ (sO σ n)) (sG σ (sT σ n)) + 1) ∧ (kBased (sK σ n) = false → kTwo (sK σ n) = false → sL σ n = 1 ∧ sG σ n = 1) ∧
    (sK σ n = 0 → (sS σ (8 * n)).length ≤ 16) ∧ (sK σ n = 1 ∨ sK σ n = 2 → (sS σ (8 * n)).length ≤ 24) ∧
    (sK σ n = 6 → ((sR σ n).flatMap (fun k => sS σ (8 * n + k))).length ≤ 24 ∧ (sR σ n).Nodup ∧ ∀ k, k ∈ sR σ n ↔ k < 8 ∧ sS σ (8 * n + k) ≠ [])) ∧
  (∀ l, sC σ l ≤ T) ∧ (∀ l, (sS σ l).length ≤ 24) ∧ (∀ n, (sR σ n).length ≤ 8) ∧ (∀ n, sN σ ≤ n → sR σ n = [] ∧ ∀ k, k < 8 → sS σ (8 * n + k) = [] ∧ sC σ (8 * n + k) = 0)
/-- what stands below comes before -/
def WS (σ : Sg) : Prop := ∀ n, n < sN σ → sK σ n < 12 ∧ (kOne (sK σ n) = true → sO σ n < n) ∧ (kTwo (sK σ n) = true → sT σ n < n)
theorem WF.ws {T : Nat} {σ : Sg} (h : WF T σ) : WS σ := fun n hn => ⟨(h.2.2.2.1 n hn).1, (h.2.2.2.1 n hn).2.1, (h.2.2.2.1 n hn).2.2.1⟩
section SP
variable {σ : Sg} {T : Nat}
theorem ElF_irr (hW : WS σ) : ∀ (f f' n : Nat), n < sN σ → n < f → n < f' → ElF σ f n = ElF σ f' n := by
  intro f
  induction f with
  | zero => intro f' n _ h; omega
  | succ f ih =>
    intro f' n hn h1 h2
    cases f' with
    | zero => omega
    | succ f' =>
      obtain ⟨h12, ho, ht⟩ := hW n hn
      unfold ElF
      have e1 : ∀ B, ElB σ (sK σ n) n (ElF σ f (sO σ n)) B = ElB σ (sK σ n) n (ElF σ f' (sO σ n)) B := by
        intro B
        cases z : kOne (sK σ n) with
        | false => exact ElB_A z
        | true => rw [ih f' _ (by have := ho z; omega) (by have := ho z; omega) (by have := ho z; omega)]
      have e2 : ∀ A, ElB σ (sK σ n) n A (ElF σ f (sT σ n)) = ElB σ (sK σ n) n A (ElF σ f' (sT σ n)) := by
        intro A
        cases z : kTwo (sK σ n) with
        | false => exact ElB_B z
        | true => rw [ih f' _ (by have := ht z; omega) (by have := ht z; omega) (by have := ht z; omega)]
      rw [e1, e2]
theorem El_at' (hW : WS σ) {n : Nat} (hn : n < sN σ) : El σ n = ElB σ (sK σ n) n (El σ (sO σ n)) (El σ (sT σ n)) := by
  obtain ⟨h12, ho, ht⟩ := hW n hn
  have e1 : ∀ B, ElB σ (sK σ n) n (ElF σ n (sO σ n)) B = ElB σ (sK σ n) n (El σ (sO σ n)) B := by
    intro B
    cases z : kOne (sK σ n) with
    | false => exact ElB_A z
    | true => rw [ElF_irr hW n (sO σ n + 1) _ (by have := ho z; omega) (ho z) (Nat.lt_succ_self _)]; rfl
  have e2 : ∀ A, ElB σ (sK σ n) n A (ElF σ n (sT σ n)) = ElB σ (sK σ n) n A (El σ (sT σ n)) := by
    intro A
    cases z : kTwo (sK σ n) with
    | false => exact ElB_B z
    | true => rw [ElF_irr hW n (sT σ n + 1) _ (by have := ht z; omega) (ht z) (Nat.lt_succ_self _)]; rfl
  show ElF σ (n + 1) n = _
  unfold ElF
  rw [e1, e2]
theorem lfF_irr (hW : WS σ) : ∀ (f f' n : Nat), n < sN σ → n < f → n < f' → lfF σ f n = lfF σ f' n := by
  intro f
  induction f with
  | zero => intro f' n _ h; omega
  | succ f ih =>
    intro f' n hn h1 h2
    cases f' with
    | zero => omega
    | succ f' =>
      obtain ⟨h12, ho, ht⟩ := hW n hn
      unfold lfF
      split
      · rename_i hk
        have h3 := ho (by simp [kBased] at hk; simp [kOne]; omega)
        exact ih f' _ (by omega) (by omega) (by omega)
      · rfl
theorem lf_at' (hW : WS σ) {n : Nat} (hn : n < sN σ) : lf σ n = if kBased (sK σ n) = true then lf σ (sO σ n) else n := by
  obtain ⟨h12, ho, ht⟩ := hW n hn
  show lfF σ (n + 1) n = _
  unfold lfF
  split
  · rename_i hk
    have h3 := ho (by simp [kBased] at hk; simp [kOne]; omega)
    exact lfF_irr hW _ _ _ (by omega) h3 (Nat.lt_succ_self _)
  · rfl
theorem stF_irr (hW : WS σ) : ∀ (f f' n : Nat), n < sN σ → n < f → n < f' → staleF σ f n = staleF σ f' n := by
  intro f
  induction f with
  | zero => intro f' n _ h; omega
  | succ f ih =>
    intro f' n hn h1 h2
    cases f' with
    | zero => omega
    | succ f' =>
      obtain ⟨h12, ho, ht⟩ := hW n hn
      unfold staleF
      have e1 : (kOne (sK σ n) && staleF σ f (sO σ n)) = (kOne (sK σ n) && staleF σ f' (sO σ n)) := by
        cases z : kOne (sK σ n) with
        | false => rfl
        | true => rw [ih f' _ (by have := ho z; omega) (by have := ho z; omega) (by have := ho z; omega)]
      have e2 : (kTwo (sK σ n) && staleF σ f (sT σ n)) = (kTwo (sK σ n) && staleF σ f' (sT σ n)) := by
        cases z : kTwo (sK σ n) with
        | false => rfl
        | true => rw [ih f' _ (by have := ht z; omega) (by have := ht z; omega) (by have := ht z; omega)]
      rw [e1, e2]
theorem stale_at' (hW : WS σ) {n : Nat} (hn : n < sN σ) : stale σ n = (lst1 σ n || (kOne (sK σ n) && stale σ (sO σ n)) || (kTwo (sK σ n) && stale σ (sT σ n))) := by
  obtain ⟨h12, ho, ht⟩ := hW n hn
  show staleF σ (n + 1) n = _
  unfold staleF
  have e1 : (kOne (sK σ n) && staleF σ n (sO σ n)) = (kOne (sK σ n) && stale σ (sO σ n)) := by
    cases z : kOne (sK σ n) with
    | false => rfl
    | true => rw [stF_irr hW n (sO σ n + 1) _ (by have := ho z; omega) (ho z) (Nat.lt_succ_self _)]; rfl
  have e2 : (kTwo (sK σ n) && staleF σ n (sT σ n)) = (kTwo (sK σ n) && stale σ (sT σ n)) := by
    cases z : kTwo (sK σ n) with
    | false => rfl
    | true => rw [stF_irr hW n (sT σ n + 1) _ (by have := ht z; omega) (ht z) (Nat.lt_succ_self _)]; rfl
  rw [e1, e2]
theorem rcF_irr (hW : WS σ) (k : Nat) : ∀ (f f' n : Nat), n < sN σ → n < f → n < f' → rcF σ f n k = rcF σ f' n k := by
  intro f
  induction f with
  | zero => intro f' n _ h; omega
  | succ f ih =>
    intro f' n hn h1 h2
    cases f' with
    | zero => omega
    | succ f' =>
      obtain ⟨h12, ho, ht⟩ := hW n hn
      unfold rcF
      have e1 : (kOne (sK σ n) && rcF σ f (sO σ n) k) = (kOne (sK σ n) && rcF σ f' (sO σ n) k) := by
        cases z : kOne (sK σ n) with
        | false => rfl
        | true => rw [ih f' _ (by have := ho z; omega) (by have := ho z; omega) (by have := ho z; omega)]
      have e2 : (kTwo (sK σ n) && rcF σ f (sT σ n) k) = (kTwo (sK σ n) && rcF σ f' (sT σ n) k) := by
        cases z : kTwo (sK σ n) with
        | false => rfl
        | true => rw [ih f' _ (by have := ht z; omega) (by have := ht z; omega) (by have := ht z; omega)]
      rw [e1, e2]
theorem rc_at' (hW : WS σ) {n : Nat} (hn : n < sN σ) (k : Nat) : rc σ n k = (decide (k = n) || (kOne (sK σ n) && rc σ (sO σ n) k) || (kTwo (sK σ n) && rc σ (sT σ n) k)) := by
  obtain ⟨h12, ho, ht⟩ := hW n hn
  show rcF σ (n + 1) n k = _
  unfold rcF
  have e1 : (kOne (sK σ n) && rcF σ n (sO σ n) k) = (kOne (sK σ n) && rc σ (sO σ n) k) := by
    cases z : kOne (sK σ n) with
    | false => rfl
    | true => rw [rcF_irr hW k n (sO σ n + 1) _ (by have := ho z; omega) (ho z) (Nat.lt_succ_self _)]; rfl
  have e2 : (kTwo (sK σ n) && rcF σ n (sT σ n) k) = (kTwo (sK σ n) && rc σ (sT σ n) k) := by
    cases z : kTwo (sK σ n) with
    | false => rfl
    | true => rw [rcF_irr hW k n (sT σ n + 1) _ (by have := ht z; omega) (ht z) (Nat.lt_succ_self _)]; rfl
  rw [e1, e2]
theorem El_at (hW : WF T σ) {n : Nat} (hn : n < sN σ) : El σ n = ElB σ (sK σ n) n (El σ (sO σ n)) (El σ (sT σ n)) := El_at' hW.ws hn
theorem lf_at (hW : WF T σ) {n : Nat} (hn : n < sN σ) : lf σ n = if kBased (sK σ n) = true then lf σ (sO σ n) else n := lf_at' hW.ws hn
theorem stale_at (hW : WF T σ) {n : Nat} (hn : n < sN σ) : stale σ n = (lst1 σ n || (kOne (sK σ n) && stale σ (sO σ n)) || (kTwo (sK σ n) && stale σ (sT σ n))) := stale_at' hW.ws hn
theorem rc_at (hW : WF T σ) {n : Nat} (hn : n < sN σ) (k : Nat) : rc σ n k = (decide (k = n) || (kOne (sK σ n) && rc σ (sO σ n) k) || (kTwo (sK σ n) && rc σ (sT σ n) k)) := rc_at' hW.ws hn k
end SP
