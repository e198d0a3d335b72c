/-! small rows for the pure side -/
def b2i (b : Bool) : Int32 := if b = true then nI 1 else nI 0
theorem mm_k_none : mm_k none = none := rfl
theorem mm_k_int (x : Int32) : mm_k (some (.int x)) = some (.int x) := rfl
theorem mm_k_ref (x : Nat) : mm_k (some (.ref x)) = some (.ref x) := rfl
theorem mm_k_null : mm_k (some .null) = some .null := rfl
theorem mm_K_inl {f : Option Value → mm_M → Prop} {g : Nat → mm_M → Prop} {v : Option Value} {M : mm_M} : mm_K f g (.inl v) M = f v M := rfl
theorem mm_K_inr {f : Option Value → mm_M → Prop} {g : Nat → mm_M → Prop} {x : Nat} {M : mm_M} : mm_K f g (.inr x) M = g x M := rfl
theorem mm_tl_some {v : Value} {r : List Value} : (some v).toList ++ r = v :: r := rfl
theorem mm_tl_none {r : List Value} : (none : Option Value).toList ++ r = r := rfl
theorem mm_fg_ok {c j : Nat} {fs : List Value} {K : Value → Prop} : mm_fg (some (.inr (c, fs))) c j K = (match fs[j]? with
    | some v => K v
    | none => False) := by
  simp [mm_fg]
  rfl
theorem mm_rc_ok {c : Nat} {fs : List Value} : mm_rc (some (.inr (c, fs))) c = True := by simp [mm_rc]
theorem mm_fp_ok {c j : Nat} {v : Value} {fs : List Value} {K : mm_O → Prop} : mm_fp (some (.inr (c, fs))) c j v K = (j < fs.length ∧ K (.inr (c, fs.set j v))) := by simp [mm_fp]
theorem mm_ai_ok {X : Nat × Nat × (Nat → Int32)} {a n : Nat} {f : Nat → Int32} {j : Int32} {K : Int32 → Prop} : mm_ai X a (some (.inl (0, n, .inl f))) j K = (mm_in j n ∧ K (f j.toNatClampNeg)) := rfl
theorem mm_si_ok {n : Nat} {f : Nat → Int32} {j x : Int32} {K : mm_O → Prop} : mm_si (some (.inl (0, n, .inl f))) j x K = (mm_in j n ∧ K (.inl (0, n, .inl (upd f j.toNatClampNeg x)))) := rfl
theorem mm_az_ok {n : Nat} {f : Nat → Int32} {j : Int32} {K : Int32 → Prop} : mm_az (some (.inl (1, n, .inl f))) j K = (mm_in j n ∧ K (f j.toNatClampNeg)) := rfl
theorem mm_sz_ok {n : Nat} {f : Nat → Int32} {j x : Int32} {K : mm_O → Prop} : mm_sz (some (.inl (1, n, .inl f))) j x K = (mm_in j n ∧ K (.inl (1, n, .inl (upd f j.toNatClampNeg (vp_nar .boolean x))))) := rfl
theorem mm_in_nI {n N : Nat} (hn : n < 2147483648) : mm_in (nI n) N ↔ n < N := by
  unfold mm_in
  rw [nI_clamp hn]
  constructor
  · intro h
    exact Nat.lt_of_not_le fun z => h (Or.inr z)
  · intro h z
    rcases z with z | z
    · exact nI_pos hn z
    · omega
theorem mm_cl_nI {n : Nat} (hn : n < 2147483648) : (nI n).toNatClampNeg = n := nI_clamp hn
theorem mm_bool {b : Bool} : b2i b = 0 ∨ b2i b = 1 := by cases b <;> simp [b2i] <;> decide
theorem mm_set_at {M : mm_M} {a : Nat} {o : mm_O} : (mm_set M a o).2.2 a = some o := by simp [mm_set]
theorem mm_set_ne {M : mm_M} {a q : Nat} {o : mm_O} (h : q ≠ a) : (mm_set M a o).2.2 q = M.2.2 q := by simp [mm_set, h]
theorem nI_lt0 {n : Nat} (hn : n < 2147483648) : (nI n < nI 0) = False := by simpa using nI_nlt (Nat.zero_le n) hn
theorem z01 : (nI 0 = 0 ∨ nI 0 = 1) = True := by decide
theorem z11 : (nI 1 = 0 ∨ nI 1 = 1) = True := by decide
theorem zb {b : Bool} : (b2i b = 0 ∨ b2i b = 1) = True := by cases b <;> decide
theorem b2i_t : b2i true = nI 1 := rfl
theorem b2i_f : b2i false = nI 0 := rfl
theorem b2i_ne {b : Bool} : (b2i b = nI 0) ↔ b = false := by cases b <;> decide
