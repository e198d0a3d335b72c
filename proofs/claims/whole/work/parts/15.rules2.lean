/-! rewriting rules of the abstract machine: memory, calls, ends -/
def mm_in (j : Int32) (n : Nat) : Prop := ¬ (j < 0 ∨ n ≤ j.toNatClampNeg)
def mm_fg (o : Option mm_O) (ci j : Nat) (K : Value → Prop) : Prop := match o with
  | some (.inr (c, fs)) => c = ci ∧ (match fs[j]? with
    | some v => K v
    | none => False)
  | _ => False
def mm_fp (o : Option mm_O) (ci j : Nat) (v : Value) (K : mm_O → Prop) : Prop := match o with
  | some (.inr (c, fs)) => c = ci ∧ j < fs.length ∧ K (.inr (c, fs.set j v))
  | _ => False
def mm_ai (X : Nat × Nat × (Nat → Int32)) (a : Nat) (o : Option mm_O) (j : Int32) (K : Int32 → Prop) : Prop := match o with
  | some (.inl (0, n, .inl f)) => mm_in j n ∧ K (f j.toNatClampNeg)
  | some _ => False
  | none => a = X.1 ∧ mm_in j X.2.1 ∧ K (X.2.2 j.toNatClampNeg)
def mm_az (o : Option mm_O) (j : Int32) (K : Int32 → Prop) : Prop := match o with
  | some (.inl (1, n, .inl f)) => mm_in j n ∧ K (f j.toNatClampNeg)
  | _ => False
def mm_aa (o : Option mm_O) (j : Int32) (K : Option Nat → Prop) : Prop := match o with
  | some (.inl (2, n, .inr (.inr (.inr (.inr f))))) => mm_in j n ∧ K (f j.toNatClampNeg)
  | _ => False
def mm_al (o : Option mm_O) (j : Int32) (K : Int64 → Prop) : Prop := match o with
  | some (.inl (3, n, .inr (.inl f))) => mm_in j n ∧ K (f j.toNatClampNeg)
  | _ => False
def mm_ad (o : Option mm_O) (j : Int32) (K : UInt64 → Prop) : Prop := match o with
  | some (.inl (4, n, .inr (.inr (.inr (.inl f))))) => mm_in j n ∧ K (f j.toNatClampNeg)
  | _ => False
def mm_si (o : Option mm_O) (j x : Int32) (K : mm_O → Prop) : Prop := match o with
  | some (.inl (0, n, .inl f)) => mm_in j n ∧ K (.inl (0, n, .inl (upd f j.toNatClampNeg x)))
  | _ => False
def mm_sz (o : Option mm_O) (j x : Int32) (K : mm_O → Prop) : Prop := match o with
  | some (.inl (1, n, .inl f)) => mm_in j n ∧ K (.inl (1, n, .inl (upd f j.toNatClampNeg (vp_nar .boolean x))))
  | _ => False
def mm_sl (o : Option mm_O) (j : Int32) (x : Int64) (K : mm_O → Prop) : Prop := match o with
  | some (.inl (3, n, .inr (.inl f))) => mm_in j n ∧ K (.inl (3, n, .inr (.inl (vp_updL f j.toNatClampNeg x))))
  | _ => False
def mm_sd (o : Option mm_O) (j : Int32) (x : UInt64) (K : mm_O → Prop) : Prop := match o with
  | some (.inl (4, n, .inr (.inr (.inr (.inl f))))) => mm_in j n ∧ K (.inl (4, n, .inr (.inr (.inr (.inl (vf_upd f j.toNatClampNeg x))))))
  | _ => False
def mm_sa (o : Option mm_O) (ov : Option mm_O) (j : Int32) (v : Nat) (K : mm_O → Prop) : Prop := match o, ov with
  | some (.inl (2, n, .inr (.inr (.inr (.inr f))))), some (.inr (0, _)) => mm_in j n ∧ K (.inl (2, n, .inr (.inr (.inr (.inr (va_up f j.toNatClampNeg (some v)))))))
  | _, _ => False
def mm_sn (o : Option mm_O) (j : Int32) (K : mm_O → Prop) : Prop := match o with
  | some (.inl (2, n, .inr (.inr (.inr (.inr f))))) => mm_in j n ∧ K (.inl (2, n, .inr (.inr (.inr (.inr (va_up f j.toNatClampNeg none))))))
  | _ => False
def mm_ln (X : Nat × Nat × (Nat → Int32)) (a : Nat) (o : Option mm_O) (K : Int32 → Prop) : Prop := match o with
  | some (.inl (t, n, _)) => t < 5 ∧ K (Int32.ofNat n)
  | some _ => False
  | none => a = X.1 ∧ K (Int32.ofNat X.2.1)
def mm_cp (o0 o1 : Option mm_O) (sp dp n : Int32) (K : mm_O → Prop) : Prop := match o0, o1 with
  | some (.inl (0, n0, .inl f)), some (.inl (0, n1, .inl g)) => ¬ (sp < 0 ∨ dp < 0 ∨ n < 0 ∨ n0 < sp.toNatClampNeg + n.toNatClampNeg ∨ n1 < dp.toNatClampNeg + n.toNatClampNeg) ∧ K (.inl (0, n1, .inl (va_cpy f g sp.toNatClampNeg dp.toNatClampNeg n.toNatClampNeg)))
  | _, _ => False
/-- the receiver is an object of that class -/
def mm_rc (o : Option mm_O) (c : Nat) : Prop := match o with
  | some (.inr (c', _)) => c' = c
  | _ => False
def mm_K (f : Option Value → mm_M → Prop) (g : Nat → mm_M → Prop) : mm_Out → mm_M → Prop := fun o M => match o with
  | .inl v => f v M
  | .inr x => g x M
/-- a call of method k with these arguments -/
def WPC (X : Nat × Nat × (Nat → Int32)) (d k : Nat) (vs : List Value) (M : mm_M) (Q : mm_Out → mm_M → Prop) : Prop := WP X d k 0 (mm_arg k vs) [] M Q
section MR2
variable {X : Nat × Nat × (Nat → Int32)} {d k pc len : Nat} {i : Instr} {al al2 : List (Option Value)} {st st2 r : List Value} {M M2 : mm_M} {Q Q' : mm_Out → mm_M → Prop}
theorem WP_imp {P : Prop} (hd : decode (mm_b k) pc = .ok (i, len)) (h : P → ∀ rec, mm_step rec X d k pc i len al st M = none) (h2 : ¬ P → WP X d k pc al st M Q = Q' (.inl none) M) : WP X d k pc al st M Q = (¬ P ∧ Q' (.inl none) M) := by
  by_cases hp : P
  · rw [WP_no hd (h hp)]
    simp [hp]
  · rw [h2 hp]
    simp [hp]
theorem WP_pu (hd : decode (mm_b k) pc = .ok (i, len)) (h : mm_pu i len st = some st2) : WP X d k pc al st M Q = WP X d k (pc + len) al st2 M Q := WP_to hd (fun rec => by unfold mm_step; rw [h])
theorem WP_brr {t : Nat} (hd : decode (mm_b k) pc = .ok (i, len)) (h0 : mm_pu i len st = none) (h : mm_br pc i len st = some (st2, t)) : WP X d k pc al st M Q = WP X d k t al st2 M Q := WP_to hd (fun rec => by unfold mm_step; rw [h0, h])
theorem WP_ic {c : ClassFile.Cond} {o : Int} {t : Nat} {x y : Int32} (hd : decode (mm_b k) pc = .ok (.if_icmp c o, 3)) (ht : mm_tg pc o = some t) : WP X d k pc al (.int y :: .int x :: r) M Q = if mm_cc c x y = true then WP X d k t al r M Q else WP X d k (pc + 3) al r M Q := by
  rw [WP_brr (st2 := r) (t := if mm_cc c x y = true then t else pc + 3) hd rfl (by simp [mm_br, ht])]
  split <;> rfl
theorem WP_i0 {c : ClassFile.Cond} {o : Int} {t : Nat} {x : Int32} (hd : decode (mm_b k) pc = .ok (.ifCond c o, 3)) (ht : mm_tg pc o = some t) : WP X d k pc al (.int x :: r) M Q = if mm_cc c x 0 = true then WP X d k t al r M Q else WP X d k (pc + 3) al r M Q := by
  rw [WP_brr (st2 := r) (t := if mm_cc c x 0 = true then t else pc + 3) hd rfl (by simp [mm_br, ht])]
  split <;> rfl
theorem WP_ld {n t : Nat} {v : Value} (hd : decode (mm_b k) pc = .ok (i, len)) (h : mm_ld i len = some (n, t)) (h0 : ∀ s, mm_pu i len s = none) (h1 : ∀ s, mm_br pc i len s = none) (hl : al[n]? = some (some v)) (hv : mm_vk v = t) : WP X d k pc al st M Q = WP X d k (pc + len) al (v :: st) M Q := WP_to hd (fun rec => by unfold mm_step; rw [h0, h1, h]; dsimp only; rw [hl]; dsimp only; rw [if_pos hv])
theorem WP_so {n t : Nat} {v : Value} (hd : decode (mm_b k) pc = .ok (i, len)) (h : mm_so i len = some (n, t)) (h0 : ∀ s, mm_pu i len s = none) (h1 : ∀ s, mm_br pc i len s = none) (h2 : mm_ld i len = none) (hv : mm_vk v = t) (hn : n + v.category ≤ al.length) : WP X d k pc al (v :: st) M Q = WP X d k (pc + len) (mm_st al n v) st M Q := WP_to hd (fun rec => by unfold mm_step; rw [h0, h1, h2, h]; dsimp only; rw [if_pos ⟨hv, hn⟩])
theorem WP_inc {n : Nat} {c : Int} {x : Int32} (hd : decode (mm_b k) pc = .ok (.iinc n c, 3)) (hl : al[n]? = some (some (.int x))) : WP X d k pc al st M Q = WP X d k (pc + 3) (mm_st al n (.int (x + Int32.ofInt c))) st M Q := WP_to hd (fun rec => by
  show (match al[n]? with
    | some (some (.int x)) => rec d k (pc + 3) (mm_st al n (.int (x + Int32.ofInt c))) st M
    | _ => none) = _
  rw [hl])
theorem WP_get {idx ci j a : Nat} (hd : decode (mm_b k) pc = .ok (.getfield idx, 3)) (hf : mm_fld (mm_own k) idx = some (ci, j)) : WP X d k pc al (.ref a :: r) M Q = mm_fg (M.2.2 a) ci j (fun v => WP X d k (pc + 3) al (v :: r) M Q) := by
  have e1 : ∀ rec, mm_step rec X d k pc (.getfield idx) 3 al (.ref a :: r) M = (match mm_fld (mm_own k) idx, M.2.2 a with
    | some (ci, j), some (.inr (c, fs)) => if c = ci then (match fs[j]? with
      | some v => rec d k (pc + 3) al (v :: r) M
      | none => none) else none
    | _, _ => none) := fun _ => rfl
  rw [hf] at e1
  cases hM : M.2.2 a with
  | none => rw [WP_no hd (fun rec => by rw [e1, hM])]; rfl
  | some o =>
    cases o with
    | inl q => rw [WP_no hd (fun rec => by rw [e1, hM])]; rfl
    | inr q =>
      obtain ⟨c, fs⟩ := q
      by_cases hc : c = ci
      · cases hv : fs[j]? with
        | none => rw [WP_no hd (fun rec => by rw [e1, hM]; dsimp only; rw [if_pos hc, hv])]; simp [mm_fg, hv]
        | some v => rw [WP_to hd (fun rec => by rw [e1, hM]; dsimp only; rw [if_pos hc, hv])]; simp [mm_fg, hv, hc]
      · rw [WP_no hd (fun rec => by rw [e1, hM]; dsimp only; rw [if_neg hc])]; simp [mm_fg, hc]
theorem WP_put {idx ci j a : Nat} {v : Value} (hd : decode (mm_b k) pc = .ok (.putfield idx, 3)) (hf : mm_fld (mm_own k) idx = some (ci, j)) (hv : mm_fits (mF ci j) v = true) (hfin : (mT ci j).2.2.2 = false ∨ (mm_kd k = 2 ∧ ci = mm_own k)) : WP X d k pc al (v :: .ref a :: r) M Q = mm_fp (M.2.2 a) ci j v (fun o => WP X d k (pc + 3) al r (mm_set M a o) Q) := by
  have e1 : ∀ rec, mm_step rec X d k pc (.putfield idx) 3 al (v :: .ref a :: r) M = (match mm_fld (mm_own k) idx, M.2.2 a with
    | some (ci, j), some (.inr (c, fs)) => if c = ci ∧ j < fs.length ∧ mm_fits (mF ci j) v = true ∧ ((mT ci j).2.2.2 = false ∨ (mm_kd k = 2 ∧ ci = mm_own k)) then rec d k (pc + 3) al r (mm_set M a (.inr (c, fs.set j v))) else none
    | _, _ => none) := fun _ => rfl
  rw [hf] at e1
  cases hM : M.2.2 a with
  | none => rw [WP_no hd (fun rec => by rw [e1, hM])]; rfl
  | some o =>
    cases o with
    | inl q => rw [WP_no hd (fun rec => by rw [e1, hM])]; rfl
    | inr q =>
      obtain ⟨c, fs⟩ := q
      by_cases hc : c = ci ∧ j < fs.length
      · rw [WP_to hd (fun rec => by rw [e1, hM]; dsimp only; rw [if_pos ⟨hc.1, hc.2, hv, hfin⟩])]
        simp [mm_fp, hc]
      · rw [WP_no hd (fun rec => by rw [e1, hM]; dsimp only; rw [if_neg (fun z => hc ⟨z.1, z.2.1⟩)])]
        exact propext ⟨False.elim, fun z => hc ⟨z.1, z.2.1⟩⟩
end MR2
