/-! the class: its memory laid over the rest. A layout gives the address of a part (c, n) and the part at an address:
c = 0 the object, 1 held, 2 row, 3 otherRow, 4 node n, 5 store n, 6 ints, 7 keys, 8 changes, 9 baseRow, 10 otherRow of node n -/
abbrev Lay : Type := (Nat → Nat → Nat) × (Nat → Option (Nat × Nat))
/-- the int arrays, the counts of the stores -/
abbrev CS : Type := (Nat → Nat → Nat → Int32) × (Nat → Int32)
def kS (k : Nat) : Bool := decide (k < 3 ∨ k = 6)
def c_len (σ : Sg) (c n : Nat) : Nat := if c < 4 then 72 else if c = 8 then (if sK σ n = 6 then 8 else 1) else if c = 9 then 24 * sL σ (sO σ n) else if c = 10 then 24 * sL σ (sT σ n) else if sK σ n = 0 then 16 else 24
def vStore (Λ : Lay) (σ : Sg) (n : Nat) : Value := if kS (sK σ n) = true then .ref (Λ.1 5 n) else if sK σ n = 7 ∨ sK σ n = 8 then .ref (Λ.1 5 (sO σ n)) else .null
def vKey (σ : Sg) (n : Nat) : Nat := if sK σ n = 7 then sB σ n else 0
def vBase (Λ : Lay) (σ : Sg) (n : Nat) : Value := if kBased (sK σ n) = true ∨ kTwo (sK σ n) = true then .ref (Λ.1 4 (sO σ n)) else .null
def vOther (Λ : Lay) (σ : Sg) (n : Nat) : Value := if kTwo (sK σ n) = true then .ref (Λ.1 4 (sT σ n)) else .null
def vRow (Λ : Lay) (σ : Sg) (c n : Nat) : Value := if kTwo (sK σ n) = true then .ref (Λ.1 c n) else .null
def vStart (σ : Sg) (n : Nat) : Nat := if sK σ n = 4 then sB σ n else 0
def vLen (σ : Sg) (n : Nat) : Nat := if sK σ n = 4 then sP σ n else 0
def vNoted (σ : Sg) (n : Nat) : Nat := if sK σ n = 4 then sD σ n else 0
def vBy (σ : Sg) (n : Nat) : Int32 := if sK σ n = 5 then sV σ n else nI 0
def c_node (Λ : Lay) (σ : Sg) (n : Nat) : List Value := [.int (nI (sK σ n)), .int (nI (sL σ n)), .int (nI (sG σ n)), vStore Λ σ n, .int (nI (vKey σ n)), vBase Λ σ n, vOther Λ σ n, vRow Λ σ 9 n, vRow Λ σ 10 n, .int (nI (vStart σ n)), .int (nI (vLen σ n)), .int (nI (vNoted σ n)), .int (vBy σ n)]
def c_obj (Λ : Lay) (σ : Sg) : List Value := [.ref (Λ.1 1 0), .int (nI (sN σ)), .ref (Λ.1 2 0), .ref (Λ.1 3 0)]
def c_st (Λ : Lay) (β : CS) (n : Nat) : List Value := [.ref (Λ.1 6 n), .ref (Λ.1 7 n), .ref (Λ.1 8 n), .int (β.2 n)]
def c_hand (Λ : Lay) (σ : Sg) (h : Nat) : Option Nat := if h < 10 then (sH σ h).map (Λ.1 4) else none
def c_cell (Λ : Lay) (σ : Sg) (β : CS) (c n : Nat) : mm_O := if c = 0 then .inr (2, c_obj Λ σ) else if c = 1 then .inl (2, 10, .inr (.inr (.inr (.inr (c_hand Λ σ))))) else if c = 4 then .inr (0, c_node Λ σ n) else if c = 5 then .inr (1, c_st Λ β n) else .inl (0, c_len σ c n, .inl (β.1 c n))
def mm_C (Λ : Lay) (σ : Sg) (β : CS) (M : mm_M) : mm_M := (M.1, M.2.1, fun q => match Λ.2 q with
  | some t => some (c_cell Λ σ β t.1 t.2)
  | none => M.2.2 q)
def c_put (β : CS) (c n : Nat) (f : Nat → Int32) : CS := (fun c' n' => if c' = c ∧ n' = n then f else β.1 c' n', β.2)
def c_cnt (β : CS) (n : Nat) (x : Int32) : CS := (β.1, fun m => if m = n then x else β.2 m)
/-- the layout knows the parts of the state -/
def LK (Λ : Lay) (σ : Sg) : Prop := (∀ q t, Λ.2 q = some t → q = Λ.1 t.1 t.2 ∧ (t.1 < 4 → t.2 = 0) ∧ (4 ≤ t.1 → t.2 < sN σ) ∧ (9 ≤ t.1 → kTwo (sK σ t.2) = true)) ∧ (∀ c, c < 4 → Λ.2 (Λ.1 c 0) = some (c, 0)) ∧ (∀ n, n < sN σ → Λ.2 (Λ.1 4 n) = some (4, n) ∧ (kS (sK σ n) = true → ∀ c, 5 ≤ c → c ≤ 8 → Λ.2 (Λ.1 c n) = some (c, n)) ∧ (kTwo (sK σ n) = true → ∀ c, c = 9 ∨ c = 10 → Λ.2 (Λ.1 c n) = some (c, n)))
section CL1
variable {Λ : Lay} {σ : Sg} {β : CS} {M : mm_M}
theorem c_at {c n : Nat} (h : Λ.2 (Λ.1 c n) = some (c, n)) : (mm_C Λ σ β M).2.2 (Λ.1 c n) = some (c_cell Λ σ β c n) := by
  show (match Λ.2 (Λ.1 c n) with
  | some t => some (c_cell Λ σ β t.1 t.2)
  | none => M.2.2 _) = _
  rw [h]
theorem c_node_at (hL : LK Λ σ) {n : Nat} (hn : n < sN σ) : (mm_C Λ σ β M).2.2 (Λ.1 4 n) = some (.inr (0, c_node Λ σ n)) := c_at (hL.2.2 n hn).1
theorem c_obj_at (hL : LK Λ σ) : (mm_C Λ σ β M).2.2 (Λ.1 0 0) = some (.inr (2, c_obj Λ σ)) := c_at (hL.2.1 0 (by decide))
theorem c_held_at (hL : LK Λ σ) : (mm_C Λ σ β M).2.2 (Λ.1 1 0) = some (.inl (2, 10, .inr (.inr (.inr (.inr (c_hand Λ σ)))))) := c_at (hL.2.1 1 (by decide))
theorem c_row_at (hL : LK Λ σ) {c : Nat} (hc : c = 2 ∨ c = 3) : (mm_C Λ σ β M).2.2 (Λ.1 c 0) = some (.inl (0, 72, .inl (β.1 c 0))) := by
  rcases hc with rfl | rfl
  · exact c_at (hL.2.1 2 (by decide))
  · exact c_at (hL.2.1 3 (by decide))
theorem c_st_at (hL : LK Λ σ) {n : Nat} (hn : n < sN σ) (hk : kS (sK σ n) = true) : (mm_C Λ σ β M).2.2 (Λ.1 5 n) = some (.inr (1, c_st Λ β n)) := c_at ((hL.2.2 n hn).2.1 hk 5 (by decide) (by decide))
theorem c_arr_at (hL : LK Λ σ) {n c : Nat} (hn : n < sN σ) (hk : kS (sK σ n) = true) (hc : c = 6 ∨ c = 7 ∨ c = 8) : (mm_C Λ σ β M).2.2 (Λ.1 c n) = some (.inl (0, c_len σ c n, .inl (β.1 c n))) := by
  rcases hc with rfl | rfl | rfl
  · exact c_at ((hL.2.2 n hn).2.1 hk 6 (by decide) (by decide))
  · exact c_at ((hL.2.2 n hn).2.1 hk 7 (by decide) (by decide))
  · exact c_at ((hL.2.2 n hn).2.1 hk 8 (by decide) (by decide))
theorem c_buf_at (hL : LK Λ σ) {n c : Nat} (hn : n < sN σ) (hk : kTwo (sK σ n) = true) (hc : c = 9 ∨ c = 10) : (mm_C Λ σ β M).2.2 (Λ.1 c n) = some (.inl (0, c_len σ c n, .inl (β.1 c n))) := by
  rcases hc with rfl | rfl
  · exact c_at ((hL.2.2 n hn).2.2 hk 9 (Or.inl rfl))
  · exact c_at ((hL.2.2 n hn).2.2 hk 10 (Or.inr rfl))
theorem c_setT (hL : LK Λ σ) {c n : Nat} (h : Λ.2 (Λ.1 c n) = some (c, n)) {o : mm_O} {σ' : Sg} {β' : CS} (h1 : c_cell Λ σ' β' c n = o) (h2 : ∀ c' n', (c' < 4 → n' = 0) → (c', n') ≠ (c, n) → c_cell Λ σ' β' c' n' = c_cell Λ σ β c' n') : mm_set (mm_C Λ σ β M) (Λ.1 c n) o = mm_C Λ σ' β' M := by
  have e : ∀ q, (if q = Λ.1 c n then some o else (match Λ.2 q with
    | some t => some (c_cell Λ σ β t.1 t.2)
    | none => M.2.2 q)) = (match Λ.2 q with
    | some t => some (c_cell Λ σ' β' t.1 t.2)
    | none => M.2.2 q) := by
    intro q
    by_cases hq : q = Λ.1 c n
    · rw [if_pos hq, hq, h]
      simp only
      rw [h1]
    · rw [if_neg hq]
      cases hA : Λ.2 q with
      | none => rfl
      | some t =>
        simp only
        have := (hL.1 q t hA).1
        rw [h2 t.1 t.2 (hL.1 q t hA).2.1]
        intro z
        apply hq
        cases z
        exact this
  show (M.1, M.2.1, fun q => (if q = Λ.1 c n then some o else (match Λ.2 q with
    | some t => some (c_cell Λ σ β t.1 t.2)
    | none => M.2.2 q))) = _
  rw [funext e]
  rfl
theorem c_set (hL : LK Λ σ) {c n : Nat} (h : Λ.2 (Λ.1 c n) = some (c, n)) {o : mm_O} {σ' : Sg} {β' : CS} (h1 : c_cell Λ σ' β' c n = o) (h2 : ∀ c' n', (c', n') ≠ (c, n) → c_cell Λ σ' β' c' n' = c_cell Λ σ β c' n') : mm_set (mm_C Λ σ β M) (Λ.1 c n) o = mm_C Λ σ' β' M := c_setT hL h h1 (fun c' n' _ hne => h2 c' n' hne)
theorem c_set_arr (hL : LK Λ σ) {c n : Nat} (h : Λ.2 (Λ.1 c n) = some (c, n)) (hc : c = 2 ∨ c = 3 ∨ 6 ≤ c) {f : Nat → Int32} {len : Nat} (hlen : len = c_len σ c n) : mm_set (mm_C Λ σ β M) (Λ.1 c n) (.inl (0, len, .inl f)) = mm_C Λ σ (c_put β c n f) M := by
  subst hlen
  refine c_set hL h ?_ fun c' n' hne => ?_
  · unfold c_cell
    rw [if_neg (by omega), if_neg (by omega), if_neg (by omega), if_neg (by omega)]
    simp [c_put]
  · unfold c_cell
    have e : (c_put β c n f).1 c' n' = β.1 c' n' := by
      unfold c_put
      simp only
      rw [if_neg]
      rintro ⟨z1, z2⟩
      exact hne (by rw [z1, z2])
    rw [e]
    rfl
theorem c_put_at {c n : Nat} {f : Nat → Int32} : (c_put β c n f).1 c n = f := by simp [c_put]
theorem c_put_ne {c n c' n' : Nat} {f : Nat → Int32} (h : c' ≠ c ∨ n' ≠ n) : (c_put β c n f).1 c' n' = β.1 c' n' := by
  unfold c_put
  simp only
  rw [if_neg]
  omega
theorem c_put_2 {c n : Nat} {f : Nat → Int32} : (c_put β c n f).2 = β.2 := rfl
theorem c_g0 {n : Nat} : (c_node Λ σ n)[0]? = some (.int (nI (sK σ n))) := rfl
theorem c_g1 {n : Nat} : (c_node Λ σ n)[1]? = some (.int (nI (sL σ n))) := rfl
theorem c_g2 {n : Nat} : (c_node Λ σ n)[2]? = some (.int (nI (sG σ n))) := rfl
theorem c_g3 {n : Nat} : (c_node Λ σ n)[3]? = some (vStore Λ σ n) := rfl
theorem c_g4 {n : Nat} : (c_node Λ σ n)[4]? = some (.int (nI (vKey σ n))) := rfl
theorem c_g5 {n : Nat} : (c_node Λ σ n)[5]? = some (vBase Λ σ n) := rfl
theorem c_g6 {n : Nat} : (c_node Λ σ n)[6]? = some (vOther Λ σ n) := rfl
theorem c_g7 {n : Nat} : (c_node Λ σ n)[7]? = some (vRow Λ σ 9 n) := rfl
theorem c_g8 {n : Nat} : (c_node Λ σ n)[8]? = some (vRow Λ σ 10 n) := rfl
theorem c_g9 {n : Nat} : (c_node Λ σ n)[9]? = some (.int (nI (vStart σ n))) := rfl
theorem c_g10 {n : Nat} : (c_node Λ σ n)[10]? = some (.int (nI (vLen σ n))) := rfl
theorem c_g11 {n : Nat} : (c_node Λ σ n)[11]? = some (.int (nI (vNoted σ n))) := rfl
theorem c_g12 {n : Nat} : (c_node Λ σ n)[12]? = some (.int (vBy σ n)) := rfl
theorem c_gl {n : Nat} : (c_node Λ σ n).length = 13 := rfl
theorem c_o0 : (c_obj Λ σ)[0]? = some (.ref (Λ.1 1 0)) := rfl
theorem c_o1 : (c_obj Λ σ)[1]? = some (.int (nI (sN σ))) := rfl
theorem c_o2 : (c_obj Λ σ)[2]? = some (.ref (Λ.1 2 0)) := rfl
theorem c_o3 : (c_obj Λ σ)[3]? = some (.ref (Λ.1 3 0)) := rfl
theorem c_ol : (c_obj Λ σ).length = 4 := rfl
theorem c_s0 {n : Nat} : (c_st Λ β n)[0]? = some (.ref (Λ.1 6 n)) := rfl
theorem c_s1 {n : Nat} : (c_st Λ β n)[1]? = some (.ref (Λ.1 7 n)) := rfl
theorem c_s2 {n : Nat} : (c_st Λ β n)[2]? = some (.ref (Λ.1 8 n)) := rfl
theorem c_s3 {n : Nat} : (c_st Λ β n)[3]? = some (.int (β.2 n)) := rfl
theorem c_sl {n : Nat} : (c_st Λ β n).length = 4 := rfl
end CL1
/-- what a store holds, in order: key, int -/
def ksO (σ : Sg) (n : Nat) : List Nat := if sK σ n = 6 then sR σ n else [0]
def cat (σ : Sg) (n : Nat) : List (Nat × Int32) := (ksO σ n).flatMap (fun k => (sS σ (8 * n + k)).map (fun v => (k, v)))
/-- the arrays of a store hold a list of pairs -/
def holds (β : CS) (n : Nat) (P : List (Nat × Int32)) : Prop := β.2 n = nI P.length ∧ ∀ i (hi : i < P.length), β.1 6 n i = P[i].2 ∧ β.1 7 n i = nI P[i].1
def StRel (σ : Sg) (β : CS) : Prop := ∀ n, n < sN σ → kS (sK σ n) = true → holds β n (cat σ n) ∧ (sK σ n = 1 ∨ sK σ n = 2 → β.1 8 n 0 = nI 0) ∧ (sK σ n = 0 → β.1 8 n 0 = nI (sC σ (8 * n))) ∧ (sK σ n = 6 → ∀ k, k < 8 → β.1 8 n k = nI (sC σ (8 * n + k)))
section CL2
variable {X : Nat × Nat × (Nat → Int32)} {d T n : Nat} {Λ : Lay} {σ : Sg} {β : CS} {M : mm_M} {Q : mm_Out → mm_M → Prop}
theorem vBase_b (h : kBased (sK σ n) = true) : vBase Λ σ n = .ref (Λ.1 4 (sO σ n)) := if_pos (Or.inl h)
theorem vBase_t (h : kTwo (sK σ n) = true) : vBase Λ σ n = .ref (Λ.1 4 (sO σ n)) := if_pos (Or.inr h)
theorem vBase_0 (h : kBased (sK σ n) = false) (h2 : kTwo (sK σ n) = false) : vBase Λ σ n = .null := by
  unfold vBase
  rw [h, h2]
  simp
theorem vOther_t (h : kTwo (sK σ n) = true) : vOther Λ σ n = .ref (Λ.1 4 (sT σ n)) := if_pos h
theorem vOther_0 (h : kTwo (sK σ n) = false) : vOther Λ σ n = .null := if_neg (by rw [h]; decide)
theorem vRow_t {c : Nat} (h : kTwo (sK σ n) = true) : vRow Λ σ c n = .ref (Λ.1 c n) := if_pos h
theorem row_two (h : kRow (sK σ n) = true) : kTwo (sK σ n) = false := by
  simp [kRow] at h
  simp [kTwo]
  omega
theorem Lc_isRow_eq (hW : WF T σ) (hL : LK Λ σ) (hn : n < sN σ) : WPC X d 36 [.ref (Λ.1 4 n)] (mm_C Λ σ β M) Q = Q (.inl (some (.int (b2i (kRow (sK σ n)))))) (mm_C Λ σ β M) := by
  have h12 := hW.k12 hn
  by_cases h1 : sK σ n ≤ 5
  · have e : kRow (sK σ n) = true := by simp [kRow]; omega
    have g : ¬ 5 < sK σ n := by omega
    simp (disch := omega) only [e_36, w_36_0, w_36_1, w_36_4, w_36_5, w_36_8, w_36_9, w_36_12, w_36_14, w_36_17, w_36_18, w_36_21, w_36_22, mm_k_none, mm_k_int, mm_k_ref, mm_k_null, mm_K_inl, mm_tl_some, mm_tl_none, mm_fg_ok, mm_rc_ok, mm_fp_ok, mm_ai_ok, mm_si_ok, mm_az_ok, mm_sz_ok, z01, z11, zb, b2i_t, b2i_f, true_and, and_true, c_g0, c_g1, c_g2, c_g3, c_g4, c_g5, c_g6, c_g7, c_g8, c_g9, c_g10, c_g11, c_g12, c_gl, c_o0, c_o1, c_o2, c_o3, c_ol, c_s0, c_s1, c_s2, c_s3, c_sl, Nat.zero_le, Nat.not_lt_zero, if_true, if_false, m1_lt, m1_ge, mm_inT, pk_mul, nI_add, mm_in_nI, mm_cl_nI, nI_eq, nI_ltI, nI_leI, ↓reduceIte, Nat.add_zero, Nat.reduceLeDiff, oI_some, oI_none, m1_lt, nI_lt0, Rf_fail_eq, Rf_out_eq, eq_self, not_true_eq_false, not_false_eq_true, Nat.reduceEqDiff, Nat.reduceLT, ne_eq, or_true, true_or, or_false, false_or, decide_true, decide_false, Bool.true_eq_false, Bool.false_eq_true, b2i_ne, c_node_at hL hn, h1, e, g]
  · by_cases h2 : sK σ n = 7
    · have e : kRow (sK σ n) = true := by simp [kRow]; omega
      rw [e]
      simp (disch := omega) only [e_36, w_36_0, w_36_1, w_36_4, w_36_5, w_36_8, w_36_9, w_36_12, w_36_14, w_36_17, w_36_18, w_36_21, w_36_22, mm_k_none, mm_k_int, mm_k_ref, mm_k_null, mm_K_inl, mm_tl_some, mm_tl_none, mm_fg_ok, mm_rc_ok, mm_fp_ok, mm_ai_ok, mm_si_ok, mm_az_ok, mm_sz_ok, z01, z11, zb, b2i_t, b2i_f, true_and, and_true, c_g0, c_g1, c_g2, c_g3, c_g4, c_g5, c_g6, c_g7, c_g8, c_g9, c_g10, c_g11, c_g12, c_gl, c_o0, c_o1, c_o2, c_o3, c_ol, c_s0, c_s1, c_s2, c_s3, c_sl, Nat.zero_le, Nat.not_lt_zero, if_true, if_false, m1_lt, m1_ge, mm_inT, pk_mul, nI_add, mm_in_nI, mm_cl_nI, nI_eq, nI_ltI, nI_leI, ↓reduceIte, Nat.add_zero, Nat.reduceLeDiff, oI_some, oI_none, m1_lt, nI_lt0, Rf_fail_eq, Rf_out_eq, eq_self, not_true_eq_false, not_false_eq_true, Nat.reduceEqDiff, Nat.reduceLT, ne_eq, or_true, true_or, or_false, false_or, decide_true, decide_false, Bool.true_eq_false, Bool.false_eq_true, b2i_ne, c_node_at hL hn, h2]
    · have e : kRow (sK σ n) = false := by simp [kRow]; omega
      have g : 5 < sK σ n := by omega
      simp (disch := omega) only [e_36, w_36_0, w_36_1, w_36_4, w_36_5, w_36_8, w_36_9, w_36_12, w_36_14, w_36_17, w_36_18, w_36_21, w_36_22, mm_k_none, mm_k_int, mm_k_ref, mm_k_null, mm_K_inl, mm_tl_some, mm_tl_none, mm_fg_ok, mm_rc_ok, mm_fp_ok, mm_ai_ok, mm_si_ok, mm_az_ok, mm_sz_ok, z01, z11, zb, b2i_t, b2i_f, true_and, and_true, c_g0, c_g1, c_g2, c_g3, c_g4, c_g5, c_g6, c_g7, c_g8, c_g9, c_g10, c_g11, c_g12, c_gl, c_o0, c_o1, c_o2, c_o3, c_ol, c_s0, c_s1, c_s2, c_s3, c_sl, Nat.zero_le, Nat.not_lt_zero, if_true, if_false, m1_lt, m1_ge, mm_inT, pk_mul, nI_add, mm_in_nI, mm_cl_nI, nI_eq, nI_ltI, nI_leI, ↓reduceIte, Nat.add_zero, Nat.reduceLeDiff, oI_some, oI_none, m1_lt, nI_lt0, Rf_fail_eq, Rf_out_eq, eq_self, not_true_eq_false, not_false_eq_true, Nat.reduceEqDiff, Nat.reduceLT, ne_eq, or_true, true_or, or_false, false_or, decide_true, decide_false, Bool.true_eq_false, Bool.false_eq_true, b2i_ne, c_node_at hL hn, h1, h2, e, g]
theorem Lc_leafOf_lp (hW : WF T σ) (hL : LK Λ σ) : ∀ (n : Nat) (a : Nat), n < sN σ → kRow (sK σ n) = true → WP X d 26 2 [some (.ref a), some (.ref (Λ.1 4 n))] [] (mm_C Λ σ β M) Q = Q (.inl (some (.ref (Λ.1 4 (lf σ n))))) (mm_C Λ σ β M) := by
  intro n
  induction n using Nat.strongRecOn with
  | _ n ih =>
    intro a hn hr
    rw [lf_at hW hn, w_26_2]
    cases hb : kBased (sK σ n) with
    | false =>
      simp (disch := omega) only [w_26_0, w_26_1, w_26_3, w_26_6, w_26_6n, w_26_9, w_26_9n, w_26_10, w_26_13, w_26_13n, w_26_14, w_26_17, w_26_17n, w_26_18, mm_k_none, mm_k_int, mm_k_ref, mm_k_null, mm_K_inl, mm_tl_some, mm_tl_none, mm_fg_ok, mm_rc_ok, mm_fp_ok, mm_ai_ok, mm_si_ok, mm_az_ok, mm_sz_ok, z01, z11, zb, b2i_t, b2i_f, true_and, and_true, c_g0, c_g1, c_g2, c_g3, c_g4, c_g5, c_g6, c_g7, c_g8, c_g9, c_g10, c_g11, c_g12, c_gl, c_o0, c_o1, c_o2, c_o3, c_ol, c_s0, c_s1, c_s2, c_s3, c_sl, Nat.zero_le, Nat.not_lt_zero, if_true, if_false, m1_lt, m1_ge, mm_inT, pk_mul, nI_add, mm_in_nI, mm_cl_nI, nI_eq, nI_ltI, nI_leI, ↓reduceIte, Nat.add_zero, Nat.reduceLeDiff, oI_some, oI_none, m1_lt, nI_lt0, Rf_fail_eq, Rf_out_eq, eq_self, not_true_eq_false, not_false_eq_true, Nat.reduceEqDiff, Nat.reduceLT, ne_eq, or_true, true_or, or_false, false_or, decide_true, decide_false, Bool.true_eq_false, Bool.false_eq_true, b2i_ne, c_node_at hL hn, vBase_0 hb (row_two hr)]
    | true =>
      have ho := hW.o hn (kB_one hb)
      rw [if_pos rfl]
      refine Eq.trans ?_ (ih _ ho a (by omega) (hW.row hn hb))
      simp (disch := omega) only [w_26_0, w_26_1, w_26_3, w_26_6, w_26_6n, w_26_9, w_26_9n, w_26_10, w_26_13, w_26_13n, w_26_14, w_26_17, w_26_17n, w_26_18, mm_k_none, mm_k_int, mm_k_ref, mm_k_null, mm_K_inl, mm_tl_some, mm_tl_none, mm_fg_ok, mm_rc_ok, mm_fp_ok, mm_ai_ok, mm_si_ok, mm_az_ok, mm_sz_ok, z01, z11, zb, b2i_t, b2i_f, true_and, and_true, c_g0, c_g1, c_g2, c_g3, c_g4, c_g5, c_g6, c_g7, c_g8, c_g9, c_g10, c_g11, c_g12, c_gl, c_o0, c_o1, c_o2, c_o3, c_ol, c_s0, c_s1, c_s2, c_s3, c_sl, Nat.zero_le, Nat.not_lt_zero, if_true, if_false, m1_lt, m1_ge, mm_inT, pk_mul, nI_add, mm_in_nI, mm_cl_nI, nI_eq, nI_ltI, nI_leI, ↓reduceIte, Nat.add_zero, Nat.reduceLeDiff, oI_some, oI_none, m1_lt, nI_lt0, Rf_fail_eq, Rf_out_eq, eq_self, not_true_eq_false, not_false_eq_true, Nat.reduceEqDiff, Nat.reduceLT, ne_eq, or_true, true_or, or_false, false_or, decide_true, decide_false, Bool.true_eq_false, Bool.false_eq_true, b2i_ne, c_node_at hL hn, vBase_b hb]
theorem Lc_leafOf_eq (hW : WF T σ) (hL : LK Λ σ) (hn : n < sN σ) (hr : kRow (sK σ n) = true) : WPC X d 26 [.ref (Λ.1 4 n)] (mm_C Λ σ β M) Q = Q (.inl (some (.ref (Λ.1 4 (lf σ n))))) (mm_C Λ σ β M) := by
  simp only [e_26, w_26_0, w_26_1, w_26_3, w_26_6, w_26_6n, w_26_9, w_26_9n, w_26_10, w_26_13, w_26_13n, w_26_14, w_26_17, w_26_17n, w_26_18, mm_k_none, mm_k_int, mm_k_ref, mm_k_null, mm_K_inl, mm_tl_some, mm_tl_none, mm_fg_ok, mm_rc_ok, mm_fp_ok, mm_ai_ok, mm_si_ok, mm_az_ok, mm_sz_ok, z01, z11, zb, b2i_t, b2i_f, true_and, and_true]
  exact Lc_leafOf_lp hW hL n _ hn hr
theorem lf_row (hW : WF T σ) : ∀ n, n < sN σ → kRow (sK σ n) = true → kRow (sK σ (lf σ n)) = true := by
  intro n
  induction n using Nat.strongRecOn with
  | _ n ih =>
    intro hn hr
    rw [lf_at hW hn]
    cases hb : kBased (sK σ n) with
    | false => exact hr
    | true =>
      have ho := hW.o hn (kB_one hb)
      rw [if_pos rfl]
      exact ih _ ho (by omega) (hW.row hn hb)
/-- the leaf of a row: its store and key -/
theorem leaf_st (hW : WF T σ) (hn : n < sN σ) (hr : kRow (sK σ n) = true) : ∃ s k, s < sN σ ∧ kS (sK σ s) = true ∧ vStore Λ σ (lf σ n) = .ref (Λ.1 5 s) ∧ vKey σ (lf σ n) = k ∧ k < c_len σ 8 s ∧ ((lo σ n = some (8 * s + k) ∧ (sK σ s = 0 ∨ sK σ s = 6)) ∨ (lo σ n = none ∧ (sK σ s = 1 ∨ sK σ s = 2) ∧ k = 0 ∧ s = lf σ n)) := by
  obtain ⟨h1, h2⟩ := lf_lt hW n hn
  have hlr : kRow (sK σ (lf σ n)) = true := lf_row hW n hn hr
  have hc : sK σ (lf σ n) = 0 ∨ sK σ (lf σ n) = 1 ∨ sK σ (lf σ n) = 2 ∨ sK σ (lf σ n) = 7 := by
    simp [kRow] at hlr
    simp [kBased] at h2
    omega
  rcases hc with k | k | k | k
  · have e : kS (sK σ (lf σ n)) = true := by rw [k]; rfl
    refine ⟨lf σ n, 0, by omega, e, by unfold vStore; rw [if_pos e], by unfold vKey; rw [k]; rfl, by unfold c_len; rw [if_neg (by decide), if_pos rfl, k]; decide, Or.inl ⟨by unfold lo; rw [if_pos k]; rfl, Or.inl k⟩⟩
  · have e : kS (sK σ (lf σ n)) = true := by rw [k]; rfl
    refine ⟨lf σ n, 0, by omega, e, by unfold vStore; rw [if_pos e], by unfold vKey; rw [k]; rfl, by unfold c_len; rw [if_neg (by decide), if_pos rfl, k]; decide, Or.inr ⟨by unfold lo; rw [k]; rfl, Or.inl k, rfl, rfl⟩⟩
  · have e : kS (sK σ (lf σ n)) = true := by rw [k]; rfl
    refine ⟨lf σ n, 0, by omega, e, by unfold vStore; rw [if_pos e], by unfold vKey; rw [k]; rfl, by unfold c_len; rw [if_neg (by decide), if_pos rfl, k]; decide, Or.inr ⟨by unfold lo; rw [k]; rfl, Or.inr k, rfl, rfl⟩⟩
  · have hm := hW.map (n := lf σ n) (by omega) (Or.inl k)
    have ho := hW.o (n := lf σ n) (by omega) (by rw [k]; rfl)
    have h7 := (hW.k7 (n := lf σ n) (by omega) k).2
    refine ⟨sO σ (lf σ n), sB σ (lf σ n), by omega, by rw [hm]; rfl, ?_, by unfold vKey; rw [if_pos k], by unfold c_len; rw [hm]; exact h7, Or.inl ⟨by unfold lo; rw [k]; rfl, Or.inr hm⟩⟩
    unfold vStore
    rw [if_neg (by rw [k]; decide), if_pos (Or.inl k)]
theorem Lc_changesOf_eq (hW : WF T σ) (hL : LK Λ σ) (hβ : StRel σ β) (hn : n < sN σ) (hr : kRow (sK σ n) = true) : WPC X (d + 1) 25 [.ref (Λ.1 4 n)] (mm_C Λ σ β M) Q = Q (.inl (some (.int (nI (ch σ n))))) (mm_C Λ σ β M) := by
  obtain ⟨s, k, h1, h2, h3, h4, h5, h6⟩ := leaf_st (Λ := Λ) hW hn hr
  have hlf := (lf_lt hW n hn).1
  have h8 : c_len σ 8 s ≤ 8 := by unfold c_len; simp; split <;> omega
  have e : β.1 8 s k = nI (ch σ n) := by
    obtain ⟨b1, b2, b3, b4⟩ := hβ s h1 h2
    rcases h6 with ⟨hlo, hk⟩ | ⟨hlo, hk, rfl, hs⟩
    · have : ch σ n = sC σ (8 * s + k) := ch_lo hlo
      rw [this]
      rcases hk with hk | hk
      · have : k = 0 := by unfold c_len at h5; simp [hk] at h5; exact h5
        subst this
        exact b3 hk
      · exact b4 hk k (by omega)
    · have : ch σ n = 0 := by unfold ch; rw [hlo]
      rw [this]
      exact b2 hk
  simp (disch := omega) only [e_25, w_25_0, w_25_1, w_25_4, w_25_5, w_25_6, w_25_9, w_25_12, w_25_13, w_25_16, w_25_17, mm_k_none, mm_k_int, mm_k_ref, mm_k_null, mm_K_inl, mm_tl_some, mm_tl_none, mm_fg_ok, mm_rc_ok, mm_fp_ok, mm_ai_ok, mm_si_ok, mm_az_ok, mm_sz_ok, z01, z11, zb, b2i_t, b2i_f, true_and, and_true, c_g0, c_g1, c_g2, c_g3, c_g4, c_g5, c_g6, c_g7, c_g8, c_g9, c_g10, c_g11, c_g12, c_gl, c_o0, c_o1, c_o2, c_o3, c_ol, c_s0, c_s1, c_s2, c_s3, c_sl, Nat.zero_le, Nat.not_lt_zero, if_true, if_false, m1_lt, m1_ge, mm_inT, pk_mul, nI_add, mm_in_nI, mm_cl_nI, nI_eq, nI_ltI, nI_leI, ↓reduceIte, Nat.add_zero, Nat.reduceLeDiff, oI_some, oI_none, m1_lt, nI_lt0, Rf_fail_eq, Rf_out_eq, eq_self, not_true_eq_false, not_false_eq_true, Nat.reduceEqDiff, Nat.reduceLT, ne_eq, or_true, true_or, or_false, false_or, decide_true, decide_false, Bool.true_eq_false, Bool.false_eq_true, b2i_ne, Lc_leafOf_eq hW hL hn hr, c_node_at hL (show lf σ n < sN σ by omega), h3, h4, c_st_at hL h1 h2, c_arr_at hL h1 h2 (Or.inr (Or.inr rfl)), h5, e]
end CL2
