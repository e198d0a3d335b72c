/-! the class: rows are worked over -/
theorem c_putput {β : CS} {c m : Nat} {f g : Nat → Int32} : c_put (c_put β c m f) c m g = c_put β c m g := by
  unfold c_put
  congr 1
  funext c' n'
  by_cases z : c' = c ∧ n' = m
  · simp [z]
  · simp [z]
theorem c_put_self {β : CS} {c m : Nat} : c_put β c m (β.1 c m) = β := by
  unfold c_put
  have : (fun c' n' => if c' = c ∧ n' = m then β.1 c m else β.1 c' n') = β.1 := by
    funext c' n'
    by_cases z : c' = c ∧ n' = m
    · rw [if_pos z, z.1, z.2]
    · rw [if_neg z]
  rw [this]
theorem ins1_app {v : Int32} : ∀ (A B : List Int32), (∀ x, x ∈ A → x < v) → ins1 v (A ++ B) = A ++ ins1 v B
  | [], B, _ => rfl
  | x :: A, B, h => by
    show (if x < v then x :: ins1 v (A ++ B) else _) = _
    rw [if_pos (h x (by simp)), ins1_app A B (fun y hy => h y (by simp [hy]))]
    rfl
theorem ins1_pos {v : Int32} {S : List Int32} {p : Nat} (hp : p ≤ S.length) (h1 : ∀ q (h : q < S.length), q < p → S[q] < v) (h2 : ∀ (h : p < S.length), ¬ S[p] < v) : (∀ (h : p < S.length), S[p] = v → ins1 v S = S) ∧ ((∀ (h : p < S.length), S[p] ≠ v) → ins1 v S = insAt S p v) := by
  have hA : ∀ x, x ∈ S.take p → x < v := by
    intro x hx
    rw [List.mem_take_iff_getElem] at hx
    obtain ⟨q, hq, rfl⟩ := hx
    exact h1 q (by omega) (by omega)
  have e := ins1_app (v := v) (S.take p) (S.drop p) hA
  rw [List.take_append_drop] at e
  constructor
  · intro h hv
    rw [e]
    have hd : S.drop p = S[p] :: S.drop (p + 1) := List.drop_eq_getElem_cons h
    conv => rhs; rw [← List.take_append_drop p S]
    rw [hd]
    show _ ++ (if S[p] < v then _ else if S[p] = v then S[p] :: S.drop (p + 1) else _) = _
    rw [if_neg (h2 h), if_pos hv]
  · intro hne
    rw [e]
    unfold insAt
    congr 1
    by_cases h : p < S.length
    · have hd : S.drop p = S[p] :: S.drop (p + 1) := List.drop_eq_getElem_cons h
      rw [hd]
      show (if S[p] < v then _ else if S[p] = v then _ else v :: S[p] :: S.drop (p + 1)) = _
      rw [if_neg (h2 h), if_neg (hne h)]
    · rw [List.drop_eq_nil_of_le (by omega)]
      rfl
theorem srt_snoc {L : List Int32} {v : Int32} : srt (L ++ [v]) = ins1 v (srt L) := by
  unfold srt
  rw [List.foldl_append]
  rfl
section CL6
variable {X : Nat × Nat × (Nat → Int32)} {d T n c m : Nat} {Λ : Lay} {σ : Sg} {β : CS} {M : mm_M} {Q : mm_Out → mm_M → Prop}
theorem Lc_placeOf_lp (hW : WF T σ) (hL : LK Λ σ) (hB : isB σ c m) {L : List Int32} (hb : bfAt β c m L) (hl : L.length ≤ c_len σ c m) {v : Int32} : ∀ (j k : Nat), j + k = L.length → WP X d 31 2 [some (.ref (Λ.1 c m)), some (.int (nI L.length)), some (.int v), some (.int (nI k))] [] (mm_C Λ σ β M) Q = Q (.inl (some (.int (oI ((fst1 v (L.drop k)).map (· + k)))))) (mm_C Λ σ β M) := by
  have g2 := c_len_le hW hB
  intro j
  induction j with
  | zero =>
    intro k hk
    have e : L.length ≤ k := by omega
    rw [w_31_2, List.drop_eq_nil_of_le e]
    simp (disch := omega) only [w_31_0, w_31_1, w_31_3, w_31_4, w_31_7, w_31_8, w_31_9, w_31_10, w_31_11, w_31_14, w_31_15, w_31_16, w_31_19, w_31_22, w_31_23, mm_k_none, mm_k_int, mm_k_ref, mm_k_null, mm_K_inl, mm_tl_some, mm_tl_none, mm_fg_ok, mm_rc_ok, mm_fp_ok, mm_ai_ok, mm_si_ok, mm_az_ok, mm_sz_ok, z01, z11, zb, b2i_t, b2i_f, true_and, and_true, Nat.zero_le, Nat.not_lt_zero, if_true, if_false, m1_lt, m1_ge, mm_inT, pk_mul, nI_add, mm_in_nI, mm_cl_nI, nI_eq, nI_ltI, nI_leI, ↓reduceIte, Nat.add_zero, Nat.reduceLeDiff, oI_some, oI_none, m1_lt, nI_lt0, Rf_fail_eq, Rf_out_eq, eq_self, not_true_eq_false, not_false_eq_true, Nat.reduceEqDiff, Nat.reduceLT, ne_eq, or_true, true_or, or_false, false_or, decide_true, decide_false, Bool.true_eq_false, Bool.false_eq_true, b2i_ne, e]
    simp [fst1, oI]
  | succ j ih =>
    intro k hk
    have e : ¬ L.length ≤ k := by omega
    have hkl : k < L.length := by omega
    have hd : L.drop k = L[k] :: L.drop (k + 1) := List.drop_eq_getElem_cons hkl
    rw [w_31_2, hd]
    by_cases hv : L[k] = v
    · simp (disch := omega) only [w_31_0, w_31_1, w_31_3, w_31_4, w_31_7, w_31_8, w_31_9, w_31_10, w_31_11, w_31_14, w_31_15, w_31_16, w_31_19, w_31_22, w_31_23, mm_k_none, mm_k_int, mm_k_ref, mm_k_null, mm_K_inl, mm_tl_some, mm_tl_none, mm_fg_ok, mm_rc_ok, mm_fp_ok, mm_ai_ok, mm_si_ok, mm_az_ok, mm_sz_ok, z01, z11, zb, b2i_t, b2i_f, true_and, and_true, Nat.zero_le, Nat.not_lt_zero, if_true, if_false, m1_lt, m1_ge, mm_inT, pk_mul, nI_add, mm_in_nI, mm_cl_nI, nI_eq, nI_ltI, nI_leI, ↓reduceIte, Nat.add_zero, Nat.reduceLeDiff, oI_some, oI_none, m1_lt, nI_lt0, Rf_fail_eq, Rf_out_eq, eq_self, not_true_eq_false, not_false_eq_true, Nat.reduceEqDiff, Nat.reduceLT, ne_eq, or_true, true_or, or_false, false_or, decide_true, decide_false, Bool.true_eq_false, Bool.false_eq_true, b2i_ne, e, c_b_at hL hB, hb k hkl, hv]
      simp [fst1, oI]
    · simp (disch := omega) only [w_31_0, w_31_1, w_31_3, w_31_4, w_31_7, w_31_8, w_31_9, w_31_10, w_31_11, w_31_14, w_31_15, w_31_16, w_31_19, w_31_22, w_31_23, mm_k_none, mm_k_int, mm_k_ref, mm_k_null, mm_K_inl, mm_tl_some, mm_tl_none, mm_fg_ok, mm_rc_ok, mm_fp_ok, mm_ai_ok, mm_si_ok, mm_az_ok, mm_sz_ok, z01, z11, zb, b2i_t, b2i_f, true_and, and_true, Nat.zero_le, Nat.not_lt_zero, if_true, if_false, m1_lt, m1_ge, mm_inT, pk_mul, nI_add, mm_in_nI, mm_cl_nI, nI_eq, nI_ltI, nI_leI, ↓reduceIte, Nat.add_zero, Nat.reduceLeDiff, oI_some, oI_none, m1_lt, nI_lt0, Rf_fail_eq, Rf_out_eq, eq_self, not_true_eq_false, not_false_eq_true, Nat.reduceEqDiff, Nat.reduceLT, ne_eq, or_true, true_or, or_false, false_or, decide_true, decide_false, Bool.true_eq_false, Bool.false_eq_true, b2i_ne, e, c_b_at hL hB, hb k hkl, hv, ih (k + 1) (by omega)]
      simp [hv, fst1, Function.comp_def, Nat.add_comm, Nat.add_left_comm]
theorem Lc_placeOf_eq (hW : WF T σ) (hL : LK Λ σ) (hB : isB σ c m) {L : List Int32} (hb : bfAt β c m L) (hl : L.length ≤ c_len σ c m) {v : Int32} : WPC X d 31 [.ref (Λ.1 c m), .int (nI L.length), .int v] (mm_C Λ σ β M) Q = Q (.inl (some (.int (oI (fst1 v L))))) (mm_C Λ σ β M) := by
  simp only [e_31, w_31_0, w_31_1, w_31_3, w_31_4, w_31_7, w_31_8, w_31_9, w_31_10, w_31_11, w_31_14, w_31_15, w_31_16, w_31_19, w_31_22, w_31_23, mm_k_none, mm_k_int, mm_k_ref, mm_k_null, mm_K_inl, mm_tl_some, mm_tl_none, mm_fg_ok, mm_rc_ok, mm_fp_ok, mm_ai_ok, mm_si_ok, mm_az_ok, mm_sz_ok, z01, z11, zb, b2i_t, b2i_f, true_and, and_true]
  rw [Lc_placeOf_lp hW hL hB hb hl L.length 0 (by omega), List.drop_zero]
  simp
theorem Lc_appendOnce_eq (hW : WF T σ) (hL : LK Λ σ) (hB : isB σ c m) {L : List Int32} (hb : bfAt β c m L) (hl : L.length < c_len σ c m) {v : Int32} : ∃ f, bfAt (c_put β c m f) c m (addOnce L v) ∧ ∀ Q, WPC X (d + 1) 32 [.ref (Λ.1 c m), .int (nI L.length), .int v] (mm_C Λ σ β M) Q = Q (.inl (some (.int (nI (addOnce L v).length)))) (mm_C Λ σ (c_put β c m f) M) := by
  have g2 := c_len_le hW hB
  have hp := fun Q => Lc_placeOf_eq (X := X) (d := d) (M := M) (Q := Q) hW hL hB hb (by omega) (v := v)
  cases hf : fst1 v L with
  | none =>
    have hv := fst1_none.1 hf
    have e : addOnce L v = L ++ [v] := if_neg hv
    rw [e]
    refine ⟨upd (β.1 c m) L.length v, fun i hi => ?_, fun Q => ?_⟩
    · rw [c_put_at]
      simp only [List.length_append, List.length_cons, List.length_nil] at hi
      by_cases z : i < L.length
      · rw [up_ne (by omega), List.getElem_append_left z]; exact hb i z
      · have : i = L.length := by omega
        subst this
        rw [up_at]
        simp
    · simp (disch := omega) only [e_32, w_32_0, w_32_1, w_32_2, w_32_3, w_32_6, w_32_9, w_32_10, w_32_11, w_32_12, w_32_13, w_32_14, w_32_15, w_32_16, w_32_17, w_32_18, mm_k_none, mm_k_int, mm_k_ref, mm_k_null, mm_K_inl, mm_tl_some, mm_tl_none, mm_fg_ok, mm_rc_ok, mm_fp_ok, mm_ai_ok, mm_si_ok, mm_az_ok, mm_sz_ok, z01, z11, zb, b2i_t, b2i_f, true_and, and_true, Nat.zero_le, Nat.not_lt_zero, if_true, if_false, m1_lt, m1_ge, mm_inT, pk_mul, nI_add, mm_in_nI, mm_cl_nI, nI_eq, nI_ltI, nI_leI, ↓reduceIte, Nat.add_zero, Nat.reduceLeDiff, oI_some, oI_none, m1_lt, nI_lt0, Rf_fail_eq, Rf_out_eq, eq_self, not_true_eq_false, not_false_eq_true, Nat.reduceEqDiff, Nat.reduceLT, ne_eq, or_true, true_or, or_false, false_or, decide_true, decide_false, Bool.true_eq_false, Bool.false_eq_true, b2i_ne, hp, hf, c_b_at hL hB, c_set_b hL hB, List.length_append, List.length_cons, List.length_nil, Nat.zero_add]
  | some k =>
    have hk := fst1_lt hf
    have hv : v ∈ L := by
      obtain ⟨h1, h2, -⟩ := fst1_some hf
      rw [← h2]
      exact List.getElem_mem h1
    have e : addOnce L v = L := if_pos hv
    rw [e]
    refine ⟨β.1 c m, by rw [c_put_self]; exact hb, fun Q => ?_⟩
    rw [c_put_self]
    simp (disch := omega) only [e_32, w_32_0, w_32_1, w_32_2, w_32_3, w_32_6, w_32_9, w_32_10, w_32_11, w_32_12, w_32_13, w_32_14, w_32_15, w_32_16, w_32_17, w_32_18, mm_k_none, mm_k_int, mm_k_ref, mm_k_null, mm_K_inl, mm_tl_some, mm_tl_none, mm_fg_ok, mm_rc_ok, mm_fp_ok, mm_ai_ok, mm_si_ok, mm_az_ok, mm_sz_ok, z01, z11, zb, b2i_t, b2i_f, true_and, and_true, Nat.zero_le, Nat.not_lt_zero, if_true, if_false, m1_lt, m1_ge, mm_inT, pk_mul, nI_add, mm_in_nI, mm_cl_nI, nI_eq, nI_ltI, nI_leI, ↓reduceIte, Nat.add_zero, Nat.reduceLeDiff, oI_some, oI_none, m1_lt, nI_lt0, Rf_fail_eq, Rf_out_eq, eq_self, not_true_eq_false, not_false_eq_true, Nat.reduceEqDiff, Nat.reduceLT, ne_eq, or_true, true_or, or_false, false_or, decide_true, decide_false, Bool.true_eq_false, Bool.false_eq_true, b2i_ne, hp, hf]
theorem Lc_raise_lp (hW : WF T σ) (hL : LK Λ σ) (hB : isB σ c m) {L : List Int32} (hl : L.length ≤ c_len σ c m) {v : Int32} : ∀ (j k : Nat) (β : CS), j + k = L.length → (∀ i (h : i < L.length), β.1 c m i = if i < k then L[i] + v else L[i]) → ∃ f, bfAt (c_put β c m f) c m (L.map (· + v)) ∧ ∀ Q, WP X d 29 2 [some (.ref (Λ.1 c m)), some (.int (nI L.length)), some (.int v), some (.int (nI k))] [] (mm_C Λ σ β M) Q = Q (.inl (some (.int (nI L.length)))) (mm_C Λ σ (c_put β c m f) M) := by
  have g2 := c_len_le hW hB
  intro j
  induction j with
  | zero =>
    intro k β hk h
    have e : L.length ≤ k := by omega
    refine ⟨β.1 c m, fun i hi => ?_, fun Q => ?_⟩
    · rw [c_put_at, List.getElem_map]
      rw [List.length_map] at hi
      rw [h i hi, if_pos (by omega)]
    · rw [c_put_self, w_29_2]
      simp (disch := omega) only [w_29_0, w_29_1, w_29_3, w_29_4, w_29_7, w_29_8, w_29_9, w_29_10, w_29_11, w_29_12, w_29_13, w_29_14, w_29_17, w_29_20, w_29_21, mm_k_none, mm_k_int, mm_k_ref, mm_k_null, mm_K_inl, mm_tl_some, mm_tl_none, mm_fg_ok, mm_rc_ok, mm_fp_ok, mm_ai_ok, mm_si_ok, mm_az_ok, mm_sz_ok, z01, z11, zb, b2i_t, b2i_f, true_and, and_true, Nat.zero_le, Nat.not_lt_zero, if_true, if_false, m1_lt, m1_ge, mm_inT, pk_mul, nI_add, mm_in_nI, mm_cl_nI, nI_eq, nI_ltI, nI_leI, ↓reduceIte, Nat.add_zero, Nat.reduceLeDiff, oI_some, oI_none, m1_lt, nI_lt0, Rf_fail_eq, Rf_out_eq, eq_self, not_true_eq_false, not_false_eq_true, Nat.reduceEqDiff, Nat.reduceLT, ne_eq, or_true, true_or, or_false, false_or, decide_true, decide_false, Bool.true_eq_false, Bool.false_eq_true, b2i_ne, e]
  | succ j ih =>
    intro k β hk h
    have e : ¬ L.length ≤ k := by omega
    have hkl : k < L.length := by omega
    obtain ⟨f, hf, hq⟩ := ih (k + 1) (c_put β c m (upd (β.1 c m) k (L[k] + v))) (by omega) (fun i hi => by
      rw [c_put_at]
      by_cases z : i = k
      · subst z
        rw [up_at, if_pos (by omega)]
      · rw [up_ne z, h i hi]
        by_cases z2 : i < k
        · rw [if_pos z2, if_pos (by omega)]
        · rw [if_neg z2, if_neg (by omega)])
    rw [c_putput] at hf
    refine ⟨f, hf, fun Q => ?_⟩
    have hq' := hq Q
    rw [c_putput] at hq'
    refine Eq.trans ?_ hq'
    have ek : β.1 c m k = L[k] := by rw [h k hkl, if_neg (by omega)]
    rw [w_29_2]
    simp (disch := omega) only [w_29_0, w_29_1, w_29_3, w_29_4, w_29_7, w_29_8, w_29_9, w_29_10, w_29_11, w_29_12, w_29_13, w_29_14, w_29_17, w_29_20, w_29_21, mm_k_none, mm_k_int, mm_k_ref, mm_k_null, mm_K_inl, mm_tl_some, mm_tl_none, mm_fg_ok, mm_rc_ok, mm_fp_ok, mm_ai_ok, mm_si_ok, mm_az_ok, mm_sz_ok, z01, z11, zb, b2i_t, b2i_f, true_and, and_true, Nat.zero_le, Nat.not_lt_zero, if_true, if_false, m1_lt, m1_ge, mm_inT, pk_mul, nI_add, mm_in_nI, mm_cl_nI, nI_eq, nI_ltI, nI_leI, ↓reduceIte, Nat.add_zero, Nat.reduceLeDiff, oI_some, oI_none, m1_lt, nI_lt0, Rf_fail_eq, Rf_out_eq, eq_self, not_true_eq_false, not_false_eq_true, Nat.reduceEqDiff, Nat.reduceLT, ne_eq, or_true, true_or, or_false, false_or, decide_true, decide_false, Bool.true_eq_false, Bool.false_eq_true, b2i_ne, e, c_b_at hL hB, c_set_b hL hB, ek]
theorem Lc_raise_eq (hW : WF T σ) (hL : LK Λ σ) (hB : isB σ c m) {L : List Int32} (hb : bfAt β c m L) (hl : L.length ≤ c_len σ c m) {v : Int32} : ∃ f, bfAt (c_put β c m f) c m (L.map (· + v)) ∧ ∀ Q, WPC X d 29 [.ref (Λ.1 c m), .int (nI L.length), .int v] (mm_C Λ σ β M) Q = Q (.inl (some (.int (nI L.length)))) (mm_C Λ σ (c_put β c m f) M) := by
  obtain ⟨f, hf, hq⟩ := Lc_raise_lp (X := X) (d := d) (M := M) (v := v) hW hL hB hl L.length 0 β (by omega) (fun i hi => by rw [if_neg (by omega)]; exact hb i hi)
  refine ⟨f, hf, fun Q => ?_⟩
  refine Eq.trans ?_ (hq Q)
  simp only [e_29, w_29_0, w_29_1, w_29_3, w_29_4, w_29_7, w_29_8, w_29_9, w_29_10, w_29_11, w_29_12, w_29_13, w_29_14, w_29_17, w_29_20, w_29_21, mm_k_none, mm_k_int, mm_k_ref, mm_k_null, mm_K_inl, mm_tl_some, mm_tl_none, mm_fg_ok, mm_rc_ok, mm_fp_ok, mm_ai_ok, mm_si_ok, mm_az_ok, mm_sz_ok, z01, z11, zb, b2i_t, b2i_f, true_and, and_true]
theorem Lc_turn_lp (hW : WF T σ) (hL : LK Λ σ) (hB : isB σ c m) {L : List Int32} (hl : L.length ≤ c_len σ c m) : ∀ (j k : Nat) (l3 : Option Value) (β : CS), j + k = L.length / 2 → (∀ i (h : i < L.length), β.1 c m i = if i < k ∨ L.length - k ≤ i then L[L.length - 1 - i] else L[i]) → ∃ f, bfAt (c_put β c m f) c m L.reverse ∧ ∀ Q, WP X d 28 2 [some (.ref (Λ.1 c m)), some (.int (nI L.length)), some (.int (nI k)), l3] [] (mm_C Λ σ β M) Q = Q (.inl (some (.int (nI L.length)))) (mm_C Λ σ (c_put β c m f) M) := by
  have g2 := c_len_le hW hB
  have e2 : ¬ nI 2 = 0 := by decide
  intro j
  induction j with
  | zero =>
    intro k l3 β hk h
    have e : L.length / 2 ≤ k := by omega
    refine ⟨β.1 c m, fun i hi => ?_, fun Q => ?_⟩
    · rw [c_put_at, List.getElem_reverse]
      rw [List.length_reverse] at hi
      rw [h i hi]
      split
      · rfl
      · congr 1
        omega
    · rw [c_put_self, w_28_2]
      simp (disch := omega) only [w_28_0, w_28_1, w_28_3, w_28_4, w_28_5, w_28_6, w_28_9, w_28_10, w_28_11, w_28_12, w_28_13, w_28_14, w_28_15, w_28_16, w_28_17, w_28_18, w_28_19, w_28_20, w_28_21, w_28_22, w_28_23, w_28_24, w_28_25, w_28_26, w_28_27, w_28_28, w_28_29, w_28_30, w_28_31, w_28_34, w_28_37, w_28_38, mm_k_none, mm_k_int, mm_k_ref, mm_k_null, mm_K_inl, mm_tl_some, mm_tl_none, mm_fg_ok, mm_rc_ok, mm_fp_ok, mm_ai_ok, mm_si_ok, mm_az_ok, mm_sz_ok, z01, z11, zb, b2i_t, b2i_f, true_and, and_true, Nat.zero_le, Nat.not_lt_zero, if_true, if_false, m1_lt, m1_ge, mm_inT, pk_mul, nI_add, mm_in_nI, mm_cl_nI, nI_eq, nI_ltI, nI_leI, ↓reduceIte, Nat.add_zero, Nat.reduceLeDiff, oI_some, oI_none, m1_lt, nI_lt0, Rf_fail_eq, Rf_out_eq, eq_self, not_true_eq_false, not_false_eq_true, Nat.reduceEqDiff, Nat.reduceLT, ne_eq, or_true, true_or, or_false, false_or, decide_true, decide_false, Bool.true_eq_false, Bool.false_eq_true, b2i_ne, e2, pk_div, e]
  | succ j ih =>
    intro k l3 β hk h
    have e : ¬ L.length / 2 ≤ k := by omega
    have hkl : k < L.length := by omega
    have ek : β.1 c m k = L[k] := by rw [h k hkl, if_neg (by omega)]
    have ek2 : β.1 c m (L.length - 1 - k) = L[L.length - 1 - k] := by rw [h _ (by omega), if_neg (by omega)]
    obtain ⟨f, hf, hq⟩ := ih (k + 1) (some (.int L[k])) (c_put β c m (upd (upd (β.1 c m) k L[L.length - 1 - k]) (L.length - 1 - k) L[k])) (by omega) (fun i hi => by
      rw [c_put_at]
      by_cases z : i = L.length - 1 - k
      · subst z
        rw [up_at, if_pos (by omega)]
        congr 1
        omega
      · rw [up_ne z]
        by_cases z2 : i = k
        · subst z2
          rw [up_at, if_pos (by omega)]
        · rw [up_ne z2, h i hi]
          by_cases z3 : i < k ∨ L.length - k ≤ i
          · rw [if_pos z3, if_pos (by omega)]
          · rw [if_neg z3, if_neg (by omega)])
    rw [c_putput] at hf
    refine ⟨f, hf, fun Q => ?_⟩
    have hq' := hq Q
    rw [c_putput] at hq'
    refine Eq.trans ?_ hq'
    rw [w_28_2]
    simp (disch := omega) only [w_28_0, w_28_1, w_28_3, w_28_4, w_28_5, w_28_6, w_28_9, w_28_10, w_28_11, w_28_12, w_28_13, w_28_14, w_28_15, w_28_16, w_28_17, w_28_18, w_28_19, w_28_20, w_28_21, w_28_22, w_28_23, w_28_24, w_28_25, w_28_26, w_28_27, w_28_28, w_28_29, w_28_30, w_28_31, w_28_34, w_28_37, w_28_38, mm_k_none, mm_k_int, mm_k_ref, mm_k_null, mm_K_inl, mm_tl_some, mm_tl_none, mm_fg_ok, mm_rc_ok, mm_fp_ok, mm_ai_ok, mm_si_ok, mm_az_ok, mm_sz_ok, z01, z11, zb, b2i_t, b2i_f, true_and, and_true, Nat.zero_le, Nat.not_lt_zero, if_true, if_false, m1_lt, m1_ge, mm_inT, pk_mul, nI_add, mm_in_nI, mm_cl_nI, nI_eq, nI_ltI, nI_leI, ↓reduceIte, Nat.add_zero, Nat.reduceLeDiff, oI_some, oI_none, m1_lt, nI_lt0, Rf_fail_eq, Rf_out_eq, eq_self, not_true_eq_false, not_false_eq_true, Nat.reduceEqDiff, Nat.reduceLT, ne_eq, or_true, true_or, or_false, false_or, decide_true, decide_false, Bool.true_eq_false, Bool.false_eq_true, b2i_ne, e2, pk_div, e, c_b_at hL hB, c_set_b hL hB, ek, ek2, nI_m, c_put_at, c_putput]
theorem Lc_turnRound_eq (hW : WF T σ) (hL : LK Λ σ) (hB : isB σ c m) {L : List Int32} (hb : bfAt β c m L) (hl : L.length ≤ c_len σ c m) : ∃ f, bfAt (c_put β c m f) c m L.reverse ∧ ∀ Q, WPC X d 28 [.ref (Λ.1 c m), .int (nI L.length)] (mm_C Λ σ β M) Q = Q (.inl (some (.int (nI L.length)))) (mm_C Λ σ (c_put β c m f) M) := by
  obtain ⟨f, hf, hq⟩ := Lc_turn_lp (X := X) (d := d) (M := M) hW hL hB hl (L.length / 2) 0 none β (by omega) (fun i hi => by rw [if_neg (by omega)]; exact hb i hi)
  refine ⟨f, hf, fun Q => ?_⟩
  refine Eq.trans ?_ (hq Q)
  simp only [e_28, w_28_0, w_28_1, w_28_3, w_28_4, w_28_5, w_28_6, w_28_9, w_28_10, w_28_11, w_28_12, w_28_13, w_28_14, w_28_15, w_28_16, w_28_17, w_28_18, w_28_19, w_28_20, w_28_21, w_28_22, w_28_23, w_28_24, w_28_25, w_28_26, w_28_27, w_28_28, w_28_29, w_28_30, w_28_31, w_28_34, w_28_37, w_28_38, mm_k_none, mm_k_int, mm_k_ref, mm_k_null, mm_K_inl, mm_tl_some, mm_tl_none, mm_fg_ok, mm_rc_ok, mm_fp_ok, mm_ai_ok, mm_si_ok, mm_az_ok, mm_sz_ok, z01, z11, zb, b2i_t, b2i_f, true_and, and_true]
end CL6
