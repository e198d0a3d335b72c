/-! the reference: rows of elements, marks -/
theorem nar0 : vp_nar .boolean (nI 0) = nI 0 := by decide
theorem nar1 : vp_nar .boolean (nI 1) = nI 1 := by decide
theorem nI_m {a b : Nat} (h : b ≤ a) : nI a - nI b = nI (a - b) := pk_sub h
def dI (m : Nat) : Int32 := match m with
  | 0 => -1
  | m + 1 => nI m
theorem nI_dI (m : Nat) : nI m + (-1) = dI m := by
  cases m with
  | zero => decide
  | succ m => exact pk_m1 m
/-- row n of el holds L -/
def elAt (ρ : RS) (n : Nat) (L : List Int32) : Prop := L.length ≤ 80 ∧ ρ.2.2 17 n = nI L.length ∧ ∀ i (hi : i < L.length), ρ.2.2 16 (80 * n + i) = L[i]
def r_push (ρ : RS) (n k : Nat) (v : Int32) : RS := r_put (r_put ρ 16 (upd (ρ.2.2 16) (80 * n + k) v)) 17 (upd (ρ.2.2 17) n (nI (k + 1)))
def r_pl (ρ : RS) (n : Nat) : Nat → List Int32 → RS
  | _, [] => ρ
  | k, v :: vs => r_pl (r_push ρ n k v) n (k + 1) vs
/-- what rows of elements and marks don't touch -/
def sameP (ρ ρ' : RS) : Prop := ρ'.1 = ρ.1 ∧ ρ'.2.1 = ρ.2.1 ∧ ∀ j, j < 15 → ρ'.2.2 j = ρ.2.2 j
theorem sameP.refl (ρ : RS) : sameP ρ ρ := ⟨rfl, rfl, fun _ _ => rfl⟩
theorem sameP.trans {ρ ρ1 ρ2 : RS} (h : sameP ρ ρ1) (h2 : sameP ρ1 ρ2) : sameP ρ ρ2 := ⟨h2.1.trans h.1, h2.2.1.trans h.2.1, fun j hj => (h2.2.2 j hj).trans (h.2.2 j hj)⟩
theorem sameP.put {ρ : RS} {j : Nat} {f : Nat → Int32} (h : 15 ≤ j) : sameP ρ (r_put ρ j f) := ⟨rfl, rfl, fun i hi => r_put_ne (by omega)⟩
theorem RRel.same {σ : Sg} {ρ ρ' : RS} (h : RRel σ ρ) (hs : sameP ρ ρ') : RRel σ ρ' := by
  obtain ⟨-, s2, s3⟩ := hs
  unfold RRel at h ⊢
  rw [s2, s3 1 (by decide), s3 2 (by decide), s3 3 (by decide), s3 4 (by decide), s3 5 (by decide), s3 6 (by decide), s3 7 (by decide), s3 8 (by decide), s3 9 (by decide), s3 10 (by decide), s3 11 (by decide), s3 12 (by decide), s3 13 (by decide), s3 14 (by decide)]
  exact h
theorem push_at {ρ : RS} {n : Nat} {L : List Int32} {v : Int32} (h : elAt ρ n L) (hl : L.length < 80) : elAt (r_push ρ n L.length v) n (L ++ [v]) := by
  obtain ⟨h1, h2, h3⟩ := h
  refine ⟨by simp; omega, by simp [r_push, r_put, upd], fun i hi => ?_⟩
  simp only [List.length_append, List.length_cons, List.length_nil] at hi
  by_cases hi2 : i < L.length
  · rw [List.getElem_append_left hi2, ← h3 i hi2]
    show upd (ρ.2.2 16) (80 * n + L.length) v (80 * n + i) = _
    unfold upd
    rw [if_neg (by omega)]
  · have hi3 : i = L.length := by omega
    subst hi3
    simp [r_push, r_put, upd]
theorem push_ne {ρ : RS} {n m k : Nat} {L : List Int32} {v : Int32} (hm : m ≠ n) (hk : k < 80) (h : elAt ρ m L) : elAt (r_push ρ n k v) m L := by
  obtain ⟨h1, h2, h3⟩ := h
  refine ⟨h1, by simp [r_push, r_put, upd, hm, h2], fun i hi => ?_⟩
  rw [← h3 i hi]
  show upd (ρ.2.2 16) (80 * n + k) v (80 * m + i) = _
  unfold upd
  rw [if_neg (by omega)]
theorem push_same {ρ : RS} {n k : Nat} {v : Int32} : sameP ρ (r_push ρ n k v) ∧ (r_push ρ n k v).2.2 15 = ρ.2.2 15 := ⟨(sameP.put (by decide)).trans (sameP.put (by decide)), by simp [r_push, r_put]⟩
theorem pl_at {n : Nat} : ∀ (vs L : List Int32) {ρ : RS}, elAt ρ n L → L.length + vs.length ≤ 80 → elAt (r_pl ρ n L.length vs) n (L ++ vs)
  | [], L, ρ, h, _ => by simpa [r_pl] using h
  | v :: vs, L, ρ, h, hl => by
    simp only [List.length_cons] at hl
    have h1 := push_at (v := v) h (by omega)
    have h2 := pl_at vs (L ++ [v]) h1 (by simp; omega)
    simpa [r_pl] using h2
theorem pl_ne {n m : Nat} (hm : m ≠ n) {L : List Int32} : ∀ (vs : List Int32) (k : Nat) {ρ : RS}, elAt ρ m L → k + vs.length ≤ 80 → elAt (r_pl ρ n k vs) m L
  | [], k, ρ, h, _ => h
  | v :: vs, k, ρ, h, hl => by
    simp only [List.length_cons] at hl
    exact pl_ne hm vs (k + 1) (push_ne hm (by omega) h) (by omega)
theorem pl_same {n : Nat} : ∀ (vs : List Int32) (k : Nat) {ρ : RS}, sameP ρ (r_pl ρ n k vs) ∧ (r_pl ρ n k vs).2.2 15 = ρ.2.2 15
  | [], k, ρ => ⟨sameP.refl ρ, rfl⟩
  | v :: vs, k, ρ => by
    have h1 := push_same (ρ := ρ) (n := n) (k := k) (v := v)
    have h2 := pl_same vs (k + 1) (ρ := r_push ρ n k v) (n := n)
    exact ⟨h1.1.trans h2.1, h2.2.trans h1.2⟩
section RF3
variable {X : Nat × Nat × (Nat → Int32)} {d rm T n m : Nat} {σ : Sg} {ρ : RS} {M : mm_M} {Q : mm_Out → mm_M → Prop}
theorem Rf_push_eq {k : Nat} {v : Int32} (hn : n < 40) (hk : k < 80) (hs : ρ.2.2 17 n = nI k) : WPC X d 79 [.ref rm, .int (nI n), .int v] (mm_R rm ρ M) Q = Q (.inl none) (mm_R rm (r_push ρ n k v) M) := by
  simp (disch := omega) only [e_79, w_79_0, w_79_1, w_79_4, w_79_6, w_79_7, w_79_8, w_79_9, w_79_12, w_79_13, w_79_14, w_79_15, w_79_16, w_79_17, w_79_18, w_79_21, w_79_22, w_79_23, w_79_24, w_79_25, w_79_26, w_79_27, mm_k_none, mm_k_int, mm_k_ref, mm_k_null, mm_K_inl, mm_tl_some, mm_tl_none, mm_fg_ok, mm_rc_ok, mm_fp_ok, mm_ai_ok, mm_si_ok, mm_az_ok, mm_sz_ok, z01, z11, zb, b2i_t, b2i_f, true_and, and_true, r_at, r_at_1, r_at_2, r_at_3, r_at_4, r_at_5, r_at_6, r_at_7, r_at_8, r_at_9, r_at_10, r_at_11, r_at_12, r_at_13, r_at_14, r_at_15, r_at_16, r_at_17, r_set_1, r_set_2, r_set_3, r_set_4, r_set_5, r_set_6, r_set_7, r_set_8, r_set_9, r_set_10, r_set_11, r_set_12, r_set_13, r_set_14, r_set_15, r_set_16, r_set_17, r_set_f, r_set_n, r_g_0, r_g_1, r_g_2, r_g_3, r_g_4, r_g_5, r_g_6, r_g_7, r_g_8, r_g_9, r_g_10, r_g_11, r_g_12, r_g_13, r_g_14, r_g_15, r_g_16, r_g_17, r_g_18, r_olen, Nat.zero_le, Nat.not_lt_zero, if_true, if_false, m1_lt, m1_ge, mm_inT, pk_mul, nI_add, mm_in_nI, mm_cl_nI, nI_eq, nI_ltI, nI_leI, hs, r_put_ne, Nat.reduceEqDiff, ne_eq, not_false_eq_true]
  rfl
theorem Rf_has_lp {v : Int32} {L : List Int32} (hn : n < 40) (h : elAt ρ n L) : ∀ (j k : Nat), j + k = L.length → WP X d 81 2 [some (.ref rm), some (.int (nI n)), some (.int v), some (.int (nI k))] [] (mm_R rm ρ M) Q = Q (.inl (some (.int (b2i (decide (v ∈ L.drop k)))))) (mm_R rm ρ M) := by
  obtain ⟨h1, h2, h3⟩ := h
  intro j
  induction j with
  | zero =>
    intro k hk
    have hd : L.drop k = [] := List.drop_eq_nil_of_le (by omega)
    rw [w_81_2, hd]
    simp (disch := omega) only [w_81_0, w_81_1, w_81_3, w_81_4, w_81_7, w_81_8, w_81_9, w_81_12, w_81_13, w_81_16, w_81_18, w_81_19, w_81_20, w_81_21, w_81_22, w_81_23, w_81_24, w_81_27, w_81_28, w_81_29, w_81_32, w_81_35, w_81_36, mm_k_none, mm_k_int, mm_k_ref, mm_k_null, mm_K_inl, mm_tl_some, mm_tl_none, mm_fg_ok, mm_rc_ok, mm_fp_ok, mm_ai_ok, mm_si_ok, mm_az_ok, mm_sz_ok, z01, z11, zb, b2i_t, b2i_f, true_and, and_true, r_at, r_at_1, r_at_2, r_at_3, r_at_4, r_at_5, r_at_6, r_at_7, r_at_8, r_at_9, r_at_10, r_at_11, r_at_12, r_at_13, r_at_14, r_at_15, r_at_16, r_at_17, r_set_1, r_set_2, r_set_3, r_set_4, r_set_5, r_set_6, r_set_7, r_set_8, r_set_9, r_set_10, r_set_11, r_set_12, r_set_13, r_set_14, r_set_15, r_set_16, r_set_17, r_set_f, r_set_n, r_g_0, r_g_1, r_g_2, r_g_3, r_g_4, r_g_5, r_g_6, r_g_7, r_g_8, r_g_9, r_g_10, r_g_11, r_g_12, r_g_13, r_g_14, r_g_15, r_g_16, r_g_17, r_g_18, r_olen, Nat.zero_le, Nat.not_lt_zero, if_true, if_false, m1_lt, m1_ge, mm_inT, pk_mul, nI_add, mm_in_nI, mm_cl_nI, nI_eq, nI_ltI, nI_leI, h2]
    have e : L.length ≤ k := by omega
    simp [e, b2i]
  | succ j ih =>
    intro k hk
    have hd : L.drop k = L[k] :: L.drop (k + 1) := List.drop_eq_getElem_cons (by omega)
    rw [w_81_2, hd]
    have e : ¬ L.length ≤ k := by omega
    simp (disch := omega) only [w_81_0, w_81_1, w_81_3, w_81_4, w_81_7, w_81_8, w_81_9, w_81_12, w_81_13, w_81_16, w_81_18, w_81_19, w_81_20, w_81_21, w_81_22, w_81_23, w_81_24, w_81_27, w_81_28, w_81_29, w_81_32, w_81_35, w_81_36, mm_k_none, mm_k_int, mm_k_ref, mm_k_null, mm_K_inl, mm_tl_some, mm_tl_none, mm_fg_ok, mm_rc_ok, mm_fp_ok, mm_ai_ok, mm_si_ok, mm_az_ok, mm_sz_ok, z01, z11, zb, b2i_t, b2i_f, true_and, and_true, r_at, r_at_1, r_at_2, r_at_3, r_at_4, r_at_5, r_at_6, r_at_7, r_at_8, r_at_9, r_at_10, r_at_11, r_at_12, r_at_13, r_at_14, r_at_15, r_at_16, r_at_17, r_set_1, r_set_2, r_set_3, r_set_4, r_set_5, r_set_6, r_set_7, r_set_8, r_set_9, r_set_10, r_set_11, r_set_12, r_set_13, r_set_14, r_set_15, r_set_16, r_set_17, r_set_f, r_set_n, r_g_0, r_g_1, r_g_2, r_g_3, r_g_4, r_g_5, r_g_6, r_g_7, r_g_8, r_g_9, r_g_10, r_g_11, r_g_12, r_g_13, r_g_14, r_g_15, r_g_16, r_g_17, r_g_18, r_olen, Nat.zero_le, Nat.not_lt_zero, if_true, if_false, m1_lt, m1_ge, mm_inT, pk_mul, nI_add, mm_in_nI, mm_cl_nI, nI_eq, nI_ltI, nI_leI, h2, h3 k (by omega), e, ih (k + 1) (by omega)]
    by_cases hv : L[k] = v
    · simp [hv, b2i]
    · have hv2 : ¬ v = L[k] := fun z => hv z.symm
      simp only [List.mem_cons, hv, hv2, false_or, not_false_eq_true, if_true, if_false]
theorem Rf_has_eq {v : Int32} {L : List Int32} (hn : n < 40) (h : elAt ρ n L) : WPC X d 81 [.ref rm, .int (nI n), .int v] (mm_R rm ρ M) Q = Q (.inl (some (.int (b2i (decide (v ∈ L)))))) (mm_R rm ρ M) := by
  simp (disch := omega) only [e_81, w_81_0, w_81_1, w_81_3, w_81_4, w_81_7, w_81_8, w_81_9, w_81_12, w_81_13, w_81_16, w_81_18, w_81_19, w_81_20, w_81_21, w_81_22, w_81_23, w_81_24, w_81_27, w_81_28, w_81_29, w_81_32, w_81_35, w_81_36, mm_k_none, mm_k_int, mm_k_ref, mm_k_null, mm_K_inl, mm_tl_some, mm_tl_none, mm_fg_ok, mm_rc_ok, mm_fp_ok, mm_ai_ok, mm_si_ok, mm_az_ok, mm_sz_ok, z01, z11, zb, b2i_t, b2i_f, true_and, and_true, r_at, r_at_1, r_at_2, r_at_3, r_at_4, r_at_5, r_at_6, r_at_7, r_at_8, r_at_9, r_at_10, r_at_11, r_at_12, r_at_13, r_at_14, r_at_15, r_at_16, r_at_17, r_set_1, r_set_2, r_set_3, r_set_4, r_set_5, r_set_6, r_set_7, r_set_8, r_set_9, r_set_10, r_set_11, r_set_12, r_set_13, r_set_14, r_set_15, r_set_16, r_set_17, r_set_f, r_set_n, r_g_0, r_g_1, r_g_2, r_g_3, r_g_4, r_g_5, r_g_6, r_g_7, r_g_8, r_g_9, r_g_10, r_g_11, r_g_12, r_g_13, r_g_14, r_g_15, r_g_16, r_g_17, r_g_18, r_olen, Nat.zero_le, Nat.not_lt_zero, if_true, if_false, m1_lt, m1_ge, mm_inT, pk_mul, nI_add, mm_in_nI, mm_cl_nI, nI_eq, nI_ltI, nI_leI]
  rw [Rf_has_lp hn h L.length 0 (by omega), List.drop_zero]
/-- the first place -/
def fst1 (v : Int32) : List Int32 → Option Nat
  | [] => none
  | x :: xs => if x = v then some 0 else (fst1 v xs).map (· + 1)
theorem Rf_firstOf_lp {v : Int32} {L : List Int32} (hn : n < 40) (h : elAt ρ n L) : ∀ (j k : Nat), j + k = L.length → WP X d 82 2 [some (.ref rm), some (.int (nI n)), some (.int v), some (.int (nI k))] [] (mm_R rm ρ M) Q = Q (.inl (some (.int (oI ((fst1 v (L.drop k)).map (· + k)))))) (mm_R rm ρ M) := by
  obtain ⟨h1, h2, h3⟩ := h
  intro j
  induction j with
  | zero =>
    intro k hk
    have hd : L.drop k = [] := List.drop_eq_nil_of_le (by omega)
    rw [w_82_2, hd]
    simp (disch := omega) only [w_82_0, w_82_1, w_82_3, w_82_4, w_82_7, w_82_8, w_82_9, w_82_12, w_82_13, w_82_16, w_82_18, w_82_19, w_82_20, w_82_21, w_82_22, w_82_23, w_82_24, w_82_27, w_82_28, w_82_29, w_82_32, w_82_35, w_82_36, mm_k_none, mm_k_int, mm_k_ref, mm_k_null, mm_K_inl, mm_tl_some, mm_tl_none, mm_fg_ok, mm_rc_ok, mm_fp_ok, mm_ai_ok, mm_si_ok, mm_az_ok, mm_sz_ok, z01, z11, zb, b2i_t, b2i_f, true_and, and_true, r_at, r_at_1, r_at_2, r_at_3, r_at_4, r_at_5, r_at_6, r_at_7, r_at_8, r_at_9, r_at_10, r_at_11, r_at_12, r_at_13, r_at_14, r_at_15, r_at_16, r_at_17, r_set_1, r_set_2, r_set_3, r_set_4, r_set_5, r_set_6, r_set_7, r_set_8, r_set_9, r_set_10, r_set_11, r_set_12, r_set_13, r_set_14, r_set_15, r_set_16, r_set_17, r_set_f, r_set_n, r_g_0, r_g_1, r_g_2, r_g_3, r_g_4, r_g_5, r_g_6, r_g_7, r_g_8, r_g_9, r_g_10, r_g_11, r_g_12, r_g_13, r_g_14, r_g_15, r_g_16, r_g_17, r_g_18, r_olen, Nat.zero_le, Nat.not_lt_zero, if_true, if_false, m1_lt, m1_ge, mm_inT, pk_mul, nI_add, mm_in_nI, mm_cl_nI, nI_eq, nI_ltI, nI_leI, h2]
    have e : L.length ≤ k := by omega
    simp [e, fst1, oI]
  | succ j ih =>
    intro k hk
    have hd : L.drop k = L[k] :: L.drop (k + 1) := List.drop_eq_getElem_cons (by omega)
    rw [w_82_2, hd]
    have e : ¬ L.length ≤ k := by omega
    simp (disch := omega) only [w_82_0, w_82_1, w_82_3, w_82_4, w_82_7, w_82_8, w_82_9, w_82_12, w_82_13, w_82_16, w_82_18, w_82_19, w_82_20, w_82_21, w_82_22, w_82_23, w_82_24, w_82_27, w_82_28, w_82_29, w_82_32, w_82_35, w_82_36, mm_k_none, mm_k_int, mm_k_ref, mm_k_null, mm_K_inl, mm_tl_some, mm_tl_none, mm_fg_ok, mm_rc_ok, mm_fp_ok, mm_ai_ok, mm_si_ok, mm_az_ok, mm_sz_ok, z01, z11, zb, b2i_t, b2i_f, true_and, and_true, r_at, r_at_1, r_at_2, r_at_3, r_at_4, r_at_5, r_at_6, r_at_7, r_at_8, r_at_9, r_at_10, r_at_11, r_at_12, r_at_13, r_at_14, r_at_15, r_at_16, r_at_17, r_set_1, r_set_2, r_set_3, r_set_4, r_set_5, r_set_6, r_set_7, r_set_8, r_set_9, r_set_10, r_set_11, r_set_12, r_set_13, r_set_14, r_set_15, r_set_16, r_set_17, r_set_f, r_set_n, r_g_0, r_g_1, r_g_2, r_g_3, r_g_4, r_g_5, r_g_6, r_g_7, r_g_8, r_g_9, r_g_10, r_g_11, r_g_12, r_g_13, r_g_14, r_g_15, r_g_16, r_g_17, r_g_18, r_olen, Nat.zero_le, Nat.not_lt_zero, if_true, if_false, m1_lt, m1_ge, mm_inT, pk_mul, nI_add, mm_in_nI, mm_cl_nI, nI_eq, nI_ltI, nI_leI, h2, h3 k (by omega), e, ih (k + 1) (by omega)]
    by_cases hv : L[k] = v
    · simp [hv, fst1, oI]
    · simp [hv, fst1, Function.comp_def, Nat.add_comm, Nat.add_left_comm]
theorem Rf_firstOf_eq {v : Int32} {L : List Int32} (hn : n < 40) (h : elAt ρ n L) : WPC X d 82 [.ref rm, .int (nI n), .int v] (mm_R rm ρ M) Q = Q (.inl (some (.int (oI (fst1 v L))))) (mm_R rm ρ M) := by
  simp (disch := omega) only [e_82, w_82_0, w_82_1, w_82_3, w_82_4, w_82_7, w_82_8, w_82_9, w_82_12, w_82_13, w_82_16, w_82_18, w_82_19, w_82_20, w_82_21, w_82_22, w_82_23, w_82_24, w_82_27, w_82_28, w_82_29, w_82_32, w_82_35, w_82_36, mm_k_none, mm_k_int, mm_k_ref, mm_k_null, mm_K_inl, mm_tl_some, mm_tl_none, mm_fg_ok, mm_rc_ok, mm_fp_ok, mm_ai_ok, mm_si_ok, mm_az_ok, mm_sz_ok, z01, z11, zb, b2i_t, b2i_f, true_and, and_true, r_at, r_at_1, r_at_2, r_at_3, r_at_4, r_at_5, r_at_6, r_at_7, r_at_8, r_at_9, r_at_10, r_at_11, r_at_12, r_at_13, r_at_14, r_at_15, r_at_16, r_at_17, r_set_1, r_set_2, r_set_3, r_set_4, r_set_5, r_set_6, r_set_7, r_set_8, r_set_9, r_set_10, r_set_11, r_set_12, r_set_13, r_set_14, r_set_15, r_set_16, r_set_17, r_set_f, r_set_n, r_g_0, r_g_1, r_g_2, r_g_3, r_g_4, r_g_5, r_g_6, r_g_7, r_g_8, r_g_9, r_g_10, r_g_11, r_g_12, r_g_13, r_g_14, r_g_15, r_g_16, r_g_17, r_g_18, r_olen, Nat.zero_le, Nat.not_lt_zero, if_true, if_false, m1_lt, m1_ge, mm_inT, pk_mul, nI_add, mm_in_nI, mm_cl_nI, nI_eq, nI_ltI, nI_leI]
  rw [Rf_firstOf_lp hn h L.length 0 (by omega), List.drop_zero]
  simp
end RF3
