/-! the class: what it looks at -/
theorem mm_G_ok {k pc kc : Nat} {Q : mm_Out → mm_M → Prop} {x : Nat} {M : mm_M} (h : 14 ≤ k ∧ k ≤ 62) (h2 : 16 ≤ kc ∧ kc ≤ 62) : mm_G k pc kc Q x M = Q (.inr x) M := by
  have t : ∀ i : Fin 63, (14 ≤ i.val → mm_kd i.val < 2 ∨ i.val = 14) := by decide +kernel
  have t14 : mm_kd 14 ≠ 3 ∧ mm_kd 14 ≠ 4 := by decide +kernel
  have a1 := t ⟨k, by omega⟩ h.1
  have a2 := t ⟨kc, by omega⟩ (by show 14 ≤ kc; omega)
  have b1 : mm_kd k ≠ 3 ∧ mm_kd k ≠ 4 := by
    rcases a1 with z | z
    · have z' : mm_kd k < 2 := z
      omega
    · have z' : k = 14 := z
      rw [z']; exact t14
  have b2 : mm_kd kc ≠ 2 := by
    rcases a2 with z | z
    · have z' : mm_kd kc < 2 := z
      omega
    · have z' : kc = 14 := z
      omega
  unfold mm_G
  rw [if_neg b2, if_neg b1.1, if_neg b1.2]
theorem c_skip {Λ : Lay} {σ : Sg} {β : CS} {M : mm_M} {n : Nat} : mm_skip (mm_C Λ σ β M) n = mm_C Λ σ β (mm_skip M n) := rfl
theorem rf_n : va_rf none = .null := rfl
theorem rf_s {a : Nat} : va_rf (some a) = .ref a := rfl
section CL3
variable {X : Nat × Nat × (Nat → Int32)} {d T n : Nat} {Λ : Lay} {σ : Sg} {β : CS} {M : mm_M} {Q : mm_Out → mm_M → Prop} {b : Bool}
theorem Lc_needTold_eq : WPC X (d + 6) 17 [.int (b2i b)] M Q = if b = true then Q (.inl none) M else Q (.inr 0) (mm_skip M 6) := by
  cases b <;> simp (disch := omega) only [e_17, w_17_0, w_17_1, w_17_4, w_17_12, mm_k_none, mm_k_int, mm_k_ref, mm_k_null, mm_K_inl, mm_tl_some, mm_tl_none, mm_fg_ok, mm_rc_ok, mm_fp_ok, mm_ai_ok, mm_si_ok, mm_az_ok, mm_sz_ok, z01, z11, zb, b2i_t, b2i_f, true_and, and_true, Nat.zero_le, Nat.not_lt_zero, if_true, if_false, m1_lt, m1_ge, mm_inT, pk_mul, nI_add, mm_in_nI, mm_cl_nI, nI_eq, nI_ltI, nI_leI, ↓reduceIte, Nat.add_zero, Nat.reduceLeDiff, oI_some, oI_none, m1_lt, nI_lt0, Rf_fail_eq, Rf_out_eq, eq_self, not_true_eq_false, not_false_eq_true, Nat.reduceEqDiff, Nat.reduceLT, ne_eq, or_true, true_or, or_false, false_or, decide_true, decide_false, Bool.true_eq_false, Bool.false_eq_true, b2i_ne]
theorem Lc_needRoom_eq : WPC X (d + 6) 19 [.int (b2i b)] M Q = if b = true then Q (.inl none) M else Q (.inr 1) (mm_skip M 6) := by
  cases b <;> simp (disch := omega) only [e_19, w_19_0, w_19_1, w_19_4, w_19_12, mm_k_none, mm_k_int, mm_k_ref, mm_k_null, mm_K_inl, mm_tl_some, mm_tl_none, mm_fg_ok, mm_rc_ok, mm_fp_ok, mm_ai_ok, mm_si_ok, mm_az_ok, mm_sz_ok, z01, z11, zb, b2i_t, b2i_f, true_and, and_true, Nat.zero_le, Nat.not_lt_zero, if_true, if_false, m1_lt, m1_ge, mm_inT, pk_mul, nI_add, mm_in_nI, mm_cl_nI, nI_eq, nI_ltI, nI_leI, ↓reduceIte, Nat.add_zero, Nat.reduceLeDiff, oI_some, oI_none, m1_lt, nI_lt0, Rf_fail_eq, Rf_out_eq, eq_self, not_true_eq_false, not_false_eq_true, Nat.reduceEqDiff, Nat.reduceLT, ne_eq, or_true, true_or, or_false, false_or, decide_true, decide_false, Bool.true_eq_false, Bool.false_eq_true, b2i_ne]
theorem Lc_needPlace_eq : WPC X (d + 6) 39 [.int (b2i b)] M Q = if b = true then Q (.inl none) M else Q (.inr 2) (mm_skip M 6) := by
  cases b <;> simp (disch := omega) only [e_39, w_39_0, w_39_1, w_39_4, w_39_12, mm_k_none, mm_k_int, mm_k_ref, mm_k_null, mm_K_inl, mm_tl_some, mm_tl_none, mm_fg_ok, mm_rc_ok, mm_fp_ok, mm_ai_ok, mm_si_ok, mm_az_ok, mm_sz_ok, z01, z11, zb, b2i_t, b2i_f, true_and, and_true, Nat.zero_le, Nat.not_lt_zero, if_true, if_false, m1_lt, m1_ge, mm_inT, pk_mul, nI_add, mm_in_nI, mm_cl_nI, nI_eq, nI_ltI, nI_leI, ↓reduceIte, Nat.add_zero, Nat.reduceLeDiff, oI_some, oI_none, m1_lt, nI_lt0, Rf_fail_eq, Rf_out_eq, eq_self, not_true_eq_false, not_false_eq_true, Nat.reduceEqDiff, Nat.reduceLT, ne_eq, or_true, true_or, or_false, false_or, decide_true, decide_false, Bool.true_eq_false, Bool.false_eq_true, b2i_ne]
theorem Lc_needThere_eq : WPC X (d + 6) 47 [.int (b2i b)] M Q = if b = true then Q (.inl none) M else Q (.inr 3) (mm_skip M 6) := by
  cases b <;> simp (disch := omega) only [e_47, w_47_0, w_47_1, w_47_4, w_47_12, mm_k_none, mm_k_int, mm_k_ref, mm_k_null, mm_K_inl, mm_tl_some, mm_tl_none, mm_fg_ok, mm_rc_ok, mm_fp_ok, mm_ai_ok, mm_si_ok, mm_az_ok, mm_sz_ok, z01, z11, zb, b2i_t, b2i_f, true_and, and_true, Nat.zero_le, Nat.not_lt_zero, if_true, if_false, m1_lt, m1_ge, mm_inT, pk_mul, nI_add, mm_in_nI, mm_cl_nI, nI_eq, nI_ltI, nI_leI, ↓reduceIte, Nat.add_zero, Nat.reduceLeDiff, oI_some, oI_none, m1_lt, nI_lt0, Rf_fail_eq, Rf_out_eq, eq_self, not_true_eq_false, not_false_eq_true, Nat.reduceEqDiff, Nat.reduceLT, ne_eq, or_true, true_or, or_false, false_or, decide_true, decide_false, Bool.true_eq_false, Bool.false_eq_true, b2i_ne]
theorem Lc_needSupported_eq : WPC X (d + 6) 50 [.int (b2i b)] M Q = if b = true then Q (.inl none) M else Q (.inr 4) (mm_skip M 6) := by
  cases b <;> simp (disch := omega) only [e_50, w_50_0, w_50_1, w_50_4, w_50_12, mm_k_none, mm_k_int, mm_k_ref, mm_k_null, mm_K_inl, mm_tl_some, mm_tl_none, mm_fg_ok, mm_rc_ok, mm_fp_ok, mm_ai_ok, mm_si_ok, mm_az_ok, mm_sz_ok, z01, z11, zb, b2i_t, b2i_f, true_and, and_true, Nat.zero_le, Nat.not_lt_zero, if_true, if_false, m1_lt, m1_ge, mm_inT, pk_mul, nI_add, mm_in_nI, mm_cl_nI, nI_eq, nI_ltI, nI_leI, ↓reduceIte, Nat.add_zero, Nat.reduceLeDiff, oI_some, oI_none, m1_lt, nI_lt0, Rf_fail_eq, Rf_out_eq, eq_self, not_true_eq_false, not_false_eq_true, Nat.reduceEqDiff, Nat.reduceLT, ne_eq, or_true, true_or, or_false, false_or, decide_true, decide_false, Bool.true_eq_false, Bool.false_eq_true, b2i_ne]
theorem Lc_needTold_1 : WPC X (d + 6) 17 [.int (nI 1)] M Q = Q (.inl none) M := by
  simp (disch := omega) only [e_17, w_17_0, w_17_1, w_17_4, w_17_12, mm_k_none, mm_k_int, mm_k_ref, mm_k_null, mm_K_inl, mm_tl_some, mm_tl_none, mm_fg_ok, mm_rc_ok, mm_fp_ok, mm_ai_ok, mm_si_ok, mm_az_ok, mm_sz_ok, z01, z11, zb, b2i_t, b2i_f, true_and, and_true, Nat.zero_le, Nat.not_lt_zero, if_true, if_false, m1_lt, m1_ge, mm_inT, pk_mul, nI_add, mm_in_nI, mm_cl_nI, nI_eq, nI_ltI, nI_leI, ↓reduceIte, Nat.add_zero, Nat.reduceLeDiff, oI_some, oI_none, m1_lt, nI_lt0, Rf_fail_eq, Rf_out_eq, eq_self, not_true_eq_false, not_false_eq_true, Nat.reduceEqDiff, Nat.reduceLT, ne_eq, or_true, true_or, or_false, false_or, decide_true, decide_false, Bool.true_eq_false, Bool.false_eq_true, b2i_ne]
theorem Lc_needTold_0 : WPC X (d + 6) 17 [.int (nI 0)] M Q = Q (.inr 0) (mm_skip M 6) := by
  simp (disch := omega) only [e_17, w_17_0, w_17_1, w_17_4, w_17_12, mm_k_none, mm_k_int, mm_k_ref, mm_k_null, mm_K_inl, mm_tl_some, mm_tl_none, mm_fg_ok, mm_rc_ok, mm_fp_ok, mm_ai_ok, mm_si_ok, mm_az_ok, mm_sz_ok, z01, z11, zb, b2i_t, b2i_f, true_and, and_true, Nat.zero_le, Nat.not_lt_zero, if_true, if_false, m1_lt, m1_ge, mm_inT, pk_mul, nI_add, mm_in_nI, mm_cl_nI, nI_eq, nI_ltI, nI_leI, ↓reduceIte, Nat.add_zero, Nat.reduceLeDiff, oI_some, oI_none, m1_lt, nI_lt0, Rf_fail_eq, Rf_out_eq, eq_self, not_true_eq_false, not_false_eq_true, Nat.reduceEqDiff, Nat.reduceLT, ne_eq, or_true, true_or, or_false, false_or, decide_true, decide_false, Bool.true_eq_false, Bool.false_eq_true, b2i_ne]
theorem Lc_needRoom_1 : WPC X (d + 6) 19 [.int (nI 1)] M Q = Q (.inl none) M := by
  simp (disch := omega) only [e_19, w_19_0, w_19_1, w_19_4, w_19_12, mm_k_none, mm_k_int, mm_k_ref, mm_k_null, mm_K_inl, mm_tl_some, mm_tl_none, mm_fg_ok, mm_rc_ok, mm_fp_ok, mm_ai_ok, mm_si_ok, mm_az_ok, mm_sz_ok, z01, z11, zb, b2i_t, b2i_f, true_and, and_true, Nat.zero_le, Nat.not_lt_zero, if_true, if_false, m1_lt, m1_ge, mm_inT, pk_mul, nI_add, mm_in_nI, mm_cl_nI, nI_eq, nI_ltI, nI_leI, ↓reduceIte, Nat.add_zero, Nat.reduceLeDiff, oI_some, oI_none, m1_lt, nI_lt0, Rf_fail_eq, Rf_out_eq, eq_self, not_true_eq_false, not_false_eq_true, Nat.reduceEqDiff, Nat.reduceLT, ne_eq, or_true, true_or, or_false, false_or, decide_true, decide_false, Bool.true_eq_false, Bool.false_eq_true, b2i_ne]
theorem Lc_needRoom_0 : WPC X (d + 6) 19 [.int (nI 0)] M Q = Q (.inr 1) (mm_skip M 6) := by
  simp (disch := omega) only [e_19, w_19_0, w_19_1, w_19_4, w_19_12, mm_k_none, mm_k_int, mm_k_ref, mm_k_null, mm_K_inl, mm_tl_some, mm_tl_none, mm_fg_ok, mm_rc_ok, mm_fp_ok, mm_ai_ok, mm_si_ok, mm_az_ok, mm_sz_ok, z01, z11, zb, b2i_t, b2i_f, true_and, and_true, Nat.zero_le, Nat.not_lt_zero, if_true, if_false, m1_lt, m1_ge, mm_inT, pk_mul, nI_add, mm_in_nI, mm_cl_nI, nI_eq, nI_ltI, nI_leI, ↓reduceIte, Nat.add_zero, Nat.reduceLeDiff, oI_some, oI_none, m1_lt, nI_lt0, Rf_fail_eq, Rf_out_eq, eq_self, not_true_eq_false, not_false_eq_true, Nat.reduceEqDiff, Nat.reduceLT, ne_eq, or_true, true_or, or_false, false_or, decide_true, decide_false, Bool.true_eq_false, Bool.false_eq_true, b2i_ne]
theorem Lc_needPlace_1 : WPC X (d + 6) 39 [.int (nI 1)] M Q = Q (.inl none) M := by
  simp (disch := omega) only [e_39, w_39_0, w_39_1, w_39_4, w_39_12, mm_k_none, mm_k_int, mm_k_ref, mm_k_null, mm_K_inl, mm_tl_some, mm_tl_none, mm_fg_ok, mm_rc_ok, mm_fp_ok, mm_ai_ok, mm_si_ok, mm_az_ok, mm_sz_ok, z01, z11, zb, b2i_t, b2i_f, true_and, and_true, Nat.zero_le, Nat.not_lt_zero, if_true, if_false, m1_lt, m1_ge, mm_inT, pk_mul, nI_add, mm_in_nI, mm_cl_nI, nI_eq, nI_ltI, nI_leI, ↓reduceIte, Nat.add_zero, Nat.reduceLeDiff, oI_some, oI_none, m1_lt, nI_lt0, Rf_fail_eq, Rf_out_eq, eq_self, not_true_eq_false, not_false_eq_true, Nat.reduceEqDiff, Nat.reduceLT, ne_eq, or_true, true_or, or_false, false_or, decide_true, decide_false, Bool.true_eq_false, Bool.false_eq_true, b2i_ne]
theorem Lc_needPlace_0 : WPC X (d + 6) 39 [.int (nI 0)] M Q = Q (.inr 2) (mm_skip M 6) := by
  simp (disch := omega) only [e_39, w_39_0, w_39_1, w_39_4, w_39_12, mm_k_none, mm_k_int, mm_k_ref, mm_k_null, mm_K_inl, mm_tl_some, mm_tl_none, mm_fg_ok, mm_rc_ok, mm_fp_ok, mm_ai_ok, mm_si_ok, mm_az_ok, mm_sz_ok, z01, z11, zb, b2i_t, b2i_f, true_and, and_true, Nat.zero_le, Nat.not_lt_zero, if_true, if_false, m1_lt, m1_ge, mm_inT, pk_mul, nI_add, mm_in_nI, mm_cl_nI, nI_eq, nI_ltI, nI_leI, ↓reduceIte, Nat.add_zero, Nat.reduceLeDiff, oI_some, oI_none, m1_lt, nI_lt0, Rf_fail_eq, Rf_out_eq, eq_self, not_true_eq_false, not_false_eq_true, Nat.reduceEqDiff, Nat.reduceLT, ne_eq, or_true, true_or, or_false, false_or, decide_true, decide_false, Bool.true_eq_false, Bool.false_eq_true, b2i_ne]
theorem Lc_needThere_1 : WPC X (d + 6) 47 [.int (nI 1)] M Q = Q (.inl none) M := by
  simp (disch := omega) only [e_47, w_47_0, w_47_1, w_47_4, w_47_12, mm_k_none, mm_k_int, mm_k_ref, mm_k_null, mm_K_inl, mm_tl_some, mm_tl_none, mm_fg_ok, mm_rc_ok, mm_fp_ok, mm_ai_ok, mm_si_ok, mm_az_ok, mm_sz_ok, z01, z11, zb, b2i_t, b2i_f, true_and, and_true, Nat.zero_le, Nat.not_lt_zero, if_true, if_false, m1_lt, m1_ge, mm_inT, pk_mul, nI_add, mm_in_nI, mm_cl_nI, nI_eq, nI_ltI, nI_leI, ↓reduceIte, Nat.add_zero, Nat.reduceLeDiff, oI_some, oI_none, m1_lt, nI_lt0, Rf_fail_eq, Rf_out_eq, eq_self, not_true_eq_false, not_false_eq_true, Nat.reduceEqDiff, Nat.reduceLT, ne_eq, or_true, true_or, or_false, false_or, decide_true, decide_false, Bool.true_eq_false, Bool.false_eq_true, b2i_ne]
theorem Lc_needThere_0 : WPC X (d + 6) 47 [.int (nI 0)] M Q = Q (.inr 3) (mm_skip M 6) := by
  simp (disch := omega) only [e_47, w_47_0, w_47_1, w_47_4, w_47_12, mm_k_none, mm_k_int, mm_k_ref, mm_k_null, mm_K_inl, mm_tl_some, mm_tl_none, mm_fg_ok, mm_rc_ok, mm_fp_ok, mm_ai_ok, mm_si_ok, mm_az_ok, mm_sz_ok, z01, z11, zb, b2i_t, b2i_f, true_and, and_true, Nat.zero_le, Nat.not_lt_zero, if_true, if_false, m1_lt, m1_ge, mm_inT, pk_mul, nI_add, mm_in_nI, mm_cl_nI, nI_eq, nI_ltI, nI_leI, ↓reduceIte, Nat.add_zero, Nat.reduceLeDiff, oI_some, oI_none, m1_lt, nI_lt0, Rf_fail_eq, Rf_out_eq, eq_self, not_true_eq_false, not_false_eq_true, Nat.reduceEqDiff, Nat.reduceLT, ne_eq, or_true, true_or, or_false, false_or, decide_true, decide_false, Bool.true_eq_false, Bool.false_eq_true, b2i_ne]
theorem Lc_needSupported_1 : WPC X (d + 6) 50 [.int (nI 1)] M Q = Q (.inl none) M := by
  simp (disch := omega) only [e_50, w_50_0, w_50_1, w_50_4, w_50_12, mm_k_none, mm_k_int, mm_k_ref, mm_k_null, mm_K_inl, mm_tl_some, mm_tl_none, mm_fg_ok, mm_rc_ok, mm_fp_ok, mm_ai_ok, mm_si_ok, mm_az_ok, mm_sz_ok, z01, z11, zb, b2i_t, b2i_f, true_and, and_true, Nat.zero_le, Nat.not_lt_zero, if_true, if_false, m1_lt, m1_ge, mm_inT, pk_mul, nI_add, mm_in_nI, mm_cl_nI, nI_eq, nI_ltI, nI_leI, ↓reduceIte, Nat.add_zero, Nat.reduceLeDiff, oI_some, oI_none, m1_lt, nI_lt0, Rf_fail_eq, Rf_out_eq, eq_self, not_true_eq_false, not_false_eq_true, Nat.reduceEqDiff, Nat.reduceLT, ne_eq, or_true, true_or, or_false, false_or, decide_true, decide_false, Bool.true_eq_false, Bool.false_eq_true, b2i_ne]
theorem Lc_needSupported_0 : WPC X (d + 6) 50 [.int (nI 0)] M Q = Q (.inr 4) (mm_skip M 6) := by
  simp (disch := omega) only [e_50, w_50_0, w_50_1, w_50_4, w_50_12, mm_k_none, mm_k_int, mm_k_ref, mm_k_null, mm_K_inl, mm_tl_some, mm_tl_none, mm_fg_ok, mm_rc_ok, mm_fp_ok, mm_ai_ok, mm_si_ok, mm_az_ok, mm_sz_ok, z01, z11, zb, b2i_t, b2i_f, true_and, and_true, Nat.zero_le, Nat.not_lt_zero, if_true, if_false, m1_lt, m1_ge, mm_inT, pk_mul, nI_add, mm_in_nI, mm_cl_nI, nI_eq, nI_ltI, nI_leI, ↓reduceIte, Nat.add_zero, Nat.reduceLeDiff, oI_some, oI_none, m1_lt, nI_lt0, Rf_fail_eq, Rf_out_eq, eq_self, not_true_eq_false, not_false_eq_true, Nat.reduceEqDiff, Nat.reduceLT, ne_eq, or_true, true_or, or_false, false_or, decide_true, decide_false, Bool.true_eq_false, Bool.false_eq_true, b2i_ne]
theorem bad_le {h : Int32} : bad h = !(decide (nI 0 ≤ h ∧ h < nI 10)) := by
  unfold bad
  by_cases h1 : h < nI 0
  · have : ¬ nI 0 ≤ h := Int32.not_le.2 h1
    simp [h1, this]
  · have : nI 0 ≤ h := Int32.not_lt.1 h1
    by_cases h2 : h < nI 10
    · simp [h1, h2, this]
    · simp [h1, h2]
theorem Lc_isHandle_eq {h : Int32} : WPC X d 16 [.int h] M Q = Q (.inl (some (.int (b2i (!(bad h)))))) M := by
  rw [bad_le]
  by_cases h1 : h < nI 0
  · have g : ¬ nI 0 ≤ h := Int32.not_le.2 h1
    simp (disch := omega) only [e_16, w_16_0, w_16_1, w_16_2, w_16_5, w_16_6, w_16_8, w_16_11, w_16_12, w_16_15, w_16_16, mm_k_none, mm_k_int, mm_k_ref, mm_k_null, mm_K_inl, mm_tl_some, mm_tl_none, mm_fg_ok, mm_rc_ok, mm_fp_ok, mm_ai_ok, mm_si_ok, mm_az_ok, mm_sz_ok, z01, z11, zb, b2i_t, b2i_f, true_and, and_true, ↓reduceIte, Nat.add_zero, Nat.reduceLeDiff, oI_some, oI_none, m1_lt, nI_lt0, Rf_fail_eq, Rf_out_eq, eq_self, not_true_eq_false, not_false_eq_true, Nat.reduceEqDiff, Nat.reduceLT, ne_eq, or_true, true_or, or_false, false_or, decide_true, decide_false, Bool.true_eq_false, Bool.false_eq_true, b2i_ne, h1, g, false_and, Bool.not_false, Bool.not_true]
  · have g : nI 0 ≤ h := Int32.not_lt.1 h1
    by_cases h2 : h < nI 10
    · have g2 : ¬ nI 10 ≤ h := Int32.not_le.2 h2
      simp (disch := omega) only [e_16, w_16_0, w_16_1, w_16_2, w_16_5, w_16_6, w_16_8, w_16_11, w_16_12, w_16_15, w_16_16, mm_k_none, mm_k_int, mm_k_ref, mm_k_null, mm_K_inl, mm_tl_some, mm_tl_none, mm_fg_ok, mm_rc_ok, mm_fp_ok, mm_ai_ok, mm_si_ok, mm_az_ok, mm_sz_ok, z01, z11, zb, b2i_t, b2i_f, true_and, and_true, ↓reduceIte, Nat.add_zero, Nat.reduceLeDiff, oI_some, oI_none, m1_lt, nI_lt0, Rf_fail_eq, Rf_out_eq, eq_self, not_true_eq_false, not_false_eq_true, Nat.reduceEqDiff, Nat.reduceLT, ne_eq, or_true, true_or, or_false, false_or, decide_true, decide_false, Bool.true_eq_false, Bool.false_eq_true, b2i_ne, h1, g, h2, g2, Bool.not_false, Bool.not_true]
    · have g2 : nI 10 ≤ h := Int32.not_lt.1 h2
      simp (disch := omega) only [e_16, w_16_0, w_16_1, w_16_2, w_16_5, w_16_6, w_16_8, w_16_11, w_16_12, w_16_15, w_16_16, mm_k_none, mm_k_int, mm_k_ref, mm_k_null, mm_K_inl, mm_tl_some, mm_tl_none, mm_fg_ok, mm_rc_ok, mm_fp_ok, mm_ai_ok, mm_si_ok, mm_az_ok, mm_sz_ok, z01, z11, zb, b2i_t, b2i_f, true_and, and_true, ↓reduceIte, Nat.add_zero, Nat.reduceLeDiff, oI_some, oI_none, m1_lt, nI_lt0, Rf_fail_eq, Rf_out_eq, eq_self, not_true_eq_false, not_false_eq_true, Nat.reduceEqDiff, Nat.reduceLT, ne_eq, or_true, true_or, or_false, false_or, decide_true, decide_false, Bool.true_eq_false, Bool.false_eq_true, b2i_ne, h1, g, h2, g2, and_false, Bool.not_false, Bool.not_true]
theorem mm_aa_ok {n : Nat} {f : Nat → Option Nat} {j : Int32} {K : Option Nat → Prop} : mm_aa (some (.inl (2, n, .inr (.inr (.inr (.inr f)))))) j K = (mm_in j n ∧ K (f j.toNatClampNeg)) := rfl
theorem Lc_nodeIn_no (hL : LK Λ σ) {h : Int32} (hn : ndo σ h = none) : WPC X (d + 7) 22 [.ref (Λ.1 0 0), .int h] (mm_C Λ σ β M) Q = Q (.inr 0) (mm_C Λ σ β (mm_skip M 6)) := by
  rcases ndo_cases σ h with ⟨h1, h2⟩ | ⟨h1, j, hj, rfl, h2⟩
  · simp (disch := omega) only [e_22, w_22_0, w_22_1, w_22_4, w_22_7, w_22_8, w_22_11, w_22_12, w_22_13, w_22_13n, w_22_14, w_22_14n, w_22_15, w_22_15n, w_22_18, w_22_19, w_22_22, w_22_23, w_22_26, w_22_26n, w_22_27, mm_k_none, mm_k_int, mm_k_ref, mm_k_null, mm_K_inl, mm_tl_some, mm_tl_none, mm_fg_ok, mm_rc_ok, mm_fp_ok, mm_ai_ok, mm_si_ok, mm_az_ok, mm_sz_ok, z01, z11, zb, b2i_t, b2i_f, true_and, and_true, c_g0, c_g1, c_g2, c_g3, c_g4, c_g5, c_g6, c_g7, c_g8, c_g9, c_g10, c_g11, c_g12, c_gl, c_o0, c_o1, c_o2, c_o3, c_ol, c_s0, c_s1, c_s2, c_s3, c_sl, Nat.zero_le, Nat.not_lt_zero, if_true, if_false, m1_lt, m1_ge, mm_inT, pk_mul, nI_add, mm_in_nI, mm_cl_nI, nI_eq, nI_ltI, nI_leI, ↓reduceIte, Nat.add_zero, Nat.reduceLeDiff, oI_some, oI_none, m1_lt, nI_lt0, Rf_fail_eq, Rf_out_eq, eq_self, not_true_eq_false, not_false_eq_true, Nat.reduceEqDiff, Nat.reduceLT, ne_eq, or_true, true_or, or_false, false_or, decide_true, decide_false, Bool.true_eq_false, Bool.false_eq_true, b2i_ne, mm_K_inr, mm_G_ok, c_skip, rf_n, rf_s, Lc_isHandle_eq, h1, Bool.not_true, Bool.not_false, Lc_needTold_1, Lc_needTold_0, Lc_needTold_eq, Lc_needRoom_1, Lc_needRoom_0, Lc_needRoom_eq, Lc_needPlace_1, Lc_needPlace_0, Lc_needPlace_eq, Lc_needThere_1, Lc_needThere_0, Lc_needThere_eq, Lc_needSupported_1, Lc_needSupported_0, Lc_needSupported_eq]
  · rw [h2] at hn
    have e : c_hand Λ σ j = none := by unfold c_hand; rw [if_pos hj, hn]; rfl
    simp (disch := omega) only [e_22, w_22_0, w_22_1, w_22_4, w_22_7, w_22_8, w_22_11, w_22_12, w_22_13, w_22_13n, w_22_14, w_22_14n, w_22_15, w_22_15n, w_22_18, w_22_19, w_22_22, w_22_23, w_22_26, w_22_26n, w_22_27, mm_k_none, mm_k_int, mm_k_ref, mm_k_null, mm_K_inl, mm_tl_some, mm_tl_none, mm_fg_ok, mm_rc_ok, mm_fp_ok, mm_ai_ok, mm_si_ok, mm_az_ok, mm_sz_ok, z01, z11, zb, b2i_t, b2i_f, true_and, and_true, c_g0, c_g1, c_g2, c_g3, c_g4, c_g5, c_g6, c_g7, c_g8, c_g9, c_g10, c_g11, c_g12, c_gl, c_o0, c_o1, c_o2, c_o3, c_ol, c_s0, c_s1, c_s2, c_s3, c_sl, Nat.zero_le, Nat.not_lt_zero, if_true, if_false, m1_lt, m1_ge, mm_inT, pk_mul, nI_add, mm_in_nI, mm_cl_nI, nI_eq, nI_ltI, nI_leI, ↓reduceIte, Nat.add_zero, Nat.reduceLeDiff, oI_some, oI_none, m1_lt, nI_lt0, Rf_fail_eq, Rf_out_eq, eq_self, not_true_eq_false, not_false_eq_true, Nat.reduceEqDiff, Nat.reduceLT, ne_eq, or_true, true_or, or_false, false_or, decide_true, decide_false, Bool.true_eq_false, Bool.false_eq_true, b2i_ne, mm_K_inr, mm_G_ok, c_skip, rf_n, rf_s, Lc_isHandle_eq, h1, Bool.not_true, Bool.not_false, Lc_needTold_1, Lc_needTold_0, Lc_needTold_eq, Lc_needRoom_1, Lc_needRoom_0, Lc_needRoom_eq, Lc_needPlace_1, Lc_needPlace_0, Lc_needPlace_eq, Lc_needThere_1, Lc_needThere_0, Lc_needThere_eq, Lc_needSupported_1, Lc_needSupported_0, Lc_needSupported_eq, c_obj_at hL, c_held_at hL, mm_aa_ok, e]
theorem Lc_nodeIn_ok (hL : LK Λ σ) {h : Int32} (hn : ndo σ h = some n) : WPC X (d + 7) 22 [.ref (Λ.1 0 0), .int h] (mm_C Λ σ β M) Q = Q (.inl (some (.ref (Λ.1 4 n)))) (mm_C Λ σ β M) := by
  rcases ndo_cases σ h with ⟨h1, h2⟩ | ⟨h1, j, hj, rfl, h2⟩
  · rw [h2] at hn; cases hn
  · rw [h2] at hn
    have e : c_hand Λ σ j = some (Λ.1 4 n) := by unfold c_hand; rw [if_pos hj, hn]; rfl
    simp (disch := omega) only [e_22, w_22_0, w_22_1, w_22_4, w_22_7, w_22_8, w_22_11, w_22_12, w_22_13, w_22_13n, w_22_14, w_22_14n, w_22_15, w_22_15n, w_22_18, w_22_19, w_22_22, w_22_23, w_22_26, w_22_26n, w_22_27, mm_k_none, mm_k_int, mm_k_ref, mm_k_null, mm_K_inl, mm_tl_some, mm_tl_none, mm_fg_ok, mm_rc_ok, mm_fp_ok, mm_ai_ok, mm_si_ok, mm_az_ok, mm_sz_ok, z01, z11, zb, b2i_t, b2i_f, true_and, and_true, c_g0, c_g1, c_g2, c_g3, c_g4, c_g5, c_g6, c_g7, c_g8, c_g9, c_g10, c_g11, c_g12, c_gl, c_o0, c_o1, c_o2, c_o3, c_ol, c_s0, c_s1, c_s2, c_s3, c_sl, Nat.zero_le, Nat.not_lt_zero, if_true, if_false, m1_lt, m1_ge, mm_inT, pk_mul, nI_add, mm_in_nI, mm_cl_nI, nI_eq, nI_ltI, nI_leI, ↓reduceIte, Nat.add_zero, Nat.reduceLeDiff, oI_some, oI_none, m1_lt, nI_lt0, Rf_fail_eq, Rf_out_eq, eq_self, not_true_eq_false, not_false_eq_true, Nat.reduceEqDiff, Nat.reduceLT, ne_eq, or_true, true_or, or_false, false_or, decide_true, decide_false, Bool.true_eq_false, Bool.false_eq_true, b2i_ne, mm_K_inr, mm_G_ok, c_skip, rf_n, rf_s, Lc_isHandle_eq, h1, Bool.not_true, Bool.not_false, Lc_needTold_1, Lc_needTold_0, Lc_needTold_eq, Lc_needRoom_1, Lc_needRoom_0, Lc_needRoom_eq, Lc_needPlace_1, Lc_needPlace_0, Lc_needPlace_eq, Lc_needThere_1, Lc_needThere_0, Lc_needThere_eq, Lc_needSupported_1, Lc_needSupported_0, Lc_needSupported_eq, c_obj_at hL, c_held_at hL, mm_aa_ok, e]
theorem bas_null (hW : WF T σ) (hn : n < sN σ) (h : kBased (sK σ n) = false) (h2 : kTwo (sK σ n) = false) : stale σ n = false := by
  rw [stale_at hW hn, h2]
  have h4 : sK σ n ≠ 4 := fun z => by rw [z] at h; cases h
  have e : lst1 σ n = false := by simp [lst1, h4]
  rw [e]
  cases h1 : kOne (sK σ n) with
  | false => rfl
  | true =>
    have h78 : sK σ n = 7 ∨ sK σ n = 8 := by
      simp [kOne] at h1
      simp [kBased] at h
      simp [kTwo] at h2
      omega
    have hm := hW.map hn h78
    have ho := hW.o hn h1
    have : stale σ (sO σ n) = false := by
      rw [stale_at hW (by omega), hm]
      simp [lst1, hm, kOne, kTwo]
    rw [this]
    rfl
theorem Lc_isStale_eq (hW : WF T σ) (hL : LK Λ σ) (hβ : StRel σ β) : ∀ (n : Nat), n < sN σ → ∀ (d : Nat) (Q : mm_Out → mm_M → Prop), WPC X (d + sG σ n + 1) 24 [.ref (Λ.1 4 n)] (mm_C Λ σ β M) Q = Q (.inl (some (.int (b2i (stale σ n))))) (mm_C Λ σ β M) := by
  intro n
  induction n using Nat.strongRecOn with
  | _ n ih =>
    intro hn d Q
    have h12 := hW.k12 hn
    have hnode := c_node_at (M := M) (β := β) hL hn
    cases hb : kBased (sK σ n) with
    | true =>
      have h2 : kTwo (sK σ n) = false := by rcases kB_cases hb with z | z | z <;> rw [z] <;> rfl
      have ho := hW.o hn (kB_one hb)
      have hG := ((hW.2.2.2.1 n hn).2.2.2.2.2.2.2.2.2.2.2.1 hb).2
      have hg1 := (hW.lg (show sO σ n < sN σ by omega)).2.2.1
      have hr := hW.row hn hb
      have hrec := fun Q => ih _ ho (by omega) d Q
      have hch := fun Q => Lc_changesOf_eq (X := X) (d := d + sG σ (sO σ n)) (M := M) (Q := Q) hW hL hβ (show sO σ n < sN σ by omega) hr
      have hT := hW.2.1
      have hcb : ch σ (sO σ n) ≤ T := by
        unfold ch
        split
        · exact hW.2.2.2.2.1 _
        · omega
      rw [hG, ← Nat.add_assoc, stale_at hW hn, h2, kB_one hb]
      by_cases h4 : sK σ n = 4
      · have hdb := (hW.e0 hn h4).2.2.2.1
        have en : vNoted σ n = sD σ n := if_pos h4
        by_cases hs : sD σ n = ch σ (sO σ n)
        · have hl : lst1 σ n = false := by simp [lst1, hs]
          rw [hl]
          cases hso : stale σ (sO σ n) <;> simp (disch := omega) only [e_24, w_24_0, w_24_1, w_24_4, w_24_4n, w_24_7, w_24_8, w_24_9, w_24_10, w_24_13, w_24_14, w_24_17, w_24_18, w_24_21, w_24_22, w_24_25, w_24_28, w_24_31, w_24_32, w_24_33, w_24_34, w_24_37, w_24_40, w_24_43, w_24_44, w_24_47, w_24_47n, w_24_50, w_24_51, w_24_54, w_24_57, w_24_60, w_24_61, w_24_64, w_24_65, mm_k_none, mm_k_int, mm_k_ref, mm_k_null, mm_K_inl, mm_tl_some, mm_tl_none, mm_fg_ok, mm_rc_ok, mm_fp_ok, mm_ai_ok, mm_si_ok, mm_az_ok, mm_sz_ok, z01, z11, zb, b2i_t, b2i_f, true_and, and_true, c_g0, c_g1, c_g2, c_g3, c_g4, c_g5, c_g6, c_g7, c_g8, c_g9, c_g10, c_g11, c_g12, c_gl, c_o0, c_o1, c_o2, c_o3, c_ol, c_s0, c_s1, c_s2, c_s3, c_sl, Nat.zero_le, Nat.not_lt_zero, if_true, if_false, m1_lt, m1_ge, mm_inT, pk_mul, nI_add, mm_in_nI, mm_cl_nI, nI_eq, nI_ltI, nI_leI, ↓reduceIte, Nat.add_zero, Nat.reduceLeDiff, oI_some, oI_none, m1_lt, nI_lt0, Rf_fail_eq, Rf_out_eq, eq_self, not_true_eq_false, not_false_eq_true, Nat.reduceEqDiff, Nat.reduceLT, ne_eq, or_true, true_or, or_false, false_or, decide_true, decide_false, Bool.true_eq_false, Bool.false_eq_true, b2i_ne, hnode, vBase_b hb, vOther_0 h2, h4, en, hch, hs, hrec, hso, Bool.false_or, Bool.or_false, Bool.true_and, Bool.false_and, Bool.or_true, z01, z11]
        · have hl : lst1 σ n = true := by simp [lst1, hs, h4]
          rw [hl]
          simp (disch := omega) only [e_24, w_24_0, w_24_1, w_24_4, w_24_4n, w_24_7, w_24_8, w_24_9, w_24_10, w_24_13, w_24_14, w_24_17, w_24_18, w_24_21, w_24_22, w_24_25, w_24_28, w_24_31, w_24_32, w_24_33, w_24_34, w_24_37, w_24_40, w_24_43, w_24_44, w_24_47, w_24_47n, w_24_50, w_24_51, w_24_54, w_24_57, w_24_60, w_24_61, w_24_64, w_24_65, mm_k_none, mm_k_int, mm_k_ref, mm_k_null, mm_K_inl, mm_tl_some, mm_tl_none, mm_fg_ok, mm_rc_ok, mm_fp_ok, mm_ai_ok, mm_si_ok, mm_az_ok, mm_sz_ok, z01, z11, zb, b2i_t, b2i_f, true_and, and_true, c_g0, c_g1, c_g2, c_g3, c_g4, c_g5, c_g6, c_g7, c_g8, c_g9, c_g10, c_g11, c_g12, c_gl, c_o0, c_o1, c_o2, c_o3, c_ol, c_s0, c_s1, c_s2, c_s3, c_sl, Nat.zero_le, Nat.not_lt_zero, if_true, if_false, m1_lt, m1_ge, mm_inT, pk_mul, nI_add, mm_in_nI, mm_cl_nI, nI_eq, nI_ltI, nI_leI, ↓reduceIte, Nat.add_zero, Nat.reduceLeDiff, oI_some, oI_none, m1_lt, nI_lt0, Rf_fail_eq, Rf_out_eq, eq_self, not_true_eq_false, not_false_eq_true, Nat.reduceEqDiff, Nat.reduceLT, ne_eq, or_true, true_or, or_false, false_or, decide_true, decide_false, Bool.true_eq_false, Bool.false_eq_true, b2i_ne, hnode, vBase_b hb, vOther_0 h2, h4, en, hch, hs, Bool.true_or, z01, z11]
      · have hl : lst1 σ n = false := by simp [lst1, h4]
        rw [hl]
        cases hso : stale σ (sO σ n) <;> simp (disch := omega) only [e_24, w_24_0, w_24_1, w_24_4, w_24_4n, w_24_7, w_24_8, w_24_9, w_24_10, w_24_13, w_24_14, w_24_17, w_24_18, w_24_21, w_24_22, w_24_25, w_24_28, w_24_31, w_24_32, w_24_33, w_24_34, w_24_37, w_24_40, w_24_43, w_24_44, w_24_47, w_24_47n, w_24_50, w_24_51, w_24_54, w_24_57, w_24_60, w_24_61, w_24_64, w_24_65, mm_k_none, mm_k_int, mm_k_ref, mm_k_null, mm_K_inl, mm_tl_some, mm_tl_none, mm_fg_ok, mm_rc_ok, mm_fp_ok, mm_ai_ok, mm_si_ok, mm_az_ok, mm_sz_ok, z01, z11, zb, b2i_t, b2i_f, true_and, and_true, c_g0, c_g1, c_g2, c_g3, c_g4, c_g5, c_g6, c_g7, c_g8, c_g9, c_g10, c_g11, c_g12, c_gl, c_o0, c_o1, c_o2, c_o3, c_ol, c_s0, c_s1, c_s2, c_s3, c_sl, Nat.zero_le, Nat.not_lt_zero, if_true, if_false, m1_lt, m1_ge, mm_inT, pk_mul, nI_add, mm_in_nI, mm_cl_nI, nI_eq, nI_ltI, nI_leI, ↓reduceIte, Nat.add_zero, Nat.reduceLeDiff, oI_some, oI_none, m1_lt, nI_lt0, Rf_fail_eq, Rf_out_eq, eq_self, not_true_eq_false, not_false_eq_true, Nat.reduceEqDiff, Nat.reduceLT, ne_eq, or_true, true_or, or_false, false_or, decide_true, decide_false, Bool.true_eq_false, Bool.false_eq_true, b2i_ne, hnode, vBase_b hb, vOther_0 h2, h4, hrec, hso, Bool.false_or, Bool.or_false, Bool.true_and, Bool.false_and, Bool.or_true, z01, z11]
    | false =>
      cases h2 : kTwo (sK σ n) with
      | false =>
        rw [bas_null hW hn hb h2]
        simp (disch := omega) only [e_24, w_24_0, w_24_1, w_24_4, w_24_4n, w_24_7, w_24_8, w_24_9, w_24_10, w_24_13, w_24_14, w_24_17, w_24_18, w_24_21, w_24_22, w_24_25, w_24_28, w_24_31, w_24_32, w_24_33, w_24_34, w_24_37, w_24_40, w_24_43, w_24_44, w_24_47, w_24_47n, w_24_50, w_24_51, w_24_54, w_24_57, w_24_60, w_24_61, w_24_64, w_24_65, mm_k_none, mm_k_int, mm_k_ref, mm_k_null, mm_K_inl, mm_tl_some, mm_tl_none, mm_fg_ok, mm_rc_ok, mm_fp_ok, mm_ai_ok, mm_si_ok, mm_az_ok, mm_sz_ok, z01, z11, zb, b2i_t, b2i_f, true_and, and_true, c_g0, c_g1, c_g2, c_g3, c_g4, c_g5, c_g6, c_g7, c_g8, c_g9, c_g10, c_g11, c_g12, c_gl, c_o0, c_o1, c_o2, c_o3, c_ol, c_s0, c_s1, c_s2, c_s3, c_sl, Nat.zero_le, Nat.not_lt_zero, if_true, if_false, m1_lt, m1_ge, mm_inT, pk_mul, nI_add, mm_in_nI, mm_cl_nI, nI_eq, nI_ltI, nI_leI, ↓reduceIte, Nat.add_zero, Nat.reduceLeDiff, oI_some, oI_none, m1_lt, nI_lt0, Rf_fail_eq, Rf_out_eq, eq_self, not_true_eq_false, not_false_eq_true, Nat.reduceEqDiff, Nat.reduceLT, ne_eq, or_true, true_or, or_false, false_or, decide_true, decide_false, Bool.true_eq_false, Bool.false_eq_true, b2i_ne, hnode, vBase_0 hb h2, z01, z11]
      | true =>
        have h1 : kOne (sK σ n) = true := by simp [kTwo] at h2; simp [kOne]; omega
        have ho := hW.o hn h1
        have ht := hW.t hn h2
        have hG := ((hW.2.2.2.1 n hn).2.2.2.2.2.2.2.2.2.2.2.2.1 h2).2
        have h4 : ¬ sK σ n = 4 := fun z => by rw [z] at h2; cases h2
        have hl : lst1 σ n = false := by simp [lst1, h4]
        have e1 : d + max (sG σ (sO σ n)) (sG σ (sT σ n)) + 1 = (d + (max (sG σ (sO σ n)) (sG σ (sT σ n)) - sG σ (sO σ n))) + sG σ (sO σ n) + 1 := by omega
        have e2 : d + max (sG σ (sO σ n)) (sG σ (sT σ n)) + 1 = (d + (max (sG σ (sO σ n)) (sG σ (sT σ n)) - sG σ (sT σ n))) + sG σ (sT σ n) + 1 := by omega
        have hr1 : ∀ Q, WPC X (d + max (sG σ (sO σ n)) (sG σ (sT σ n)) + 1) 24 [.ref (Λ.1 4 (sO σ n))] (mm_C Λ σ β M) Q = Q (.inl (some (.int (b2i (stale σ (sO σ n)))))) (mm_C Λ σ β M) := by
          intro Q
          rw [e1]
          exact ih _ ho (by omega) _ Q
        have hr2 : ∀ Q, WPC X (d + max (sG σ (sO σ n)) (sG σ (sT σ n)) + 1) 24 [.ref (Λ.1 4 (sT σ n))] (mm_C Λ σ β M) Q = Q (.inl (some (.int (b2i (stale σ (sT σ n)))))) (mm_C Λ σ β M) := by
          intro Q
          rw [e2]
          exact ih _ ht (by omega) _ Q
        rw [hG, ← Nat.add_assoc, stale_at hW hn, h2, h1, hl]
        cases hso : stale σ (sO σ n) <;> cases hst : stale σ (sT σ n) <;> simp (disch := omega) only [e_24, w_24_0, w_24_1, w_24_4, w_24_4n, w_24_7, w_24_8, w_24_9, w_24_10, w_24_13, w_24_14, w_24_17, w_24_18, w_24_21, w_24_22, w_24_25, w_24_28, w_24_31, w_24_32, w_24_33, w_24_34, w_24_37, w_24_40, w_24_43, w_24_44, w_24_47, w_24_47n, w_24_50, w_24_51, w_24_54, w_24_57, w_24_60, w_24_61, w_24_64, w_24_65, mm_k_none, mm_k_int, mm_k_ref, mm_k_null, mm_K_inl, mm_tl_some, mm_tl_none, mm_fg_ok, mm_rc_ok, mm_fp_ok, mm_ai_ok, mm_si_ok, mm_az_ok, mm_sz_ok, z01, z11, zb, b2i_t, b2i_f, true_and, and_true, c_g0, c_g1, c_g2, c_g3, c_g4, c_g5, c_g6, c_g7, c_g8, c_g9, c_g10, c_g11, c_g12, c_gl, c_o0, c_o1, c_o2, c_o3, c_ol, c_s0, c_s1, c_s2, c_s3, c_sl, Nat.zero_le, Nat.not_lt_zero, if_true, if_false, m1_lt, m1_ge, mm_inT, pk_mul, nI_add, mm_in_nI, mm_cl_nI, nI_eq, nI_ltI, nI_leI, ↓reduceIte, Nat.add_zero, Nat.reduceLeDiff, oI_some, oI_none, m1_lt, nI_lt0, Rf_fail_eq, Rf_out_eq, eq_self, not_true_eq_false, not_false_eq_true, Nat.reduceEqDiff, Nat.reduceLT, ne_eq, or_true, true_or, or_false, false_or, decide_true, decide_false, Bool.true_eq_false, Bool.false_eq_true, b2i_ne, hnode, vBase_t h2, vOther_t h2, h4, hr1, hr2, hso, hst, Bool.false_or, Bool.or_false, Bool.true_and, Bool.false_and, Bool.or_true, Bool.or_self, z01, z11]
/-- written: no SHIFTED on the way down, a LIST or VALUES at its end -/
theorem Lc_canBeWritten_lp (hW : WF T σ) (hL : LK Λ σ) : ∀ (n : Nat) (a : Nat) (l2 : Option Value), n < sN σ → WP X d 49 2 [some (.ref a), some (.ref (Λ.1 4 n)), l2] [] (mm_C Λ σ β M) Q = Q (.inl (some (.int (b2i (sup σ 0 n))))) (mm_C Λ σ β M) := by
  intro n
  induction n using Nat.strongRecOn with
  | _ n ih =>
    intro a l2 hn
    have h12 := hW.k12 hn
    have hnode := c_node_at (M := M) (β := β) hL hn
    rw [sup_at hW hn, w_49_2]
    cases hb : kBased (sK σ n) with
    | true =>
      have ho := hW.o hn (kB_one hb)
      have ih2 := fun l2 => ih _ ho a l2 (by omega)
      have vb := vBase_b (Λ := Λ) hb
      rcases kB_cases hb with z | z | z
      · rw [if_pos rfl, if_neg (by omega)]
        refine Eq.trans ?_ (ih2 (some (.int (nI 0))))
        simp (disch := omega) only [w_49_0, w_49_1, w_49_3, w_49_3n, w_49_6, w_49_6n, w_49_7, w_49_10, w_49_13, w_49_13n, w_49_14, w_49_17, w_49_19, w_49_22, w_49_23, w_49_26, w_49_27, w_49_28, w_49_29, w_49_32, w_49_32n, w_49_33, w_49_36, w_49_37, w_49_40, w_49_40n, w_49_41, w_49_44, w_49_45, w_49_48, w_49_49, w_49_50, w_49_50n, w_49_51, w_49_54, w_49_54n, w_49_55, w_49_58, w_49_59, mm_k_none, mm_k_int, mm_k_ref, mm_k_null, mm_K_inl, mm_tl_some, mm_tl_none, mm_fg_ok, mm_rc_ok, mm_fp_ok, mm_ai_ok, mm_si_ok, mm_az_ok, mm_sz_ok, z01, z11, zb, b2i_t, b2i_f, true_and, and_true, c_g0, c_g1, c_g2, c_g3, c_g4, c_g5, c_g6, c_g7, c_g8, c_g9, c_g10, c_g11, c_g12, c_gl, c_o0, c_o1, c_o2, c_o3, c_ol, c_s0, c_s1, c_s2, c_s3, c_sl, Nat.zero_le, Nat.not_lt_zero, if_true, if_false, m1_lt, m1_ge, mm_inT, pk_mul, nI_add, mm_in_nI, mm_cl_nI, nI_eq, nI_ltI, nI_leI, ↓reduceIte, Nat.add_zero, Nat.reduceLeDiff, oI_some, oI_none, m1_lt, nI_lt0, Rf_fail_eq, Rf_out_eq, eq_self, not_true_eq_false, not_false_eq_true, Nat.reduceEqDiff, Nat.reduceLT, ne_eq, or_true, true_or, or_false, false_or, decide_true, decide_false, Bool.true_eq_false, Bool.false_eq_true, b2i_ne, hnode, vb, z]
      · rw [if_pos rfl, if_neg (by omega)]
        refine Eq.trans ?_ (ih2 (some (.int (nI 0))))
        simp (disch := omega) only [w_49_0, w_49_1, w_49_3, w_49_3n, w_49_6, w_49_6n, w_49_7, w_49_10, w_49_13, w_49_13n, w_49_14, w_49_17, w_49_19, w_49_22, w_49_23, w_49_26, w_49_27, w_49_28, w_49_29, w_49_32, w_49_32n, w_49_33, w_49_36, w_49_37, w_49_40, w_49_40n, w_49_41, w_49_44, w_49_45, w_49_48, w_49_49, w_49_50, w_49_50n, w_49_51, w_49_54, w_49_54n, w_49_55, w_49_58, w_49_59, mm_k_none, mm_k_int, mm_k_ref, mm_k_null, mm_K_inl, mm_tl_some, mm_tl_none, mm_fg_ok, mm_rc_ok, mm_fp_ok, mm_ai_ok, mm_si_ok, mm_az_ok, mm_sz_ok, z01, z11, zb, b2i_t, b2i_f, true_and, and_true, c_g0, c_g1, c_g2, c_g3, c_g4, c_g5, c_g6, c_g7, c_g8, c_g9, c_g10, c_g11, c_g12, c_gl, c_o0, c_o1, c_o2, c_o3, c_ol, c_s0, c_s1, c_s2, c_s3, c_sl, Nat.zero_le, Nat.not_lt_zero, if_true, if_false, m1_lt, m1_ge, mm_inT, pk_mul, nI_add, mm_in_nI, mm_cl_nI, nI_eq, nI_ltI, nI_leI, ↓reduceIte, Nat.add_zero, Nat.reduceLeDiff, oI_some, oI_none, m1_lt, nI_lt0, Rf_fail_eq, Rf_out_eq, eq_self, not_true_eq_false, not_false_eq_true, Nat.reduceEqDiff, Nat.reduceLT, ne_eq, or_true, true_or, or_false, false_or, decide_true, decide_false, Bool.true_eq_false, Bool.false_eq_true, b2i_ne, hnode, vb, z]
      · rw [if_pos rfl, if_pos ⟨z, by decide⟩]
        simp (disch := omega) only [w_49_0, w_49_1, w_49_3, w_49_3n, w_49_6, w_49_6n, w_49_7, w_49_10, w_49_13, w_49_13n, w_49_14, w_49_17, w_49_19, w_49_22, w_49_23, w_49_26, w_49_27, w_49_28, w_49_29, w_49_32, w_49_32n, w_49_33, w_49_36, w_49_37, w_49_40, w_49_40n, w_49_41, w_49_44, w_49_45, w_49_48, w_49_49, w_49_50, w_49_50n, w_49_51, w_49_54, w_49_54n, w_49_55, w_49_58, w_49_59, mm_k_none, mm_k_int, mm_k_ref, mm_k_null, mm_K_inl, mm_tl_some, mm_tl_none, mm_fg_ok, mm_rc_ok, mm_fp_ok, mm_ai_ok, mm_si_ok, mm_az_ok, mm_sz_ok, z01, z11, zb, b2i_t, b2i_f, true_and, and_true, c_g0, c_g1, c_g2, c_g3, c_g4, c_g5, c_g6, c_g7, c_g8, c_g9, c_g10, c_g11, c_g12, c_gl, c_o0, c_o1, c_o2, c_o3, c_ol, c_s0, c_s1, c_s2, c_s3, c_sl, Nat.zero_le, Nat.not_lt_zero, if_true, if_false, m1_lt, m1_ge, mm_inT, pk_mul, nI_add, mm_in_nI, mm_cl_nI, nI_eq, nI_ltI, nI_leI, ↓reduceIte, Nat.add_zero, Nat.reduceLeDiff, oI_some, oI_none, m1_lt, nI_lt0, Rf_fail_eq, Rf_out_eq, eq_self, not_true_eq_false, not_false_eq_true, Nat.reduceEqDiff, Nat.reduceLT, ne_eq, or_true, true_or, or_false, false_or, decide_true, decide_false, Bool.true_eq_false, Bool.false_eq_true, b2i_ne, hnode, vb, z, z01, z11]
    | false =>
      rw [if_neg (by decide)]
      have h3 : ¬ sK σ n = 3 := fun y => by rw [y] at hb; exact absurd hb (by decide)
      have h4 : ¬ sK σ n = 4 := fun y => by rw [y] at hb; exact absurd hb (by decide)
      by_cases z0 : sK σ n = 0 ∨ sK σ n = 7
      · have h2 : kTwo (sK σ n) = false := by rcases z0 with z | z <;> rw [z] <;> rfl
        have e : decide (sK σ n = 0 ∨ sK σ n = 7 ∨ (0 = 1 ∧ (sK σ n = 6 ∨ sK σ n = 8))) = true := by
          simp only [decide_eq_true_eq]
          omega
        have vb := vBase_0 (Λ := Λ) hb h2
        rw [e]
        rcases z0 with z | z
        · simp (disch := omega) only [w_49_0, w_49_1, w_49_3, w_49_3n, w_49_6, w_49_6n, w_49_7, w_49_10, w_49_13, w_49_13n, w_49_14, w_49_17, w_49_19, w_49_22, w_49_23, w_49_26, w_49_27, w_49_28, w_49_29, w_49_32, w_49_32n, w_49_33, w_49_36, w_49_37, w_49_40, w_49_40n, w_49_41, w_49_44, w_49_45, w_49_48, w_49_49, w_49_50, w_49_50n, w_49_51, w_49_54, w_49_54n, w_49_55, w_49_58, w_49_59, mm_k_none, mm_k_int, mm_k_ref, mm_k_null, mm_K_inl, mm_tl_some, mm_tl_none, mm_fg_ok, mm_rc_ok, mm_fp_ok, mm_ai_ok, mm_si_ok, mm_az_ok, mm_sz_ok, z01, z11, zb, b2i_t, b2i_f, true_and, and_true, c_g0, c_g1, c_g2, c_g3, c_g4, c_g5, c_g6, c_g7, c_g8, c_g9, c_g10, c_g11, c_g12, c_gl, c_o0, c_o1, c_o2, c_o3, c_ol, c_s0, c_s1, c_s2, c_s3, c_sl, Nat.zero_le, Nat.not_lt_zero, if_true, if_false, m1_lt, m1_ge, mm_inT, pk_mul, nI_add, mm_in_nI, mm_cl_nI, nI_eq, nI_ltI, nI_leI, ↓reduceIte, Nat.add_zero, Nat.reduceLeDiff, oI_some, oI_none, m1_lt, nI_lt0, Rf_fail_eq, Rf_out_eq, eq_self, not_true_eq_false, not_false_eq_true, Nat.reduceEqDiff, Nat.reduceLT, ne_eq, or_true, true_or, or_false, false_or, decide_true, decide_false, Bool.true_eq_false, Bool.false_eq_true, b2i_ne, hnode, vb, z]
          rw [w_49_2n]
          simp (disch := omega) only [w_49_0, w_49_1, w_49_3, w_49_3n, w_49_6, w_49_6n, w_49_7, w_49_10, w_49_13, w_49_13n, w_49_14, w_49_17, w_49_19, w_49_22, w_49_23, w_49_26, w_49_27, w_49_28, w_49_29, w_49_32, w_49_32n, w_49_33, w_49_36, w_49_37, w_49_40, w_49_40n, w_49_41, w_49_44, w_49_45, w_49_48, w_49_49, w_49_50, w_49_50n, w_49_51, w_49_54, w_49_54n, w_49_55, w_49_58, w_49_59, mm_k_none, mm_k_int, mm_k_ref, mm_k_null, mm_K_inl, mm_tl_some, mm_tl_none, mm_fg_ok, mm_rc_ok, mm_fp_ok, mm_ai_ok, mm_si_ok, mm_az_ok, mm_sz_ok, z01, z11, zb, b2i_t, b2i_f, true_and, and_true, c_g0, c_g1, c_g2, c_g3, c_g4, c_g5, c_g6, c_g7, c_g8, c_g9, c_g10, c_g11, c_g12, c_gl, c_o0, c_o1, c_o2, c_o3, c_ol, c_s0, c_s1, c_s2, c_s3, c_sl, Nat.zero_le, Nat.not_lt_zero, if_true, if_false, m1_lt, m1_ge, mm_inT, pk_mul, nI_add, mm_in_nI, mm_cl_nI, nI_eq, nI_ltI, nI_leI, ↓reduceIte, Nat.add_zero, Nat.reduceLeDiff, oI_some, oI_none, m1_lt, nI_lt0, Rf_fail_eq, Rf_out_eq, eq_self, not_true_eq_false, not_false_eq_true, Nat.reduceEqDiff, Nat.reduceLT, ne_eq, or_true, true_or, or_false, false_or, decide_true, decide_false, Bool.true_eq_false, Bool.false_eq_true, b2i_ne, z01, z11]
        · simp (disch := omega) only [w_49_0, w_49_1, w_49_3, w_49_3n, w_49_6, w_49_6n, w_49_7, w_49_10, w_49_13, w_49_13n, w_49_14, w_49_17, w_49_19, w_49_22, w_49_23, w_49_26, w_49_27, w_49_28, w_49_29, w_49_32, w_49_32n, w_49_33, w_49_36, w_49_37, w_49_40, w_49_40n, w_49_41, w_49_44, w_49_45, w_49_48, w_49_49, w_49_50, w_49_50n, w_49_51, w_49_54, w_49_54n, w_49_55, w_49_58, w_49_59, mm_k_none, mm_k_int, mm_k_ref, mm_k_null, mm_K_inl, mm_tl_some, mm_tl_none, mm_fg_ok, mm_rc_ok, mm_fp_ok, mm_ai_ok, mm_si_ok, mm_az_ok, mm_sz_ok, z01, z11, zb, b2i_t, b2i_f, true_and, and_true, c_g0, c_g1, c_g2, c_g3, c_g4, c_g5, c_g6, c_g7, c_g8, c_g9, c_g10, c_g11, c_g12, c_gl, c_o0, c_o1, c_o2, c_o3, c_ol, c_s0, c_s1, c_s2, c_s3, c_sl, Nat.zero_le, Nat.not_lt_zero, if_true, if_false, m1_lt, m1_ge, mm_inT, pk_mul, nI_add, mm_in_nI, mm_cl_nI, nI_eq, nI_ltI, nI_leI, ↓reduceIte, Nat.add_zero, Nat.reduceLeDiff, oI_some, oI_none, m1_lt, nI_lt0, Rf_fail_eq, Rf_out_eq, eq_self, not_true_eq_false, not_false_eq_true, Nat.reduceEqDiff, Nat.reduceLT, ne_eq, or_true, true_or, or_false, false_or, decide_true, decide_false, Bool.true_eq_false, Bool.false_eq_true, b2i_ne, hnode, vb, z]
          rw [w_49_2n]
          simp (disch := omega) only [w_49_0, w_49_1, w_49_3, w_49_3n, w_49_6, w_49_6n, w_49_7, w_49_10, w_49_13, w_49_13n, w_49_14, w_49_17, w_49_19, w_49_22, w_49_23, w_49_26, w_49_27, w_49_28, w_49_29, w_49_32, w_49_32n, w_49_33, w_49_36, w_49_37, w_49_40, w_49_40n, w_49_41, w_49_44, w_49_45, w_49_48, w_49_49, w_49_50, w_49_50n, w_49_51, w_49_54, w_49_54n, w_49_55, w_49_58, w_49_59, mm_k_none, mm_k_int, mm_k_ref, mm_k_null, mm_K_inl, mm_tl_some, mm_tl_none, mm_fg_ok, mm_rc_ok, mm_fp_ok, mm_ai_ok, mm_si_ok, mm_az_ok, mm_sz_ok, z01, z11, zb, b2i_t, b2i_f, true_and, and_true, c_g0, c_g1, c_g2, c_g3, c_g4, c_g5, c_g6, c_g7, c_g8, c_g9, c_g10, c_g11, c_g12, c_gl, c_o0, c_o1, c_o2, c_o3, c_ol, c_s0, c_s1, c_s2, c_s3, c_sl, Nat.zero_le, Nat.not_lt_zero, if_true, if_false, m1_lt, m1_ge, mm_inT, pk_mul, nI_add, mm_in_nI, mm_cl_nI, nI_eq, nI_ltI, nI_leI, ↓reduceIte, Nat.add_zero, Nat.reduceLeDiff, oI_some, oI_none, m1_lt, nI_lt0, Rf_fail_eq, Rf_out_eq, eq_self, not_true_eq_false, not_false_eq_true, Nat.reduceEqDiff, Nat.reduceLT, ne_eq, or_true, true_or, or_false, false_or, decide_true, decide_false, Bool.true_eq_false, Bool.false_eq_true, b2i_ne, z01, z11]
      · have e : decide (sK σ n = 0 ∨ sK σ n = 7 ∨ (0 = 1 ∧ (sK σ n = 6 ∨ sK σ n = 8))) = false := by
          simp only [decide_eq_false_iff_not]
          omega
        rw [e]
        have z1 : ¬ sK σ n = 0 := fun y => z0 (Or.inl y)
        have z2 : ¬ sK σ n = 7 := fun y => z0 (Or.inr y)
        simp (disch := omega) only [w_49_0, w_49_1, w_49_3, w_49_3n, w_49_6, w_49_6n, w_49_7, w_49_10, w_49_13, w_49_13n, w_49_14, w_49_17, w_49_19, w_49_22, w_49_23, w_49_26, w_49_27, w_49_28, w_49_29, w_49_32, w_49_32n, w_49_33, w_49_36, w_49_37, w_49_40, w_49_40n, w_49_41, w_49_44, w_49_45, w_49_48, w_49_49, w_49_50, w_49_50n, w_49_51, w_49_54, w_49_54n, w_49_55, w_49_58, w_49_59, mm_k_none, mm_k_int, mm_k_ref, mm_k_null, mm_K_inl, mm_tl_some, mm_tl_none, mm_fg_ok, mm_rc_ok, mm_fp_ok, mm_ai_ok, mm_si_ok, mm_az_ok, mm_sz_ok, z01, z11, zb, b2i_t, b2i_f, true_and, and_true, c_g0, c_g1, c_g2, c_g3, c_g4, c_g5, c_g6, c_g7, c_g8, c_g9, c_g10, c_g11, c_g12, c_gl, c_o0, c_o1, c_o2, c_o3, c_ol, c_s0, c_s1, c_s2, c_s3, c_sl, Nat.zero_le, Nat.not_lt_zero, if_true, if_false, m1_lt, m1_ge, mm_inT, pk_mul, nI_add, mm_in_nI, mm_cl_nI, nI_eq, nI_ltI, nI_leI, ↓reduceIte, Nat.add_zero, Nat.reduceLeDiff, oI_some, oI_none, m1_lt, nI_lt0, Rf_fail_eq, Rf_out_eq, eq_self, not_true_eq_false, not_false_eq_true, Nat.reduceEqDiff, Nat.reduceLT, ne_eq, or_true, true_or, or_false, false_or, decide_true, decide_false, Bool.true_eq_false, Bool.false_eq_true, b2i_ne, hnode, h3, h4, z1, z2, z01, z11]
theorem Lc_canBeWritten_eq (hW : WF T σ) (hL : LK Λ σ) (hn : n < sN σ) : WPC X d 49 [.ref (Λ.1 4 n)] (mm_C Λ σ β M) Q = Q (.inl (some (.int (b2i (sup σ 0 n))))) (mm_C Λ σ β M) := by
  simp only [e_49, w_49_0, w_49_1, w_49_3, w_49_3n, w_49_6, w_49_6n, w_49_7, w_49_10, w_49_13, w_49_13n, w_49_14, w_49_17, w_49_19, w_49_22, w_49_23, w_49_26, w_49_27, w_49_28, w_49_29, w_49_32, w_49_32n, w_49_33, w_49_36, w_49_37, w_49_40, w_49_40n, w_49_41, w_49_44, w_49_45, w_49_48, w_49_49, w_49_50, w_49_50n, w_49_51, w_49_54, w_49_54n, w_49_55, w_49_58, w_49_59, mm_k_none, mm_k_int, mm_k_ref, mm_k_null, mm_K_inl, mm_tl_some, mm_tl_none, mm_fg_ok, mm_rc_ok, mm_fp_ok, mm_ai_ok, mm_si_ok, mm_az_ok, mm_sz_ok, z01, z11, zb, b2i_t, b2i_f, true_and, and_true]
  exact Lc_canBeWritten_lp hW hL n _ _ hn
theorem Lc_canBeTakenFrom_lp (hW : WF T σ) (hL : LK Λ σ) : ∀ (n : Nat) (a : Nat), n < sN σ → WP X d 57 2 [some (.ref a), some (.ref (Λ.1 4 n))] [] (mm_C Λ σ β M) Q = Q (.inl (some (.int (b2i (sup σ 1 n))))) (mm_C Λ σ β M) := by
  intro n
  induction n using Nat.strongRecOn with
  | _ n ih =>
    intro a hn
    have h12 := hW.k12 hn
    have hnode := c_node_at (M := M) (β := β) hL hn
    rw [sup_at hW hn, w_57_2]
    cases hb : kBased (sK σ n) with
    | true =>
      have ho := hW.o hn (kB_one hb)
      have ih2 := ih _ ho a (by omega)
      have vb := vBase_b (Λ := Λ) hb
      rw [if_pos rfl, if_neg (fun z => z.2 rfl)]
      refine Eq.trans ?_ ih2
      rcases kB_cases hb with z | z | z <;> simp (disch := omega) only [w_57_0, w_57_1, w_57_3, w_57_3n, w_57_6, w_57_6n, w_57_7, w_57_10, w_57_11, w_57_14, w_57_14n, w_57_15, w_57_18, w_57_19, w_57_22, w_57_22n, w_57_23, w_57_26, w_57_28, w_57_31, w_57_32, w_57_33, w_57_33n, w_57_34, w_57_37, w_57_37n, w_57_38, w_57_41, w_57_42, mm_k_none, mm_k_int, mm_k_ref, mm_k_null, mm_K_inl, mm_tl_some, mm_tl_none, mm_fg_ok, mm_rc_ok, mm_fp_ok, mm_ai_ok, mm_si_ok, mm_az_ok, mm_sz_ok, z01, z11, zb, b2i_t, b2i_f, true_and, and_true, c_g0, c_g1, c_g2, c_g3, c_g4, c_g5, c_g6, c_g7, c_g8, c_g9, c_g10, c_g11, c_g12, c_gl, c_o0, c_o1, c_o2, c_o3, c_ol, c_s0, c_s1, c_s2, c_s3, c_sl, Nat.zero_le, Nat.not_lt_zero, if_true, if_false, m1_lt, m1_ge, mm_inT, pk_mul, nI_add, mm_in_nI, mm_cl_nI, nI_eq, nI_ltI, nI_leI, ↓reduceIte, Nat.add_zero, Nat.reduceLeDiff, oI_some, oI_none, m1_lt, nI_lt0, Rf_fail_eq, Rf_out_eq, eq_self, not_true_eq_false, not_false_eq_true, Nat.reduceEqDiff, Nat.reduceLT, ne_eq, or_true, true_or, or_false, false_or, decide_true, decide_false, Bool.true_eq_false, Bool.false_eq_true, b2i_ne, hnode, vb, z]
    | false =>
      rw [if_neg (by decide)]
      by_cases z0 : sK σ n = 0 ∨ sK σ n = 7 ∨ sK σ n = 6 ∨ sK σ n = 8
      · have h2 : kTwo (sK σ n) = false := by rcases z0 with z | z | z | z <;> rw [z] <;> rfl
        have e : decide (sK σ n = 0 ∨ sK σ n = 7 ∨ (1 = 1 ∧ (sK σ n = 6 ∨ sK σ n = 8))) = true := by
          rcases z0 with z | z | z | z <;> simp [z]
        have vb := vBase_0 (Λ := Λ) hb h2
        rw [e]
        rcases z0 with z | z | z | z
        all_goals
          simp (disch := omega) only [w_57_0, w_57_1, w_57_3, w_57_3n, w_57_6, w_57_6n, w_57_7, w_57_10, w_57_11, w_57_14, w_57_14n, w_57_15, w_57_18, w_57_19, w_57_22, w_57_22n, w_57_23, w_57_26, w_57_28, w_57_31, w_57_32, w_57_33, w_57_33n, w_57_34, w_57_37, w_57_37n, w_57_38, w_57_41, w_57_42, mm_k_none, mm_k_int, mm_k_ref, mm_k_null, mm_K_inl, mm_tl_some, mm_tl_none, mm_fg_ok, mm_rc_ok, mm_fp_ok, mm_ai_ok, mm_si_ok, mm_az_ok, mm_sz_ok, z01, z11, zb, b2i_t, b2i_f, true_and, and_true, c_g0, c_g1, c_g2, c_g3, c_g4, c_g5, c_g6, c_g7, c_g8, c_g9, c_g10, c_g11, c_g12, c_gl, c_o0, c_o1, c_o2, c_o3, c_ol, c_s0, c_s1, c_s2, c_s3, c_sl, Nat.zero_le, Nat.not_lt_zero, if_true, if_false, m1_lt, m1_ge, mm_inT, pk_mul, nI_add, mm_in_nI, mm_cl_nI, nI_eq, nI_ltI, nI_leI, ↓reduceIte, Nat.add_zero, Nat.reduceLeDiff, oI_some, oI_none, m1_lt, nI_lt0, Rf_fail_eq, Rf_out_eq, eq_self, not_true_eq_false, not_false_eq_true, Nat.reduceEqDiff, Nat.reduceLT, ne_eq, or_true, true_or, or_false, false_or, decide_true, decide_false, Bool.true_eq_false, Bool.false_eq_true, b2i_ne, hnode, vb, z]
          rw [w_57_2n]
          simp (disch := omega) only [w_57_0, w_57_1, w_57_3, w_57_3n, w_57_6, w_57_6n, w_57_7, w_57_10, w_57_11, w_57_14, w_57_14n, w_57_15, w_57_18, w_57_19, w_57_22, w_57_22n, w_57_23, w_57_26, w_57_28, w_57_31, w_57_32, w_57_33, w_57_33n, w_57_34, w_57_37, w_57_37n, w_57_38, w_57_41, w_57_42, mm_k_none, mm_k_int, mm_k_ref, mm_k_null, mm_K_inl, mm_tl_some, mm_tl_none, mm_fg_ok, mm_rc_ok, mm_fp_ok, mm_ai_ok, mm_si_ok, mm_az_ok, mm_sz_ok, z01, z11, zb, b2i_t, b2i_f, true_and, and_true, c_g0, c_g1, c_g2, c_g3, c_g4, c_g5, c_g6, c_g7, c_g8, c_g9, c_g10, c_g11, c_g12, c_gl, c_o0, c_o1, c_o2, c_o3, c_ol, c_s0, c_s1, c_s2, c_s3, c_sl, Nat.zero_le, Nat.not_lt_zero, if_true, if_false, m1_lt, m1_ge, mm_inT, pk_mul, nI_add, mm_in_nI, mm_cl_nI, nI_eq, nI_ltI, nI_leI, ↓reduceIte, Nat.add_zero, Nat.reduceLeDiff, oI_some, oI_none, m1_lt, nI_lt0, Rf_fail_eq, Rf_out_eq, eq_self, not_true_eq_false, not_false_eq_true, Nat.reduceEqDiff, Nat.reduceLT, ne_eq, or_true, true_or, or_false, false_or, decide_true, decide_false, Bool.true_eq_false, Bool.false_eq_true, b2i_ne, z01, z11]
      · have e : decide (sK σ n = 0 ∨ sK σ n = 7 ∨ (1 = 1 ∧ (sK σ n = 6 ∨ sK σ n = 8))) = false := by
          rw [decide_eq_false_iff_not]
          rintro (y | y | ⟨-, y | y⟩)
          · exact z0 (Or.inl y)
          · exact z0 (Or.inr (Or.inl y))
          · exact z0 (Or.inr (Or.inr (Or.inl y)))
          · exact z0 (Or.inr (Or.inr (Or.inr y)))
        rw [e]
        have hc : sK σ n = 1 ∨ sK σ n = 2 ∨ (9 ≤ sK σ n ∧ ¬ sK σ n = 1 ∧ ¬ sK σ n = 2 ∧ ¬ sK σ n < 9) := by
          simp only [kBased, decide_eq_false_iff_not] at hb
          omega
        rcases hc with z | z | ⟨z1, z2, z3, z4⟩
        · simp (disch := omega) only [w_57_0, w_57_1, w_57_3, w_57_3n, w_57_6, w_57_6n, w_57_7, w_57_10, w_57_11, w_57_14, w_57_14n, w_57_15, w_57_18, w_57_19, w_57_22, w_57_22n, w_57_23, w_57_26, w_57_28, w_57_31, w_57_32, w_57_33, w_57_33n, w_57_34, w_57_37, w_57_37n, w_57_38, w_57_41, w_57_42, mm_k_none, mm_k_int, mm_k_ref, mm_k_null, mm_K_inl, mm_tl_some, mm_tl_none, mm_fg_ok, mm_rc_ok, mm_fp_ok, mm_ai_ok, mm_si_ok, mm_az_ok, mm_sz_ok, z01, z11, zb, b2i_t, b2i_f, true_and, and_true, c_g0, c_g1, c_g2, c_g3, c_g4, c_g5, c_g6, c_g7, c_g8, c_g9, c_g10, c_g11, c_g12, c_gl, c_o0, c_o1, c_o2, c_o3, c_ol, c_s0, c_s1, c_s2, c_s3, c_sl, Nat.zero_le, Nat.not_lt_zero, if_true, if_false, m1_lt, m1_ge, mm_inT, pk_mul, nI_add, mm_in_nI, mm_cl_nI, nI_eq, nI_ltI, nI_leI, ↓reduceIte, Nat.add_zero, Nat.reduceLeDiff, oI_some, oI_none, m1_lt, nI_lt0, Rf_fail_eq, Rf_out_eq, eq_self, not_true_eq_false, not_false_eq_true, Nat.reduceEqDiff, Nat.reduceLT, ne_eq, or_true, true_or, or_false, false_or, decide_true, decide_false, Bool.true_eq_false, Bool.false_eq_true, b2i_ne, hnode, z, z01, z11]
        · simp (disch := omega) only [w_57_0, w_57_1, w_57_3, w_57_3n, w_57_6, w_57_6n, w_57_7, w_57_10, w_57_11, w_57_14, w_57_14n, w_57_15, w_57_18, w_57_19, w_57_22, w_57_22n, w_57_23, w_57_26, w_57_28, w_57_31, w_57_32, w_57_33, w_57_33n, w_57_34, w_57_37, w_57_37n, w_57_38, w_57_41, w_57_42, mm_k_none, mm_k_int, mm_k_ref, mm_k_null, mm_K_inl, mm_tl_some, mm_tl_none, mm_fg_ok, mm_rc_ok, mm_fp_ok, mm_ai_ok, mm_si_ok, mm_az_ok, mm_sz_ok, z01, z11, zb, b2i_t, b2i_f, true_and, and_true, c_g0, c_g1, c_g2, c_g3, c_g4, c_g5, c_g6, c_g7, c_g8, c_g9, c_g10, c_g11, c_g12, c_gl, c_o0, c_o1, c_o2, c_o3, c_ol, c_s0, c_s1, c_s2, c_s3, c_sl, Nat.zero_le, Nat.not_lt_zero, if_true, if_false, m1_lt, m1_ge, mm_inT, pk_mul, nI_add, mm_in_nI, mm_cl_nI, nI_eq, nI_ltI, nI_leI, ↓reduceIte, Nat.add_zero, Nat.reduceLeDiff, oI_some, oI_none, m1_lt, nI_lt0, Rf_fail_eq, Rf_out_eq, eq_self, not_true_eq_false, not_false_eq_true, Nat.reduceEqDiff, Nat.reduceLT, ne_eq, or_true, true_or, or_false, false_or, decide_true, decide_false, Bool.true_eq_false, Bool.false_eq_true, b2i_ne, hnode, z, z01, z11]
        · simp (disch := omega) only [w_57_0, w_57_1, w_57_3, w_57_3n, w_57_6, w_57_6n, w_57_7, w_57_10, w_57_11, w_57_14, w_57_14n, w_57_15, w_57_18, w_57_19, w_57_22, w_57_22n, w_57_23, w_57_26, w_57_28, w_57_31, w_57_32, w_57_33, w_57_33n, w_57_34, w_57_37, w_57_37n, w_57_38, w_57_41, w_57_42, mm_k_none, mm_k_int, mm_k_ref, mm_k_null, mm_K_inl, mm_tl_some, mm_tl_none, mm_fg_ok, mm_rc_ok, mm_fp_ok, mm_ai_ok, mm_si_ok, mm_az_ok, mm_sz_ok, z01, z11, zb, b2i_t, b2i_f, true_and, and_true, c_g0, c_g1, c_g2, c_g3, c_g4, c_g5, c_g6, c_g7, c_g8, c_g9, c_g10, c_g11, c_g12, c_gl, c_o0, c_o1, c_o2, c_o3, c_ol, c_s0, c_s1, c_s2, c_s3, c_sl, Nat.zero_le, Nat.not_lt_zero, if_true, if_false, m1_lt, m1_ge, mm_inT, pk_mul, nI_add, mm_in_nI, mm_cl_nI, nI_eq, nI_ltI, nI_leI, ↓reduceIte, Nat.add_zero, Nat.reduceLeDiff, oI_some, oI_none, m1_lt, nI_lt0, Rf_fail_eq, Rf_out_eq, eq_self, not_true_eq_false, not_false_eq_true, Nat.reduceEqDiff, Nat.reduceLT, ne_eq, or_true, true_or, or_false, false_or, decide_true, decide_false, Bool.true_eq_false, Bool.false_eq_true, b2i_ne, hnode, z2, z3, z4, z01, z11]
theorem Lc_canBeTakenFrom_eq (hW : WF T σ) (hL : LK Λ σ) (hn : n < sN σ) : WPC X d 57 [.ref (Λ.1 4 n)] (mm_C Λ σ β M) Q = Q (.inl (some (.int (b2i (sup σ 1 n))))) (mm_C Λ σ β M) := by
  simp only [e_57, w_57_0, w_57_1, w_57_3, w_57_3n, w_57_6, w_57_6n, w_57_7, w_57_10, w_57_11, w_57_14, w_57_14n, w_57_15, w_57_18, w_57_19, w_57_22, w_57_22n, w_57_23, w_57_26, w_57_28, w_57_31, w_57_32, w_57_33, w_57_33n, w_57_34, w_57_37, w_57_37n, w_57_38, w_57_41, w_57_42, mm_k_none, mm_k_int, mm_k_ref, mm_k_null, mm_K_inl, mm_tl_some, mm_tl_none, mm_fg_ok, mm_rc_ok, mm_fp_ok, mm_ai_ok, mm_si_ok, mm_az_ok, mm_sz_ok, z01, z11, zb, b2i_t, b2i_f, true_and, and_true]
  exact Lc_canBeTakenFrom_lp hW hL n _ hn
end CL3
