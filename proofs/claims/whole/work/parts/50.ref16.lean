/-! the reference: the lists change -/
theorem insAt_len {L : List Int32} {i : Nat} {v : Int32} (h : i ≤ L.length) : (insAt L i v).length = L.length + 1 := by
  unfold insAt
  simp
  omega
theorem delAt_len {L : List Int32} {i : Nat} (h : i < L.length) : (delAt L i).length = L.length - 1 := by
  unfold delAt
  simp
  omega
theorem setAt_len {L : List Int32} {i : Nat} {v : Int32} (h : i < L.length) : (setAt L i v).length = L.length := by
  unfold setAt
  simp
  omega
theorem insAt_lt {L : List Int32} {i q : Nat} {v : Int32} (h : i ≤ L.length) (hq : q < i) (hq2 : q < (insAt L i v).length) : (insAt L i v)[q] = L[q] := by
  unfold insAt at hq2 ⊢
  rw [List.getElem_append_left (by simp; omega)]
  simp
theorem insAt_eq {L : List Int32} {i : Nat} {v : Int32} (h : i ≤ L.length) (hq2 : i < (insAt L i v).length) : (insAt L i v)[i] = v := by
  unfold insAt at hq2 ⊢
  rw [List.getElem_append_right (by simp; omega)]
  simp [Nat.min_eq_left h]
theorem insAt_gt {L : List Int32} {i q : Nat} {v : Int32} (h : i ≤ L.length) (hq : i < q) (hq2 : q < (insAt L i v).length) : (insAt L i v)[q] = L[q - 1]'(by have := insAt_len (v := v) h; omega) := by
  have hl := insAt_len (v := v) h
  unfold insAt at hq2 ⊢
  rw [List.getElem_append_right (by simp; omega)]
  simp only [List.length_take, Nat.min_eq_left h]
  obtain ⟨p, rfl⟩ : ∃ p, q = i + 1 + p := ⟨q - i - 1, by omega⟩
  have e : i + 1 + p - i = p + 1 := by omega
  simp only [e, List.getElem_cons_succ, List.getElem_drop]
  congr 1
  omega
theorem delAt_lt {L : List Int32} {i q : Nat} (h : i < L.length) (hq : q < i) (hq2 : q < (delAt L i).length) : (delAt L i)[q] = L[q] := by
  unfold delAt at hq2 ⊢
  rw [List.getElem_append_left (by simp; omega)]
  simp
theorem delAt_ge {L : List Int32} {i q : Nat} (h : i < L.length) (hq : i ≤ q) (hq2 : q < (delAt L i).length) : (delAt L i)[q] = L[q + 1]'(by have := delAt_len h; omega) := by
  unfold delAt at hq2 ⊢
  rw [List.getElem_append_right (by simp; omega)]
  simp only [List.length_take, Nat.min_eq_left (Nat.le_of_lt h), List.getElem_drop]
  congr 1
  omega
theorem setAt_ne {L : List Int32} {i q : Nat} {v : Int32} (h : i < L.length) (hq : q ≠ i) (hq2 : q < (setAt L i v).length) : (setAt L i v)[q] = L[q]'(by have := setAt_len (v := v) h; omega) := by
  have hl := setAt_len (v := v) h
  unfold setAt at hq2 ⊢
  by_cases hlt : q < i
  · rw [List.getElem_append_left (by simp; omega)]
    simp
  · rw [List.getElem_append_right (by simp; omega)]
    simp only [List.length_take, Nat.min_eq_left (Nat.le_of_lt h)]
    obtain ⟨p, rfl⟩ : ∃ p, q = i + 1 + p := ⟨q - i - 1, by omega⟩
    have e : i + 1 + p - i = p + 1 := by omega
    simp only [e, List.getElem_cons_succ, List.getElem_drop]
theorem setAt_eq {L : List Int32} {i : Nat} {v : Int32} (h : i < L.length) (hq2 : i < (setAt L i v).length) : (setAt L i v)[i] = v := by
  unfold setAt at hq2 ⊢
  rw [List.getElem_append_right (by simp; omega)]
  simp [Nat.min_eq_left (Nat.le_of_lt h)]
def ordM (R : List Nat) (key m : Nat) : List Nat := if m = 0 then R.erase key else if key ∈ R then R else R ++ [key]
theorem ordR_M {R : List Nat} {key : Nat} {L : List Int32} : ordR R key L = ordM R key L.length := by
  unfold ordR ordM
  cases L <;> simp
theorem nodup_len : ∀ (m : Nat) (R : List Nat), R.Nodup → (∀ k, k ∈ R → k < m) → R.length ≤ m := by
  intro m
  induction m with
  | zero =>
    intro R _ h
    cases R with
    | nil => exact Nat.le_refl _
    | cons x R => exact absurd (h x (by simp)) (by omega)
  | succ m ih =>
    intro R hn h
    have := ih (R.erase m) (hn.erase m) (fun k hk => by
      have a1 := h k (List.mem_of_mem_erase hk)
      have a2 : k ≠ m := fun z => by rw [z] at hk; exact absurd hk (hn.not_mem_erase)
      omega)
    by_cases hm : m ∈ R
    · rw [List.length_erase_of_mem hm] at this
      omega
    · rw [List.erase_of_not_mem hm] at this
      omega
/-- the order of the keys of map n -/
def repO (f13 f14 : Nat → Int32) (n : Nat) (R : List Nat) : Prop := f14 n = nI R.length ∧ ∀ i (hi : i < R.length), f13 (8 * n + i) = nI R[i]
theorem erase_at {R : List Nat} {key p : Nat} (hp : p < R.length) (h : R[p] = key) (hn : key ∉ R.take p) : R.erase key = R.take p ++ R.drop (p + 1) := by
  have e : R = R.take p ++ key :: R.drop (p + 1) := by
    rw [← h, ← List.drop_eq_getElem_cons hp, List.take_append_drop]
  conv => lhs; rw [e]
  rw [List.erase_append_right _ hn, List.erase_cons_head]
section RF17
variable {X : Nat × Nat × (Nat → Int32)} {d rm T n m a b N to : Nat} {σ : Sg} {ρ : RS} {M : mm_M} {Q : mm_Out → mm_M → Prop}
theorem Rf_chg_1 {R : List Nat} {key : Nat} (hn : n < 40) (h : repO (ρ.2.2 13) (ρ.2.2 14) n R) (h8 : ∀ k, k ∈ R → k < 8) (hr8 : R.length ≤ 8) (hkey : key < 8) {l1 l5 : Option Value} : ∀ (j k : Nat), j + k = R.length → key ∉ R.take k → ∃ p, ((p = R.length ∧ key ∉ R) ∨ (∃ h : p < R.length, R[p] = key ∧ key ∉ R.take p)) ∧ ∀ Q, WP X d 102 35 [some (.ref rm), l1, some (.int (nI n)), some (.int (nI key)), some (.int (nI k)), l5] [] (mm_R rm ρ M) Q = WP X d 102 68 [some (.ref rm), l1, some (.int (nI n)), some (.int (nI key)), some (.int (nI p)), l5] [] (mm_R rm ρ M) Q := by
  intro j
  induction j with
  | zero =>
    intro k hk hnk
    have e : R.length ≤ k := by omega
    refine ⟨k, Or.inl ⟨by omega, by rw [List.take_of_length_le e] at hnk; exact hnk⟩, fun Q => ?_⟩
    rw [w_102_35]
    simp (disch := omega) only [w_102_0, w_102_1, w_102_4, w_102_5, w_102_6, w_102_7, w_102_8, w_102_9, w_102_10, w_102_11, w_102_13, w_102_14, w_102_15, w_102_16, w_102_19, w_102_20, w_102_21, w_102_23, w_102_26, w_102_27, w_102_28, w_102_30, w_102_31, w_102_32, w_102_33, w_102_37, w_102_38, w_102_41, w_102_42, w_102_43, w_102_46, w_102_47, w_102_50, w_102_52, w_102_53, w_102_54, w_102_56, w_102_57, w_102_58, w_102_59, w_102_62, w_102_65, w_102_70, w_102_71, w_102_74, w_102_75, w_102_76, w_102_79, w_102_80, w_102_83, w_102_84, w_102_85, w_102_88, w_102_89, w_102_92, w_102_94, w_102_95, w_102_96, w_102_98, w_102_99, w_102_100, w_102_101, w_102_102, w_102_105, w_102_106, w_102_107, w_102_108, w_102_109, w_102_110, w_102_111, w_102_114, w_102_116, w_102_117, w_102_120, w_102_121, w_102_122, w_102_125, w_102_126, w_102_129, w_102_130, w_102_131, w_102_134, w_102_135, w_102_138, w_102_139, w_102_140, w_102_141, w_102_142, w_102_143, w_102_144, w_102_146, w_102_150, w_102_151, w_102_154, w_102_155, w_102_156, w_102_159, w_102_160, w_102_163, w_102_165, w_102_166, w_102_167, w_102_169, w_102_170, w_102_171, w_102_174, w_102_176, w_102_177, w_102_178, w_102_180, w_102_181, w_102_182, w_102_183, w_102_184, w_102_185, w_102_188, w_102_191, mm_k_none, mm_k_int, mm_k_ref, mm_k_null, mm_K_inl, mm_tl_some, mm_tl_none, mm_fg_ok, mm_rc_ok, mm_fp_ok, mm_ai_ok, mm_si_ok, mm_az_ok, mm_sz_ok, z01, z11, zb, b2i_t, b2i_f, true_and, and_true, r_at, r_at_1, r_at_2, r_at_3, r_at_4, r_at_5, r_at_6, r_at_7, r_at_8, r_at_9, r_at_10, r_at_11, r_at_12, r_at_13, r_at_14, r_at_15, r_at_16, r_at_17, r_set_1, r_set_2, r_set_3, r_set_4, r_set_5, r_set_6, r_set_7, r_set_8, r_set_9, r_set_10, r_set_11, r_set_12, r_set_13, r_set_14, r_set_15, r_set_16, r_set_17, r_set_f, r_set_n, r_g_0, r_g_1, r_g_2, r_g_3, r_g_4, r_g_5, r_g_6, r_g_7, r_g_8, r_g_9, r_g_10, r_g_11, r_g_12, r_g_13, r_g_14, r_g_15, r_g_16, r_g_17, r_g_18, r_olen, Nat.zero_le, Nat.not_lt_zero, if_true, if_false, m1_lt, m1_ge, mm_inT, pk_mul, nI_add, mm_in_nI, mm_cl_nI, nI_eq, nI_ltI, nI_leI, ↓reduceIte, Nat.add_zero, Nat.reduceLeDiff, oI_some, oI_none, m1_lt, nI_lt0, Rf_fail_eq, Rf_out_eq, eq_self, not_true_eq_false, not_false_eq_true, Nat.reduceEqDiff, Nat.reduceLT, ne_eq, or_true, true_or, or_false, false_or, decide_true, decide_false, Bool.true_eq_false, Bool.false_eq_true, b2i_ne, h.1, e]
  | succ j ih =>
    intro k hk hnk
    have e : ¬ R.length ≤ k := by omega
    have hkl : k < R.length := by omega
    have hlt := h8 _ (List.getElem_mem hkl)
    by_cases hkk : R[k] = key
    · refine ⟨k, Or.inr ⟨hkl, hkk, hnk⟩, fun Q => ?_⟩
      rw [w_102_35]
      simp (disch := omega) only [w_102_0, w_102_1, w_102_4, w_102_5, w_102_6, w_102_7, w_102_8, w_102_9, w_102_10, w_102_11, w_102_13, w_102_14, w_102_15, w_102_16, w_102_19, w_102_20, w_102_21, w_102_23, w_102_26, w_102_27, w_102_28, w_102_30, w_102_31, w_102_32, w_102_33, w_102_37, w_102_38, w_102_41, w_102_42, w_102_43, w_102_46, w_102_47, w_102_50, w_102_52, w_102_53, w_102_54, w_102_56, w_102_57, w_102_58, w_102_59, w_102_62, w_102_65, w_102_70, w_102_71, w_102_74, w_102_75, w_102_76, w_102_79, w_102_80, w_102_83, w_102_84, w_102_85, w_102_88, w_102_89, w_102_92, w_102_94, w_102_95, w_102_96, w_102_98, w_102_99, w_102_100, w_102_101, w_102_102, w_102_105, w_102_106, w_102_107, w_102_108, w_102_109, w_102_110, w_102_111, w_102_114, w_102_116, w_102_117, w_102_120, w_102_121, w_102_122, w_102_125, w_102_126, w_102_129, w_102_130, w_102_131, w_102_134, w_102_135, w_102_138, w_102_139, w_102_140, w_102_141, w_102_142, w_102_143, w_102_144, w_102_146, w_102_150, w_102_151, w_102_154, w_102_155, w_102_156, w_102_159, w_102_160, w_102_163, w_102_165, w_102_166, w_102_167, w_102_169, w_102_170, w_102_171, w_102_174, w_102_176, w_102_177, w_102_178, w_102_180, w_102_181, w_102_182, w_102_183, w_102_184, w_102_185, w_102_188, w_102_191, mm_k_none, mm_k_int, mm_k_ref, mm_k_null, mm_K_inl, mm_tl_some, mm_tl_none, mm_fg_ok, mm_rc_ok, mm_fp_ok, mm_ai_ok, mm_si_ok, mm_az_ok, mm_sz_ok, z01, z11, zb, b2i_t, b2i_f, true_and, and_true, r_at, r_at_1, r_at_2, r_at_3, r_at_4, r_at_5, r_at_6, r_at_7, r_at_8, r_at_9, r_at_10, r_at_11, r_at_12, r_at_13, r_at_14, r_at_15, r_at_16, r_at_17, r_set_1, r_set_2, r_set_3, r_set_4, r_set_5, r_set_6, r_set_7, r_set_8, r_set_9, r_set_10, r_set_11, r_set_12, r_set_13, r_set_14, r_set_15, r_set_16, r_set_17, r_set_f, r_set_n, r_g_0, r_g_1, r_g_2, r_g_3, r_g_4, r_g_5, r_g_6, r_g_7, r_g_8, r_g_9, r_g_10, r_g_11, r_g_12, r_g_13, r_g_14, r_g_15, r_g_16, r_g_17, r_g_18, r_olen, Nat.zero_le, Nat.not_lt_zero, if_true, if_false, m1_lt, m1_ge, mm_inT, pk_mul, nI_add, mm_in_nI, mm_cl_nI, nI_eq, nI_ltI, nI_leI, ↓reduceIte, Nat.add_zero, Nat.reduceLeDiff, oI_some, oI_none, m1_lt, nI_lt0, Rf_fail_eq, Rf_out_eq, eq_self, not_true_eq_false, not_false_eq_true, Nat.reduceEqDiff, Nat.reduceLT, ne_eq, or_true, true_or, or_false, false_or, decide_true, decide_false, Bool.true_eq_false, Bool.false_eq_true, b2i_ne, h.1, e, h.2 k hkl, hkk]
    · obtain ⟨p, hp, hq⟩ := ih (k + 1) (by omega) (by
        rw [List.take_succ_eq_append_getElem hkl, List.mem_append, List.mem_singleton]
        rintro (z | z)
        · exact hnk z
        · exact hkk z.symm)
      refine ⟨p, hp, fun Q => Eq.trans ?_ (hq Q)⟩
      rw [w_102_35]
      simp (disch := omega) only [w_102_0, w_102_1, w_102_4, w_102_5, w_102_6, w_102_7, w_102_8, w_102_9, w_102_10, w_102_11, w_102_13, w_102_14, w_102_15, w_102_16, w_102_19, w_102_20, w_102_21, w_102_23, w_102_26, w_102_27, w_102_28, w_102_30, w_102_31, w_102_32, w_102_33, w_102_37, w_102_38, w_102_41, w_102_42, w_102_43, w_102_46, w_102_47, w_102_50, w_102_52, w_102_53, w_102_54, w_102_56, w_102_57, w_102_58, w_102_59, w_102_62, w_102_65, w_102_70, w_102_71, w_102_74, w_102_75, w_102_76, w_102_79, w_102_80, w_102_83, w_102_84, w_102_85, w_102_88, w_102_89, w_102_92, w_102_94, w_102_95, w_102_96, w_102_98, w_102_99, w_102_100, w_102_101, w_102_102, w_102_105, w_102_106, w_102_107, w_102_108, w_102_109, w_102_110, w_102_111, w_102_114, w_102_116, w_102_117, w_102_120, w_102_121, w_102_122, w_102_125, w_102_126, w_102_129, w_102_130, w_102_131, w_102_134, w_102_135, w_102_138, w_102_139, w_102_140, w_102_141, w_102_142, w_102_143, w_102_144, w_102_146, w_102_150, w_102_151, w_102_154, w_102_155, w_102_156, w_102_159, w_102_160, w_102_163, w_102_165, w_102_166, w_102_167, w_102_169, w_102_170, w_102_171, w_102_174, w_102_176, w_102_177, w_102_178, w_102_180, w_102_181, w_102_182, w_102_183, w_102_184, w_102_185, w_102_188, w_102_191, mm_k_none, mm_k_int, mm_k_ref, mm_k_null, mm_K_inl, mm_tl_some, mm_tl_none, mm_fg_ok, mm_rc_ok, mm_fp_ok, mm_ai_ok, mm_si_ok, mm_az_ok, mm_sz_ok, z01, z11, zb, b2i_t, b2i_f, true_and, and_true, r_at, r_at_1, r_at_2, r_at_3, r_at_4, r_at_5, r_at_6, r_at_7, r_at_8, r_at_9, r_at_10, r_at_11, r_at_12, r_at_13, r_at_14, r_at_15, r_at_16, r_at_17, r_set_1, r_set_2, r_set_3, r_set_4, r_set_5, r_set_6, r_set_7, r_set_8, r_set_9, r_set_10, r_set_11, r_set_12, r_set_13, r_set_14, r_set_15, r_set_16, r_set_17, r_set_f, r_set_n, r_g_0, r_g_1, r_g_2, r_g_3, r_g_4, r_g_5, r_g_6, r_g_7, r_g_8, r_g_9, r_g_10, r_g_11, r_g_12, r_g_13, r_g_14, r_g_15, r_g_16, r_g_17, r_g_18, r_olen, Nat.zero_le, Nat.not_lt_zero, if_true, if_false, m1_lt, m1_ge, mm_inT, pk_mul, nI_add, mm_in_nI, mm_cl_nI, nI_eq, nI_ltI, nI_leI, ↓reduceIte, Nat.add_zero, Nat.reduceLeDiff, oI_some, oI_none, m1_lt, nI_lt0, Rf_fail_eq, Rf_out_eq, eq_self, not_true_eq_false, not_false_eq_true, Nat.reduceEqDiff, Nat.reduceLT, ne_eq, or_true, true_or, or_false, false_or, decide_true, decide_false, Bool.true_eq_false, Bool.false_eq_true, b2i_ne, h.1, e, h.2 k hkl, hkk]
theorem Rf_chg_2 {R : List Nat} {p : Nat} (hn : n < 40) (hr8 : R.length ≤ 8) (hp : p < R.length) {f0 : Nat → Int32} (h14 : ρ.2.2 14 n = nI (R.length - 1)) {l1 l3 : Option Value} {x4 : Int32} : ∀ (j k : Nat) (g : Nat → Int32), j + k = R.length - 1 → p ≤ k → (∀ i (hi : i < R.length), i < p ∨ k ≤ i → g (8 * n + i) = nI R[i]) → (∀ i (hi : i + 1 < R.length), p ≤ i → i < k → g (8 * n + i) = nI R[i + 1]) → (∀ q, q < 8 * n ∨ 8 * n + 8 ≤ q → g q = f0 q) → ∃ g', (∀ i (hi : i < R.length), i < p → g' (8 * n + i) = nI R[i]) ∧ (∀ i (hi : i + 1 < R.length), p ≤ i → g' (8 * n + i) = nI R[i + 1]) ∧ (∀ q, q < 8 * n ∨ 8 * n + 8 ≤ q → g' q = f0 q) ∧ ∀ Q, WP X d 102 148 [some (.ref rm), l1, some (.int (nI n)), l3, some (.int x4), some (.int (nI k))] [] (mm_R rm (r_put ρ 13 g) M) Q = Q (.inl none) (mm_R rm (r_put ρ 13 g') M) := by
  intro j
  induction j with
  | zero =>
    intro k g hk hpk h1 h2 h3
    refine ⟨g, fun i hi hip => h1 i hi (Or.inl hip), fun i hi hip => h2 i hi hip (by omega), h3, fun Q => ?_⟩
    have e : R.length - 1 ≤ k := by omega
    rw [w_102_148]
    simp (disch := omega) only [w_102_0, w_102_1, w_102_4, w_102_5, w_102_6, w_102_7, w_102_8, w_102_9, w_102_10, w_102_11, w_102_13, w_102_14, w_102_15, w_102_16, w_102_19, w_102_20, w_102_21, w_102_23, w_102_26, w_102_27, w_102_28, w_102_30, w_102_31, w_102_32, w_102_33, w_102_37, w_102_38, w_102_41, w_102_42, w_102_43, w_102_46, w_102_47, w_102_50, w_102_52, w_102_53, w_102_54, w_102_56, w_102_57, w_102_58, w_102_59, w_102_62, w_102_65, w_102_68, w_102_70, w_102_71, w_102_74, w_102_75, w_102_76, w_102_79, w_102_80, w_102_83, w_102_84, w_102_85, w_102_88, w_102_89, w_102_92, w_102_94, w_102_95, w_102_96, w_102_98, w_102_99, w_102_100, w_102_101, w_102_102, w_102_105, w_102_106, w_102_107, w_102_108, w_102_109, w_102_110, w_102_111, w_102_114, w_102_116, w_102_117, w_102_120, w_102_121, w_102_122, w_102_125, w_102_126, w_102_129, w_102_130, w_102_131, w_102_134, w_102_135, w_102_138, w_102_139, w_102_140, w_102_141, w_102_142, w_102_143, w_102_144, w_102_146, w_102_150, w_102_151, w_102_154, w_102_155, w_102_156, w_102_159, w_102_160, w_102_163, w_102_165, w_102_166, w_102_167, w_102_169, w_102_170, w_102_171, w_102_174, w_102_176, w_102_177, w_102_178, w_102_180, w_102_181, w_102_182, w_102_183, w_102_184, w_102_185, w_102_188, w_102_191, mm_k_none, mm_k_int, mm_k_ref, mm_k_null, mm_K_inl, mm_tl_some, mm_tl_none, mm_fg_ok, mm_rc_ok, mm_fp_ok, mm_ai_ok, mm_si_ok, mm_az_ok, mm_sz_ok, z01, z11, zb, b2i_t, b2i_f, true_and, and_true, r_at, r_at_1, r_at_2, r_at_3, r_at_4, r_at_5, r_at_6, r_at_7, r_at_8, r_at_9, r_at_10, r_at_11, r_at_12, r_at_13, r_at_14, r_at_15, r_at_16, r_at_17, r_set_1, r_set_2, r_set_3, r_set_4, r_set_5, r_set_6, r_set_7, r_set_8, r_set_9, r_set_10, r_set_11, r_set_12, r_set_13, r_set_14, r_set_15, r_set_16, r_set_17, r_set_f, r_set_n, r_g_0, r_g_1, r_g_2, r_g_3, r_g_4, r_g_5, r_g_6, r_g_7, r_g_8, r_g_9, r_g_10, r_g_11, r_g_12, r_g_13, r_g_14, r_g_15, r_g_16, r_g_17, r_g_18, r_olen, Nat.zero_le, Nat.not_lt_zero, if_true, if_false, m1_lt, m1_ge, mm_inT, pk_mul, nI_add, mm_in_nI, mm_cl_nI, nI_eq, nI_ltI, nI_leI, ↓reduceIte, Nat.add_zero, Nat.reduceLeDiff, oI_some, oI_none, m1_lt, nI_lt0, Rf_fail_eq, Rf_out_eq, eq_self, not_true_eq_false, not_false_eq_true, Nat.reduceEqDiff, Nat.reduceLT, ne_eq, or_true, true_or, or_false, false_or, decide_true, decide_false, Bool.true_eq_false, Bool.false_eq_true, b2i_ne, r_put_ne, h14, e]
  | succ j ih =>
    intro k g hk hpk h1 h2 h3
    have e : ¬ R.length - 1 ≤ k := by omega
    obtain ⟨g', a1, a2, a3, hq⟩ := ih (k + 1) (upd g (8 * n + k) (g (8 * n + (k + 1)))) (by omega) (by omega) (fun i hi hik => by
      rw [up_ne (by omega)]
      exact h1 i hi (by omega)) (fun i hi hip hik => by
      by_cases z : i = k
      · subst z
        rw [up_at]
        exact h1 (i + 1) hi (by omega)
      · rw [up_ne (by omega)]
        exact h2 i hi hip (by omega)) (fun q hq => by rw [up_ne (by omega)]; exact h3 q hq)
    refine ⟨g', a1, a2, a3, fun Q => Eq.trans ?_ (hq Q)⟩
    rw [w_102_148]
    simp (disch := omega) only [w_102_0, w_102_1, w_102_4, w_102_5, w_102_6, w_102_7, w_102_8, w_102_9, w_102_10, w_102_11, w_102_13, w_102_14, w_102_15, w_102_16, w_102_19, w_102_20, w_102_21, w_102_23, w_102_26, w_102_27, w_102_28, w_102_30, w_102_31, w_102_32, w_102_33, w_102_37, w_102_38, w_102_41, w_102_42, w_102_43, w_102_46, w_102_47, w_102_50, w_102_52, w_102_53, w_102_54, w_102_56, w_102_57, w_102_58, w_102_59, w_102_62, w_102_65, w_102_68, w_102_70, w_102_71, w_102_74, w_102_75, w_102_76, w_102_79, w_102_80, w_102_83, w_102_84, w_102_85, w_102_88, w_102_89, w_102_92, w_102_94, w_102_95, w_102_96, w_102_98, w_102_99, w_102_100, w_102_101, w_102_102, w_102_105, w_102_106, w_102_107, w_102_108, w_102_109, w_102_110, w_102_111, w_102_114, w_102_116, w_102_117, w_102_120, w_102_121, w_102_122, w_102_125, w_102_126, w_102_129, w_102_130, w_102_131, w_102_134, w_102_135, w_102_138, w_102_139, w_102_140, w_102_141, w_102_142, w_102_143, w_102_144, w_102_146, w_102_150, w_102_151, w_102_154, w_102_155, w_102_156, w_102_159, w_102_160, w_102_163, w_102_165, w_102_166, w_102_167, w_102_169, w_102_170, w_102_171, w_102_174, w_102_176, w_102_177, w_102_178, w_102_180, w_102_181, w_102_182, w_102_183, w_102_184, w_102_185, w_102_188, w_102_191, mm_k_none, mm_k_int, mm_k_ref, mm_k_null, mm_K_inl, mm_tl_some, mm_tl_none, mm_fg_ok, mm_rc_ok, mm_fp_ok, mm_ai_ok, mm_si_ok, mm_az_ok, mm_sz_ok, z01, z11, zb, b2i_t, b2i_f, true_and, and_true, r_at, r_at_1, r_at_2, r_at_3, r_at_4, r_at_5, r_at_6, r_at_7, r_at_8, r_at_9, r_at_10, r_at_11, r_at_12, r_at_13, r_at_14, r_at_15, r_at_16, r_at_17, r_set_1, r_set_2, r_set_3, r_set_4, r_set_5, r_set_6, r_set_7, r_set_8, r_set_9, r_set_10, r_set_11, r_set_12, r_set_13, r_set_14, r_set_15, r_set_16, r_set_17, r_set_f, r_set_n, r_g_0, r_g_1, r_g_2, r_g_3, r_g_4, r_g_5, r_g_6, r_g_7, r_g_8, r_g_9, r_g_10, r_g_11, r_g_12, r_g_13, r_g_14, r_g_15, r_g_16, r_g_17, r_g_18, r_olen, Nat.zero_le, Nat.not_lt_zero, if_true, if_false, m1_lt, m1_ge, mm_inT, pk_mul, nI_add, mm_in_nI, mm_cl_nI, nI_eq, nI_ltI, nI_leI, ↓reduceIte, Nat.add_zero, Nat.reduceLeDiff, oI_some, oI_none, m1_lt, nI_lt0, Rf_fail_eq, Rf_out_eq, eq_self, not_true_eq_false, not_false_eq_true, Nat.reduceEqDiff, Nat.reduceLT, ne_eq, or_true, true_or, or_false, false_or, decide_true, decide_false, Bool.true_eq_false, Bool.false_eq_true, b2i_ne, r_put_ne, r_put_at, r_putput, h14, e, Nat.add_assoc]
theorem r_put_self {j : Nat} : r_put ρ j (ρ.2.2 j) = ρ := by
  unfold r_put
  have : (fun i => if i = j then ρ.2.2 j else ρ.2.2 i) = ρ.2.2 := by
    funext i
    by_cases hi : i = j
    · rw [hi]; simp
    · rw [if_neg hi]
  rw [this]
theorem r_put_comm {i j : Nat} {f g : Nat → Int32} (h : i ≠ j) : r_put (r_put ρ i f) j g = r_put (r_put ρ j g) i f := by
  unfold r_put
  congr 2
  funext q
  by_cases hi : q = i
  · have : q ≠ j := by omega
    simp [hi, h]
  · simp [hi]
theorem Rf_changed_eq {l κ c m : Nat} {R : List Nat} (hl : l < 320) (hκ : ρ.2.2 2 (l / 8) = nI κ) (hκ2 : κ < 12) (hc : ρ.2.2 12 l = nI c) (hm : ρ.2.2 11 l = nI m) (hm24 : m ≤ 24) (hO : repO (ρ.2.2 13) (ρ.2.2 14) (l / 8) R) (h6 : κ = 6 → R.Nodup ∧ ∀ k, k ∈ R → k < 8) : ∃ f13 f14, repO f13 f14 (l / 8) (if κ = 6 then ordM R (l % 8) m else R) ∧ (∀ q, q < 8 * (l / 8) ∨ 8 * (l / 8) + 8 ≤ q → f13 q = ρ.2.2 13 q) ∧ (∀ q, q ≠ l / 8 → f14 q = ρ.2.2 14 q) ∧ ∀ Q, WPC X (d + 1) 102 [.ref rm, .int (nI l)] (mm_R rm ρ M) Q = Q (.inl none) (mm_R rm (r_put (r_put (r_put ρ 12 (upd (ρ.2.2 12) l (nI (c + 1)))) 13 f13) 14 f14) M) := by
  have e8 : ¬ nI 8 = 0 := by decide
  have hn : l / 8 < 40 := by omega
  by_cases hk6 : κ = 6
  · subst hk6
    obtain ⟨hnd, h8⟩ := h6 rfl
    have hr8 := nodup_len 8 R hnd h8
    have emod : l - l / 8 * 8 = l % 8 := by omega
    have hO1 : repO ((r_put ρ 12 (upd (ρ.2.2 12) l (nI (c + 1)))).2.2 13) ((r_put ρ 12 (upd (ρ.2.2 12) l (nI (c + 1)))).2.2 14) (l / 8) R := by
      rw [r_put_ne (by decide), r_put_ne (by decide)]; exact hO
    obtain ⟨p, hp, hq1⟩ := Rf_chg_1 (X := X) (d := d + 1) (rm := rm) (M := M) (l1 := some (.int (nI l))) (l5 := none) hn hO1 h8 hr8 (show l % 8 < 8 by omega) R.length 0 (by omega) (by simp)
    have pre : ∀ Q, WPC X (d + 1) 102 [.ref rm, .int (nI l)] (mm_R rm ρ M) Q = WP X (d + 1) 102 68 [some (.ref rm), some (.int (nI l)), some (.int (nI (l / 8))), some (.int (nI (l % 8))), some (.int (nI p)), none] [] (mm_R rm (r_put ρ 12 (upd (ρ.2.2 12) l (nI (c + 1)))) M) Q := by
      intro Q
      rw [← hq1]
      simp (disch := omega) only [e_102, w_102_0, w_102_1, w_102_4, w_102_5, w_102_6, w_102_7, w_102_8, w_102_9, w_102_10, w_102_11, w_102_13, w_102_14, w_102_15, w_102_16, w_102_19, w_102_20, w_102_21, w_102_23, w_102_26, w_102_27, w_102_28, w_102_30, w_102_31, w_102_32, w_102_33, w_102_37, w_102_38, w_102_41, w_102_42, w_102_43, w_102_46, w_102_47, w_102_50, w_102_52, w_102_53, w_102_54, w_102_56, w_102_57, w_102_58, w_102_59, w_102_62, w_102_65, w_102_68, w_102_70, w_102_71, w_102_74, w_102_75, w_102_76, w_102_79, w_102_80, w_102_83, w_102_84, w_102_85, w_102_88, w_102_89, w_102_92, w_102_94, w_102_95, w_102_96, w_102_98, w_102_99, w_102_100, w_102_101, w_102_102, w_102_105, w_102_106, w_102_107, w_102_108, w_102_109, w_102_110, w_102_111, w_102_114, w_102_116, w_102_117, w_102_120, w_102_121, w_102_122, w_102_125, w_102_126, w_102_129, w_102_130, w_102_131, w_102_134, w_102_135, w_102_138, w_102_139, w_102_140, w_102_141, w_102_142, w_102_143, w_102_144, w_102_146, w_102_150, w_102_151, w_102_154, w_102_155, w_102_156, w_102_159, w_102_160, w_102_163, w_102_165, w_102_166, w_102_167, w_102_169, w_102_170, w_102_171, w_102_174, w_102_176, w_102_177, w_102_178, w_102_180, w_102_181, w_102_182, w_102_183, w_102_184, w_102_185, w_102_188, w_102_191, mm_k_none, mm_k_int, mm_k_ref, mm_k_null, mm_K_inl, mm_tl_some, mm_tl_none, mm_fg_ok, mm_rc_ok, mm_fp_ok, mm_ai_ok, mm_si_ok, mm_az_ok, mm_sz_ok, z01, z11, zb, b2i_t, b2i_f, true_and, and_true, r_at, r_at_1, r_at_2, r_at_3, r_at_4, r_at_5, r_at_6, r_at_7, r_at_8, r_at_9, r_at_10, r_at_11, r_at_12, r_at_13, r_at_14, r_at_15, r_at_16, r_at_17, r_set_1, r_set_2, r_set_3, r_set_4, r_set_5, r_set_6, r_set_7, r_set_8, r_set_9, r_set_10, r_set_11, r_set_12, r_set_13, r_set_14, r_set_15, r_set_16, r_set_17, r_set_f, r_set_n, r_g_0, r_g_1, r_g_2, r_g_3, r_g_4, r_g_5, r_g_6, r_g_7, r_g_8, r_g_9, r_g_10, r_g_11, r_g_12, r_g_13, r_g_14, r_g_15, r_g_16, r_g_17, r_g_18, r_olen, Nat.zero_le, Nat.not_lt_zero, if_true, if_false, m1_lt, m1_ge, mm_inT, pk_mul, nI_add, mm_in_nI, mm_cl_nI, nI_eq, nI_ltI, nI_leI, ↓reduceIte, Nat.add_zero, Nat.reduceLeDiff, oI_some, oI_none, m1_lt, nI_lt0, Rf_fail_eq, Rf_out_eq, eq_self, not_true_eq_false, not_false_eq_true, Nat.reduceEqDiff, Nat.reduceLT, ne_eq, or_true, true_or, or_false, false_or, decide_true, decide_false, Bool.true_eq_false, Bool.false_eq_true, b2i_ne, hc, pk_div, e8, hκ, r_put_ne, nI_m, emod]
    rw [if_pos rfl]
    rcases hp with ⟨hp, hnk⟩ | ⟨hpl, hpk, hnp⟩
    · subst hp
      have hr7 : R.length < 8 := by
        have := nodup_len 8 ((l % 8) :: R) (List.nodup_cons.2 ⟨hnk, hnd⟩) (fun k hk => by
          rcases List.mem_cons.1 hk with z | z
          · omega
          · exact h8 k z)
        rw [List.length_cons] at this
        omega
      by_cases hm0 : m = 0
      · refine ⟨ρ.2.2 13, ρ.2.2 14, ?_, fun q _ => rfl, fun q _ => rfl, fun Q => ?_⟩
        · rw [ordM, if_pos hm0, List.erase_of_not_mem hnk]; exact hO
        · have e1 : r_put (r_put (r_put ρ 12 (upd (ρ.2.2 12) l (nI (c + 1)))) 13 (ρ.2.2 13)) 14 (ρ.2.2 14) = r_put ρ 12 (upd (ρ.2.2 12) l (nI (c + 1))) := by
            have a1 : ρ.2.2 13 = (r_put ρ 12 (upd (ρ.2.2 12) l (nI (c + 1)))).2.2 13 := by rw [r_put_ne (by decide)]
            rw [a1, r_put_self]
            have a2 : ρ.2.2 14 = (r_put ρ 12 (upd (ρ.2.2 12) l (nI (c + 1)))).2.2 14 := by rw [r_put_ne (by decide)]
            rw [a2, r_put_self]
          rw [e1, pre]
          simp (disch := omega) only [w_102_0, w_102_1, w_102_4, w_102_5, w_102_6, w_102_7, w_102_8, w_102_9, w_102_10, w_102_11, w_102_13, w_102_14, w_102_15, w_102_16, w_102_19, w_102_20, w_102_21, w_102_23, w_102_26, w_102_27, w_102_28, w_102_30, w_102_31, w_102_32, w_102_33, w_102_37, w_102_38, w_102_41, w_102_42, w_102_43, w_102_46, w_102_47, w_102_50, w_102_52, w_102_53, w_102_54, w_102_56, w_102_57, w_102_58, w_102_59, w_102_62, w_102_65, w_102_68, w_102_70, w_102_71, w_102_74, w_102_75, w_102_76, w_102_79, w_102_80, w_102_83, w_102_84, w_102_85, w_102_88, w_102_89, w_102_92, w_102_94, w_102_95, w_102_96, w_102_98, w_102_99, w_102_100, w_102_101, w_102_102, w_102_105, w_102_106, w_102_107, w_102_108, w_102_109, w_102_110, w_102_111, w_102_114, w_102_116, w_102_117, w_102_120, w_102_121, w_102_122, w_102_125, w_102_126, w_102_129, w_102_130, w_102_131, w_102_134, w_102_135, w_102_138, w_102_139, w_102_140, w_102_141, w_102_142, w_102_143, w_102_144, w_102_146, w_102_150, w_102_151, w_102_154, w_102_155, w_102_156, w_102_159, w_102_160, w_102_163, w_102_165, w_102_166, w_102_167, w_102_169, w_102_170, w_102_171, w_102_174, w_102_176, w_102_177, w_102_178, w_102_180, w_102_181, w_102_182, w_102_183, w_102_184, w_102_185, w_102_188, w_102_191, mm_k_none, mm_k_int, mm_k_ref, mm_k_null, mm_K_inl, mm_tl_some, mm_tl_none, mm_fg_ok, mm_rc_ok, mm_fp_ok, mm_ai_ok, mm_si_ok, mm_az_ok, mm_sz_ok, z01, z11, zb, b2i_t, b2i_f, true_and, and_true, r_at, r_at_1, r_at_2, r_at_3, r_at_4, r_at_5, r_at_6, r_at_7, r_at_8, r_at_9, r_at_10, r_at_11, r_at_12, r_at_13, r_at_14, r_at_15, r_at_16, r_at_17, r_set_1, r_set_2, r_set_3, r_set_4, r_set_5, r_set_6, r_set_7, r_set_8, r_set_9, r_set_10, r_set_11, r_set_12, r_set_13, r_set_14, r_set_15, r_set_16, r_set_17, r_set_f, r_set_n, r_g_0, r_g_1, r_g_2, r_g_3, r_g_4, r_g_5, r_g_6, r_g_7, r_g_8, r_g_9, r_g_10, r_g_11, r_g_12, r_g_13, r_g_14, r_g_15, r_g_16, r_g_17, r_g_18, r_olen, Nat.zero_le, Nat.not_lt_zero, if_true, if_false, m1_lt, m1_ge, mm_inT, pk_mul, nI_add, mm_in_nI, mm_cl_nI, nI_eq, nI_ltI, nI_leI, ↓reduceIte, Nat.add_zero, Nat.reduceLeDiff, oI_some, oI_none, m1_lt, nI_lt0, Rf_fail_eq, Rf_out_eq, eq_self, not_true_eq_false, not_false_eq_true, Nat.reduceEqDiff, Nat.reduceLT, ne_eq, or_true, true_or, or_false, false_or, decide_true, decide_false, Bool.true_eq_false, Bool.false_eq_true, b2i_ne, r_put_ne, hO.1, hm, hm0, Nat.le_refl]
      · refine ⟨upd (ρ.2.2 13) (8 * (l / 8) + R.length) (nI (l % 8)), upd (ρ.2.2 14) (l / 8) (nI (R.length + 1)), ?_, fun q hq => up_ne (by omega), fun q hq => up_ne hq, fun Q => ?_⟩
        · rw [ordM, if_neg hm0, if_neg hnk]
          refine ⟨by rw [up_at]; simp, fun i hi => ?_⟩
          simp only [List.length_append, List.length_cons, List.length_nil] at hi
          by_cases z : i < R.length
          · rw [up_ne (by omega), List.getElem_append_left z]
            exact hO.2 i z
          · have : i = R.length := by omega
            subst this
            rw [up_at]
            simp
        · rw [pre]
          have g0 : ¬ m ≤ 0 := by omega
          simp (disch := omega) only [w_102_0, w_102_1, w_102_4, w_102_5, w_102_6, w_102_7, w_102_8, w_102_9, w_102_10, w_102_11, w_102_13, w_102_14, w_102_15, w_102_16, w_102_19, w_102_20, w_102_21, w_102_23, w_102_26, w_102_27, w_102_28, w_102_30, w_102_31, w_102_32, w_102_33, w_102_37, w_102_38, w_102_41, w_102_42, w_102_43, w_102_46, w_102_47, w_102_50, w_102_52, w_102_53, w_102_54, w_102_56, w_102_57, w_102_58, w_102_59, w_102_62, w_102_65, w_102_68, w_102_70, w_102_71, w_102_74, w_102_75, w_102_76, w_102_79, w_102_80, w_102_83, w_102_84, w_102_85, w_102_88, w_102_89, w_102_92, w_102_94, w_102_95, w_102_96, w_102_98, w_102_99, w_102_100, w_102_101, w_102_102, w_102_105, w_102_106, w_102_107, w_102_108, w_102_109, w_102_110, w_102_111, w_102_114, w_102_116, w_102_117, w_102_120, w_102_121, w_102_122, w_102_125, w_102_126, w_102_129, w_102_130, w_102_131, w_102_134, w_102_135, w_102_138, w_102_139, w_102_140, w_102_141, w_102_142, w_102_143, w_102_144, w_102_146, w_102_150, w_102_151, w_102_154, w_102_155, w_102_156, w_102_159, w_102_160, w_102_163, w_102_165, w_102_166, w_102_167, w_102_169, w_102_170, w_102_171, w_102_174, w_102_176, w_102_177, w_102_178, w_102_180, w_102_181, w_102_182, w_102_183, w_102_184, w_102_185, w_102_188, w_102_191, mm_k_none, mm_k_int, mm_k_ref, mm_k_null, mm_K_inl, mm_tl_some, mm_tl_none, mm_fg_ok, mm_rc_ok, mm_fp_ok, mm_ai_ok, mm_si_ok, mm_az_ok, mm_sz_ok, z01, z11, zb, b2i_t, b2i_f, true_and, and_true, r_at, r_at_1, r_at_2, r_at_3, r_at_4, r_at_5, r_at_6, r_at_7, r_at_8, r_at_9, r_at_10, r_at_11, r_at_12, r_at_13, r_at_14, r_at_15, r_at_16, r_at_17, r_set_1, r_set_2, r_set_3, r_set_4, r_set_5, r_set_6, r_set_7, r_set_8, r_set_9, r_set_10, r_set_11, r_set_12, r_set_13, r_set_14, r_set_15, r_set_16, r_set_17, r_set_f, r_set_n, r_g_0, r_g_1, r_g_2, r_g_3, r_g_4, r_g_5, r_g_6, r_g_7, r_g_8, r_g_9, r_g_10, r_g_11, r_g_12, r_g_13, r_g_14, r_g_15, r_g_16, r_g_17, r_g_18, r_olen, Nat.zero_le, Nat.not_lt_zero, if_true, if_false, m1_lt, m1_ge, mm_inT, pk_mul, nI_add, mm_in_nI, mm_cl_nI, nI_eq, nI_ltI, nI_leI, ↓reduceIte, Nat.add_zero, Nat.reduceLeDiff, oI_some, oI_none, m1_lt, nI_lt0, Rf_fail_eq, Rf_out_eq, eq_self, not_true_eq_false, not_false_eq_true, Nat.reduceEqDiff, Nat.reduceLT, ne_eq, or_true, true_or, or_false, false_or, decide_true, decide_false, Bool.true_eq_false, Bool.false_eq_true, b2i_ne, r_put_ne, hO.1, hm, g0]
    · by_cases hm0 : m = 0
      · have h14 : (r_put (r_put ρ 12 (upd (ρ.2.2 12) l (nI (c + 1)))) 14 (upd (ρ.2.2 14) (l / 8) (nI (R.length - 1)))).2.2 14 (l / 8) = nI (R.length - 1) := by rw [r_put_at, up_at]
        obtain ⟨g', a1, a2, a3, hq2⟩ := Rf_chg_2 (X := X) (d := d + 1) (rm := rm) (M := M) (l1 := some (.int (nI l))) (l3 := some (.int (nI (l % 8)))) (x4 := nI p) hn hr8 hpl (f0 := ρ.2.2 13) h14 (R.length - 1 - p) p (ρ.2.2 13) (by omega) (Nat.le_refl _) (fun i hi _ => hO.2 i hi) (fun i hi h1 h2 => by omega) (fun q hq => rfl)
        have e13 : r_put (r_put (r_put ρ 12 (upd (ρ.2.2 12) l (nI (c + 1)))) 14 (upd (ρ.2.2 14) (l / 8) (nI (R.length - 1)))) 13 (ρ.2.2 13) = r_put (r_put ρ 12 (upd (ρ.2.2 12) l (nI (c + 1)))) 14 (upd (ρ.2.2 14) (l / 8) (nI (R.length - 1))) := by
          have a1 : ρ.2.2 13 = (r_put (r_put ρ 12 (upd (ρ.2.2 12) l (nI (c + 1)))) 14 (upd (ρ.2.2 14) (l / 8) (nI (R.length - 1)))).2.2 13 := by rw [r_put_ne (by decide), r_put_ne (by decide)]
          rw [a1, r_put_self]
        rw [e13] at hq2
        refine ⟨g', upd (ρ.2.2 14) (l / 8) (nI (R.length - 1)), ?_, a3, fun q hq => up_ne hq, fun Q => ?_⟩
        · have hlen : (R.take p ++ R.drop (p + 1)).length = R.length - 1 := by simp; omega
          rw [ordM, if_pos hm0, erase_at hpl hpk hnp]
          refine ⟨by rw [up_at, hlen], fun i hi => ?_⟩
          rw [hlen] at hi
          by_cases z : i < p
          · rw [List.getElem_append_left (by simp; omega), a1 i (by omega) z]
            simp
          · rw [List.getElem_append_right (by simp; omega), a2 i (by omega) (by omega)]
            simp only [List.length_take, Nat.min_eq_left (Nat.le_of_lt hpl), List.getElem_drop]
            congr 2
            omega
        · rw [pre, r_put_comm (by decide)]
          refine Eq.trans ?_ (hq2 Q)
          have g1 : ¬ R.length ≤ p := by omega
          have g2 : ¬ p = R.length := by omega
          simp (disch := omega) only [w_102_0, w_102_1, w_102_4, w_102_5, w_102_6, w_102_7, w_102_8, w_102_9, w_102_10, w_102_11, w_102_13, w_102_14, w_102_15, w_102_16, w_102_19, w_102_20, w_102_21, w_102_23, w_102_26, w_102_27, w_102_28, w_102_30, w_102_31, w_102_32, w_102_33, w_102_37, w_102_38, w_102_41, w_102_42, w_102_43, w_102_46, w_102_47, w_102_50, w_102_52, w_102_53, w_102_54, w_102_56, w_102_57, w_102_58, w_102_59, w_102_62, w_102_65, w_102_68, w_102_70, w_102_71, w_102_74, w_102_75, w_102_76, w_102_79, w_102_80, w_102_83, w_102_84, w_102_85, w_102_88, w_102_89, w_102_92, w_102_94, w_102_95, w_102_96, w_102_98, w_102_99, w_102_100, w_102_101, w_102_102, w_102_105, w_102_106, w_102_107, w_102_108, w_102_109, w_102_110, w_102_111, w_102_114, w_102_116, w_102_117, w_102_120, w_102_121, w_102_122, w_102_125, w_102_126, w_102_129, w_102_130, w_102_131, w_102_134, w_102_135, w_102_138, w_102_139, w_102_140, w_102_141, w_102_142, w_102_143, w_102_144, w_102_146, w_102_150, w_102_151, w_102_154, w_102_155, w_102_156, w_102_159, w_102_160, w_102_163, w_102_165, w_102_166, w_102_167, w_102_169, w_102_170, w_102_171, w_102_174, w_102_176, w_102_177, w_102_178, w_102_180, w_102_181, w_102_182, w_102_183, w_102_184, w_102_185, w_102_188, w_102_191, mm_k_none, mm_k_int, mm_k_ref, mm_k_null, mm_K_inl, mm_tl_some, mm_tl_none, mm_fg_ok, mm_rc_ok, mm_fp_ok, mm_ai_ok, mm_si_ok, mm_az_ok, mm_sz_ok, z01, z11, zb, b2i_t, b2i_f, true_and, and_true, r_at, r_at_1, r_at_2, r_at_3, r_at_4, r_at_5, r_at_6, r_at_7, r_at_8, r_at_9, r_at_10, r_at_11, r_at_12, r_at_13, r_at_14, r_at_15, r_at_16, r_at_17, r_set_1, r_set_2, r_set_3, r_set_4, r_set_5, r_set_6, r_set_7, r_set_8, r_set_9, r_set_10, r_set_11, r_set_12, r_set_13, r_set_14, r_set_15, r_set_16, r_set_17, r_set_f, r_set_n, r_g_0, r_g_1, r_g_2, r_g_3, r_g_4, r_g_5, r_g_6, r_g_7, r_g_8, r_g_9, r_g_10, r_g_11, r_g_12, r_g_13, r_g_14, r_g_15, r_g_16, r_g_17, r_g_18, r_olen, Nat.zero_le, Nat.not_lt_zero, if_true, if_false, m1_lt, m1_ge, mm_inT, pk_mul, nI_add, mm_in_nI, mm_cl_nI, nI_eq, nI_ltI, nI_leI, ↓reduceIte, Nat.add_zero, Nat.reduceLeDiff, oI_some, oI_none, m1_lt, nI_lt0, Rf_fail_eq, Rf_out_eq, eq_self, not_true_eq_false, not_false_eq_true, Nat.reduceEqDiff, Nat.reduceLT, ne_eq, or_true, true_or, or_false, false_or, decide_true, decide_false, Bool.true_eq_false, Bool.false_eq_true, b2i_ne, r_put_ne, hO.1, hm, hm0, hpl, nI_m, Nat.le_refl, g1, g2]
      · refine ⟨ρ.2.2 13, ρ.2.2 14, ?_, fun q _ => rfl, fun q _ => rfl, fun Q => ?_⟩
        · have : l % 8 ∈ R := by rw [← hpk]; exact List.getElem_mem hpl
          rw [ordM, if_neg hm0, if_pos this]; exact hO
        · have e1 : r_put (r_put (r_put ρ 12 (upd (ρ.2.2 12) l (nI (c + 1)))) 13 (ρ.2.2 13)) 14 (ρ.2.2 14) = r_put ρ 12 (upd (ρ.2.2 12) l (nI (c + 1))) := by
            have a1 : ρ.2.2 13 = (r_put ρ 12 (upd (ρ.2.2 12) l (nI (c + 1)))).2.2 13 := by rw [r_put_ne (by decide)]
            rw [a1, r_put_self]
            have a2 : ρ.2.2 14 = (r_put ρ 12 (upd (ρ.2.2 12) l (nI (c + 1)))).2.2 14 := by rw [r_put_ne (by decide)]
            rw [a2, r_put_self]
          have g1 : ¬ R.length ≤ p := by omega
          have g2 : ¬ p = R.length := by omega
          rw [e1, pre]
          simp (disch := omega) only [w_102_0, w_102_1, w_102_4, w_102_5, w_102_6, w_102_7, w_102_8, w_102_9, w_102_10, w_102_11, w_102_13, w_102_14, w_102_15, w_102_16, w_102_19, w_102_20, w_102_21, w_102_23, w_102_26, w_102_27, w_102_28, w_102_30, w_102_31, w_102_32, w_102_33, w_102_37, w_102_38, w_102_41, w_102_42, w_102_43, w_102_46, w_102_47, w_102_50, w_102_52, w_102_53, w_102_54, w_102_56, w_102_57, w_102_58, w_102_59, w_102_62, w_102_65, w_102_68, w_102_70, w_102_71, w_102_74, w_102_75, w_102_76, w_102_79, w_102_80, w_102_83, w_102_84, w_102_85, w_102_88, w_102_89, w_102_92, w_102_94, w_102_95, w_102_96, w_102_98, w_102_99, w_102_100, w_102_101, w_102_102, w_102_105, w_102_106, w_102_107, w_102_108, w_102_109, w_102_110, w_102_111, w_102_114, w_102_116, w_102_117, w_102_120, w_102_121, w_102_122, w_102_125, w_102_126, w_102_129, w_102_130, w_102_131, w_102_134, w_102_135, w_102_138, w_102_139, w_102_140, w_102_141, w_102_142, w_102_143, w_102_144, w_102_146, w_102_150, w_102_151, w_102_154, w_102_155, w_102_156, w_102_159, w_102_160, w_102_163, w_102_165, w_102_166, w_102_167, w_102_169, w_102_170, w_102_171, w_102_174, w_102_176, w_102_177, w_102_178, w_102_180, w_102_181, w_102_182, w_102_183, w_102_184, w_102_185, w_102_188, w_102_191, mm_k_none, mm_k_int, mm_k_ref, mm_k_null, mm_K_inl, mm_tl_some, mm_tl_none, mm_fg_ok, mm_rc_ok, mm_fp_ok, mm_ai_ok, mm_si_ok, mm_az_ok, mm_sz_ok, z01, z11, zb, b2i_t, b2i_f, true_and, and_true, r_at, r_at_1, r_at_2, r_at_3, r_at_4, r_at_5, r_at_6, r_at_7, r_at_8, r_at_9, r_at_10, r_at_11, r_at_12, r_at_13, r_at_14, r_at_15, r_at_16, r_at_17, r_set_1, r_set_2, r_set_3, r_set_4, r_set_5, r_set_6, r_set_7, r_set_8, r_set_9, r_set_10, r_set_11, r_set_12, r_set_13, r_set_14, r_set_15, r_set_16, r_set_17, r_set_f, r_set_n, r_g_0, r_g_1, r_g_2, r_g_3, r_g_4, r_g_5, r_g_6, r_g_7, r_g_8, r_g_9, r_g_10, r_g_11, r_g_12, r_g_13, r_g_14, r_g_15, r_g_16, r_g_17, r_g_18, r_olen, Nat.zero_le, Nat.not_lt_zero, if_true, if_false, m1_lt, m1_ge, mm_inT, pk_mul, nI_add, mm_in_nI, mm_cl_nI, nI_eq, nI_ltI, nI_leI, ↓reduceIte, Nat.add_zero, Nat.reduceLeDiff, oI_some, oI_none, m1_lt, nI_lt0, Rf_fail_eq, Rf_out_eq, eq_self, not_true_eq_false, not_false_eq_true, Nat.reduceEqDiff, Nat.reduceLT, ne_eq, or_true, true_or, or_false, false_or, decide_true, decide_false, Bool.true_eq_false, Bool.false_eq_true, b2i_ne, r_put_ne, hO.1, hm, hm0, g1, g2]
  · rw [if_neg hk6]
    refine ⟨ρ.2.2 13, ρ.2.2 14, hO, fun q _ => rfl, fun q _ => rfl, fun Q => ?_⟩
    have e1 : r_put (r_put (r_put ρ 12 (upd (ρ.2.2 12) l (nI (c + 1)))) 13 (ρ.2.2 13)) 14 (ρ.2.2 14) = r_put ρ 12 (upd (ρ.2.2 12) l (nI (c + 1))) := by
      have a1 : ρ.2.2 13 = (r_put ρ 12 (upd (ρ.2.2 12) l (nI (c + 1)))).2.2 13 := by rw [r_put_ne (by decide)]
      rw [a1, r_put_self]
      have a2 : ρ.2.2 14 = (r_put ρ 12 (upd (ρ.2.2 12) l (nI (c + 1)))).2.2 14 := by rw [r_put_ne (by decide)]
      rw [a2, r_put_self]
    rw [e1]
    simp (disch := omega) only [e_102, w_102_0, w_102_1, w_102_4, w_102_5, w_102_6, w_102_7, w_102_8, w_102_9, w_102_10, w_102_11, w_102_13, w_102_14, w_102_15, w_102_16, w_102_19, w_102_20, w_102_21, w_102_23, w_102_26, w_102_27, w_102_28, w_102_30, w_102_31, w_102_32, w_102_33, w_102_37, w_102_38, w_102_41, w_102_42, w_102_43, w_102_46, w_102_47, w_102_50, w_102_52, w_102_53, w_102_54, w_102_56, w_102_57, w_102_58, w_102_59, w_102_62, w_102_65, w_102_68, w_102_70, w_102_71, w_102_74, w_102_75, w_102_76, w_102_79, w_102_80, w_102_83, w_102_84, w_102_85, w_102_88, w_102_89, w_102_92, w_102_94, w_102_95, w_102_96, w_102_98, w_102_99, w_102_100, w_102_101, w_102_102, w_102_105, w_102_106, w_102_107, w_102_108, w_102_109, w_102_110, w_102_111, w_102_114, w_102_116, w_102_117, w_102_120, w_102_121, w_102_122, w_102_125, w_102_126, w_102_129, w_102_130, w_102_131, w_102_134, w_102_135, w_102_138, w_102_139, w_102_140, w_102_141, w_102_142, w_102_143, w_102_144, w_102_146, w_102_150, w_102_151, w_102_154, w_102_155, w_102_156, w_102_159, w_102_160, w_102_163, w_102_165, w_102_166, w_102_167, w_102_169, w_102_170, w_102_171, w_102_174, w_102_176, w_102_177, w_102_178, w_102_180, w_102_181, w_102_182, w_102_183, w_102_184, w_102_185, w_102_188, w_102_191, mm_k_none, mm_k_int, mm_k_ref, mm_k_null, mm_K_inl, mm_tl_some, mm_tl_none, mm_fg_ok, mm_rc_ok, mm_fp_ok, mm_ai_ok, mm_si_ok, mm_az_ok, mm_sz_ok, z01, z11, zb, b2i_t, b2i_f, true_and, and_true, r_at, r_at_1, r_at_2, r_at_3, r_at_4, r_at_5, r_at_6, r_at_7, r_at_8, r_at_9, r_at_10, r_at_11, r_at_12, r_at_13, r_at_14, r_at_15, r_at_16, r_at_17, r_set_1, r_set_2, r_set_3, r_set_4, r_set_5, r_set_6, r_set_7, r_set_8, r_set_9, r_set_10, r_set_11, r_set_12, r_set_13, r_set_14, r_set_15, r_set_16, r_set_17, r_set_f, r_set_n, r_g_0, r_g_1, r_g_2, r_g_3, r_g_4, r_g_5, r_g_6, r_g_7, r_g_8, r_g_9, r_g_10, r_g_11, r_g_12, r_g_13, r_g_14, r_g_15, r_g_16, r_g_17, r_g_18, r_olen, Nat.zero_le, Nat.not_lt_zero, if_true, if_false, m1_lt, m1_ge, mm_inT, pk_mul, nI_add, mm_in_nI, mm_cl_nI, nI_eq, nI_ltI, nI_leI, ↓reduceIte, Nat.add_zero, Nat.reduceLeDiff, oI_some, oI_none, m1_lt, nI_lt0, Rf_fail_eq, Rf_out_eq, eq_self, not_true_eq_false, not_false_eq_true, Nat.reduceEqDiff, Nat.reduceLT, ne_eq, or_true, true_or, or_false, false_or, decide_true, decide_false, Bool.true_eq_false, Bool.false_eq_true, b2i_ne, hc, pk_div, e8, hκ, r_put_ne, hk6]
end RF17
