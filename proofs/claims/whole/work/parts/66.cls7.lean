/-! the class: fill -/
/-- all but row (c, m) and the rows of nodes up to n is as before -/
def oth (n c m : Nat) (β β' : CS) : Prop := (∀ c' m', ¬ (c' = c ∧ m' = m) → ¬ ((c' = 9 ∨ c' = 10) ∧ m' ≤ n) → β'.1 c' m' = β.1 c' m') ∧ β'.2 = β.2
theorem oth.put {n c m : Nat} {β : CS} {f : Nat → Int32} : oth n c m β (c_put β c m f) := ⟨fun c' m' h _ => c_put_ne (by omega), rfl⟩
theorem oth.trans {n c m : Nat} {β β1 β2 : CS} (h : oth n c m β β1) (h2 : oth n c m β1 β2) : oth n c m β β2 := ⟨fun c' m' a b => (h2.1 c' m' a b).trans (h.1 c' m' a b), h2.2.trans h.2⟩
theorem oth.mono {n n' c m : Nat} {β β' : CS} (h : oth n c m β β') (hn : n ≤ n') : oth n' c m β β' := ⟨fun c' m' a b => h.1 c' m' a (fun z => b ⟨z.1, by omega⟩), h.2⟩
theorem oth.st {σ : Sg} {n c m : Nat} {β β' : CS} (h : oth n c m β β') (hB : isB σ c m) (hS : StRel σ β) : StRel σ β' := by
  have hc := isB_c hB
  intro q hq hk
  obtain ⟨a1, a2, a3, a4⟩ := hS q hq hk
  have e : ∀ x, x = 6 ∨ x = 7 ∨ x = 8 → β'.1 x q = β.1 x q := fun x hx => h.1 x q (by omega) (by omega)
  unfold holds at a1 ⊢
  rw [h.2, e 6 (by omega), e 7 (by omega), e 8 (by omega)]
  exact ⟨a1, a2, a3, a4⟩
section CL8
variable {X : Nat × Nat × (Nat → Int32)} {d T n c m : Nat} {Λ : Lay} {σ : Sg} {M : mm_M}
theorem Lc_two_1 (hW : WF T σ) (hL : LK Λ σ) (hn : n < sN σ) (h2 : kTwo (sK σ n) = true) (hB : isB σ c m) (hne : ¬ (m = n ∧ (c = 9 ∨ c = 10))) {A B : List Int32} (hA24 : A.length ≤ c_len σ 9 n) (hB24 : B.length ≤ c_len σ 10 n) : ∀ (j k : Nat) (l8 : Option Value) (acc : List Int32) (β : CS), j + k = A.length → bfAt β 9 n A → bfAt β 10 n B → bfAt β c m acc → acc.length + j ≤ c_len σ c m → ∃ f l8', bfAt (c_put β c m f) c m ((A.drop k).foldl (combA (sK σ n) B) acc) ∧ ∀ Q, WP X (d + 2) 30 36 [some (.ref (Λ.1 4 n)), some (.ref (Λ.1 c m)), some (.ref (Λ.1 9 n)), some (.ref (Λ.1 10 n)), some (.int (nI A.length)), some (.int (nI B.length)), some (.int (nI acc.length)), some (.int (nI k)), l8] [] (mm_C Λ σ β M) Q = WP X (d + 2) 30 109 [some (.ref (Λ.1 4 n)), some (.ref (Λ.1 c m)), some (.ref (Λ.1 9 n)), some (.ref (Λ.1 10 n)), some (.int (nI A.length)), some (.int (nI B.length)), some (.int (nI ((A.drop k).foldl (combA (sK σ n) B) acc).length)), some (.int (nI A.length)), l8'] [] (mm_C Λ σ (c_put β c m f) M) Q := by
  have hnode := fun β => c_node_at (M := M) (β := β) hL hn
  have h12 := hW.k12 hn
  have b9 : isB σ 9 n := Or.inr ⟨Or.inl rfl, hn, h2⟩
  have b10 : isB σ 10 n := Or.inr ⟨Or.inr rfl, hn, h2⟩
  have g9 := c_len_le hW b9
  have g10 := c_len_le hW b10
  have gc := c_len_le hW hB
  have hbc := isB_c hB
  intro j
  induction j with
  | zero =>
    intro k l8 acc β hk hA hBb hacc hl
    have e : A.length ≤ k := by omega
    have ek : k = A.length := by omega
    subst ek
    rw [List.drop_eq_nil_of_le e]
    refine ⟨β.1 c m, l8, by rw [c_put_self]; exact hacc, fun Q => ?_⟩
    rw [c_put_self, w_30_36]
    simp (disch := omega) only [w_30_0, w_30_1, w_30_4, w_30_4n, w_30_5, w_30_6, w_30_9, w_30_9n, w_30_10, w_30_11, w_30_14, w_30_14n, w_30_15, w_30_18, w_30_20, w_30_21, w_30_24, w_30_24n, w_30_25, w_30_28, w_30_30, w_30_31, w_30_33, w_30_34, w_30_38, w_30_40, w_30_43, w_30_43n, w_30_44, w_30_46, w_30_46n, w_30_47, w_30_49, w_30_50, w_30_53, w_30_56, w_30_57, w_30_60, w_30_61, w_30_63, w_30_64, w_30_67, w_30_69, w_30_72, w_30_74, w_30_75, w_30_78, w_30_80, w_30_83, w_30_84, w_30_87, w_30_88, w_30_91, w_30_92, w_30_94, w_30_94n, w_30_95, w_30_97, w_30_98, w_30_101, w_30_103, w_30_106, w_30_110, w_30_113, w_30_115, w_30_118, w_30_119, w_30_123, w_30_125, w_30_128, w_30_129, w_30_131, w_30_131n, w_30_132, w_30_134, w_30_135, w_30_138, w_30_140, w_30_143, w_30_146, w_30_148, mm_k_none, mm_k_int, mm_k_ref, mm_k_null, mm_K_inl, mm_tl_some, mm_tl_none, mm_fg_ok, mm_rc_ok, mm_fp_ok, mm_ai_ok, mm_si_ok, mm_az_ok, mm_sz_ok, z01, z11, zb, b2i_t, b2i_f, true_and, and_true, Nat.zero_le, Nat.not_lt_zero, if_true, if_false, m1_lt, m1_ge, mm_inT, pk_mul, nI_add, mm_in_nI, mm_cl_nI, nI_eq, nI_ltI, nI_leI, ↓reduceIte, Nat.add_zero, Nat.reduceLeDiff, oI_some, oI_none, m1_lt, nI_lt0, Rf_fail_eq, Rf_out_eq, eq_self, not_true_eq_false, not_false_eq_true, Nat.reduceEqDiff, Nat.reduceLT, ne_eq, or_true, true_or, or_false, false_or, decide_true, decide_false, Bool.true_eq_false, Bool.false_eq_true, b2i_ne, Nat.le_refl, List.foldl_nil]
  | succ j ih =>
    intro k l8 acc β hk hA hBb hacc hl
    have e : ¬ A.length ≤ k := by omega
    have hkl : k < A.length := by omega
    have hd : A.drop k = A[k] :: A.drop (k + 1) := List.drop_eq_getElem_cons hkl
    rw [hd, List.foldl_cons]
    have hpl := fun Q => Lc_placeOf_eq (X := X) (d := d + 1) (M := M) (β := β) (Q := Q) hW hL b10 hBb hB24 (v := A[k])
    have hκ : sK σ n = 9 ∨ sK σ n = 10 ∨ sK σ n = 11 := by simp [kTwo] at h2; omega
    have step : ∃ f l8', bfAt (c_put β c m f) c m (combA (sK σ n) B acc A[k]) ∧ ∀ Q, WP X (d + 2) 30 36 [some (.ref (Λ.1 4 n)), some (.ref (Λ.1 c m)), some (.ref (Λ.1 9 n)), some (.ref (Λ.1 10 n)), some (.int (nI A.length)), some (.int (nI B.length)), some (.int (nI acc.length)), some (.int (nI k)), l8] [] (mm_C Λ σ β M) Q = WP X (d + 2) 30 36 [some (.ref (Λ.1 4 n)), some (.ref (Λ.1 c m)), some (.ref (Λ.1 9 n)), some (.ref (Λ.1 10 n)), some (.int (nI A.length)), some (.int (nI B.length)), some (.int (nI (combA (sK σ n) B acc A[k]).length)), some (.int (nI (k + 1))), l8'] [] (mm_C Λ σ (c_put β c m f) M) Q := by
      obtain ⟨f, hf, hq⟩ := Lc_appendOnce_eq (X := X) (d := d) (M := M) (β := β) hW hL hB hacc (by omega) (v := A[k])
      by_cases hin : A[k] ∈ B
      · have hfs : ∃ p, fst1 A[k] B = some p ∧ p < 100 := by
          cases z : fst1 A[k] B with
          | none => exact absurd hin (fst1_none.1 z)
          | some p => exact ⟨p, rfl, by have := fst1_lt z; omega⟩
        obtain ⟨p, hp, hp100⟩ := hfs
        by_cases hd11 : sK σ n = 11
        · have ec : combA (sK σ n) B acc A[k] = acc := by
            rw [combA, hd11, if_neg]
            simp [hin]
          rw [ec]
          refine ⟨β.1 c m, some (.int (nI 1)), by rw [c_put_self]; exact hacc, fun Q => ?_⟩
          rw [c_put_self, w_30_36]
          simp (disch := omega) only [w_30_0, w_30_1, w_30_4, w_30_4n, w_30_5, w_30_6, w_30_9, w_30_9n, w_30_10, w_30_11, w_30_14, w_30_14n, w_30_15, w_30_18, w_30_20, w_30_21, w_30_24, w_30_24n, w_30_25, w_30_28, w_30_30, w_30_31, w_30_33, w_30_34, w_30_38, w_30_40, w_30_43, w_30_43n, w_30_44, w_30_46, w_30_46n, w_30_47, w_30_49, w_30_50, w_30_53, w_30_56, w_30_57, w_30_60, w_30_61, w_30_63, w_30_64, w_30_67, w_30_69, w_30_72, w_30_74, w_30_75, w_30_78, w_30_80, w_30_83, w_30_84, w_30_87, w_30_88, w_30_91, w_30_92, w_30_94, w_30_94n, w_30_95, w_30_97, w_30_98, w_30_101, w_30_103, w_30_106, w_30_110, w_30_113, w_30_115, w_30_118, w_30_119, w_30_123, w_30_125, w_30_128, w_30_129, w_30_131, w_30_131n, w_30_132, w_30_134, w_30_135, w_30_138, w_30_140, w_30_143, w_30_146, w_30_148, mm_k_none, mm_k_int, mm_k_ref, mm_k_null, mm_K_inl, mm_tl_some, mm_tl_none, mm_fg_ok, mm_rc_ok, mm_fp_ok, mm_ai_ok, mm_si_ok, mm_az_ok, mm_sz_ok, z01, z11, zb, b2i_t, b2i_f, true_and, and_true, c_g0, c_g1, c_g2, c_g3, c_g4, c_g5, c_g6, c_g7, c_g8, c_g9, c_g10, c_g11, c_g12, c_gl, c_o0, c_o1, c_o2, c_o3, c_ol, c_s0, c_s1, c_s2, c_s3, c_sl, Nat.zero_le, Nat.not_lt_zero, if_true, if_false, m1_lt, m1_ge, mm_inT, pk_mul, nI_add, mm_in_nI, mm_cl_nI, nI_eq, nI_ltI, nI_leI, ↓reduceIte, Nat.add_zero, Nat.reduceLeDiff, oI_some, oI_none, m1_lt, nI_lt0, Rf_fail_eq, Rf_out_eq, eq_self, not_true_eq_false, not_false_eq_true, Nat.reduceEqDiff, Nat.reduceLT, ne_eq, or_true, true_or, or_false, false_or, decide_true, decide_false, Bool.true_eq_false, Bool.false_eq_true, b2i_ne, e, hnode, c_b_at hL b9, hA k hkl, hpl, hp, hd11]
        · have ec : combA (sK σ n) B acc A[k] = addOnce acc A[k] := by
            rw [combA, if_pos]
            rcases hκ with z | z | z
            · exact Or.inl z
            · exact Or.inr (by simp [hin, z])
            · exact absurd z hd11
          rw [ec]
          refine ⟨f, some (.int (nI 1)), hf, fun Q => ?_⟩
          rw [w_30_36]
          rcases hκ with z | z | z
          · simp (disch := omega) only [w_30_0, w_30_1, w_30_4, w_30_4n, w_30_5, w_30_6, w_30_9, w_30_9n, w_30_10, w_30_11, w_30_14, w_30_14n, w_30_15, w_30_18, w_30_20, w_30_21, w_30_24, w_30_24n, w_30_25, w_30_28, w_30_30, w_30_31, w_30_33, w_30_34, w_30_38, w_30_40, w_30_43, w_30_43n, w_30_44, w_30_46, w_30_46n, w_30_47, w_30_49, w_30_50, w_30_53, w_30_56, w_30_57, w_30_60, w_30_61, w_30_63, w_30_64, w_30_67, w_30_69, w_30_72, w_30_74, w_30_75, w_30_78, w_30_80, w_30_83, w_30_84, w_30_87, w_30_88, w_30_91, w_30_92, w_30_94, w_30_94n, w_30_95, w_30_97, w_30_98, w_30_101, w_30_103, w_30_106, w_30_110, w_30_113, w_30_115, w_30_118, w_30_119, w_30_123, w_30_125, w_30_128, w_30_129, w_30_131, w_30_131n, w_30_132, w_30_134, w_30_135, w_30_138, w_30_140, w_30_143, w_30_146, w_30_148, mm_k_none, mm_k_int, mm_k_ref, mm_k_null, mm_K_inl, mm_tl_some, mm_tl_none, mm_fg_ok, mm_rc_ok, mm_fp_ok, mm_ai_ok, mm_si_ok, mm_az_ok, mm_sz_ok, z01, z11, zb, b2i_t, b2i_f, true_and, and_true, c_g0, c_g1, c_g2, c_g3, c_g4, c_g5, c_g6, c_g7, c_g8, c_g9, c_g10, c_g11, c_g12, c_gl, c_o0, c_o1, c_o2, c_o3, c_ol, c_s0, c_s1, c_s2, c_s3, c_sl, Nat.zero_le, Nat.not_lt_zero, if_true, if_false, m1_lt, m1_ge, mm_inT, pk_mul, nI_add, mm_in_nI, mm_cl_nI, nI_eq, nI_ltI, nI_leI, ↓reduceIte, Nat.add_zero, Nat.reduceLeDiff, oI_some, oI_none, m1_lt, nI_lt0, Rf_fail_eq, Rf_out_eq, eq_self, not_true_eq_false, not_false_eq_true, Nat.reduceEqDiff, Nat.reduceLT, ne_eq, or_true, true_or, or_false, false_or, decide_true, decide_false, Bool.true_eq_false, Bool.false_eq_true, b2i_ne, e, hnode, c_b_at hL b9, hA k hkl, hpl, hp, z, hq]
          · simp (disch := omega) only [w_30_0, w_30_1, w_30_4, w_30_4n, w_30_5, w_30_6, w_30_9, w_30_9n, w_30_10, w_30_11, w_30_14, w_30_14n, w_30_15, w_30_18, w_30_20, w_30_21, w_30_24, w_30_24n, w_30_25, w_30_28, w_30_30, w_30_31, w_30_33, w_30_34, w_30_38, w_30_40, w_30_43, w_30_43n, w_30_44, w_30_46, w_30_46n, w_30_47, w_30_49, w_30_50, w_30_53, w_30_56, w_30_57, w_30_60, w_30_61, w_30_63, w_30_64, w_30_67, w_30_69, w_30_72, w_30_74, w_30_75, w_30_78, w_30_80, w_30_83, w_30_84, w_30_87, w_30_88, w_30_91, w_30_92, w_30_94, w_30_94n, w_30_95, w_30_97, w_30_98, w_30_101, w_30_103, w_30_106, w_30_110, w_30_113, w_30_115, w_30_118, w_30_119, w_30_123, w_30_125, w_30_128, w_30_129, w_30_131, w_30_131n, w_30_132, w_30_134, w_30_135, w_30_138, w_30_140, w_30_143, w_30_146, w_30_148, mm_k_none, mm_k_int, mm_k_ref, mm_k_null, mm_K_inl, mm_tl_some, mm_tl_none, mm_fg_ok, mm_rc_ok, mm_fp_ok, mm_ai_ok, mm_si_ok, mm_az_ok, mm_sz_ok, z01, z11, zb, b2i_t, b2i_f, true_and, and_true, c_g0, c_g1, c_g2, c_g3, c_g4, c_g5, c_g6, c_g7, c_g8, c_g9, c_g10, c_g11, c_g12, c_gl, c_o0, c_o1, c_o2, c_o3, c_ol, c_s0, c_s1, c_s2, c_s3, c_sl, Nat.zero_le, Nat.not_lt_zero, if_true, if_false, m1_lt, m1_ge, mm_inT, pk_mul, nI_add, mm_in_nI, mm_cl_nI, nI_eq, nI_ltI, nI_leI, ↓reduceIte, Nat.add_zero, Nat.reduceLeDiff, oI_some, oI_none, m1_lt, nI_lt0, Rf_fail_eq, Rf_out_eq, eq_self, not_true_eq_false, not_false_eq_true, Nat.reduceEqDiff, Nat.reduceLT, ne_eq, or_true, true_or, or_false, false_or, decide_true, decide_false, Bool.true_eq_false, Bool.false_eq_true, b2i_ne, e, hnode, c_b_at hL b9, hA k hkl, hpl, hp, z, hq]
          · exact absurd z hd11
      · have hp : fst1 A[k] B = none := fst1_none.2 hin
        by_cases hd10 : sK σ n = 10
        · have ec : combA (sK σ n) B acc A[k] = acc := by
            rw [combA, hd10, if_neg]
            simp [hin]
          rw [ec]
          refine ⟨β.1 c m, some (.int (nI 0)), by rw [c_put_self]; exact hacc, fun Q => ?_⟩
          rw [c_put_self, w_30_36]
          simp (disch := omega) only [w_30_0, w_30_1, w_30_4, w_30_4n, w_30_5, w_30_6, w_30_9, w_30_9n, w_30_10, w_30_11, w_30_14, w_30_14n, w_30_15, w_30_18, w_30_20, w_30_21, w_30_24, w_30_24n, w_30_25, w_30_28, w_30_30, w_30_31, w_30_33, w_30_34, w_30_38, w_30_40, w_30_43, w_30_43n, w_30_44, w_30_46, w_30_46n, w_30_47, w_30_49, w_30_50, w_30_53, w_30_56, w_30_57, w_30_60, w_30_61, w_30_63, w_30_64, w_30_67, w_30_69, w_30_72, w_30_74, w_30_75, w_30_78, w_30_80, w_30_83, w_30_84, w_30_87, w_30_88, w_30_91, w_30_92, w_30_94, w_30_94n, w_30_95, w_30_97, w_30_98, w_30_101, w_30_103, w_30_106, w_30_110, w_30_113, w_30_115, w_30_118, w_30_119, w_30_123, w_30_125, w_30_128, w_30_129, w_30_131, w_30_131n, w_30_132, w_30_134, w_30_135, w_30_138, w_30_140, w_30_143, w_30_146, w_30_148, mm_k_none, mm_k_int, mm_k_ref, mm_k_null, mm_K_inl, mm_tl_some, mm_tl_none, mm_fg_ok, mm_rc_ok, mm_fp_ok, mm_ai_ok, mm_si_ok, mm_az_ok, mm_sz_ok, z01, z11, zb, b2i_t, b2i_f, true_and, and_true, c_g0, c_g1, c_g2, c_g3, c_g4, c_g5, c_g6, c_g7, c_g8, c_g9, c_g10, c_g11, c_g12, c_gl, c_o0, c_o1, c_o2, c_o3, c_ol, c_s0, c_s1, c_s2, c_s3, c_sl, Nat.zero_le, Nat.not_lt_zero, if_true, if_false, m1_lt, m1_ge, mm_inT, pk_mul, nI_add, mm_in_nI, mm_cl_nI, nI_eq, nI_ltI, nI_leI, ↓reduceIte, Nat.add_zero, Nat.reduceLeDiff, oI_some, oI_none, m1_lt, nI_lt0, Rf_fail_eq, Rf_out_eq, eq_self, not_true_eq_false, not_false_eq_true, Nat.reduceEqDiff, Nat.reduceLT, ne_eq, or_true, true_or, or_false, false_or, decide_true, decide_false, Bool.true_eq_false, Bool.false_eq_true, b2i_ne, e, hnode, c_b_at hL b9, hA k hkl, hpl, hp, hd10]
        · have ec : combA (sK σ n) B acc A[k] = addOnce acc A[k] := by
            rw [combA, if_pos]
            rcases hκ with z | z | z
            · exact Or.inl z
            · exact absurd z hd10
            · exact Or.inr (by simp [hin, z])
          rw [ec]
          refine ⟨f, some (.int (nI 0)), hf, fun Q => ?_⟩
          rw [w_30_36]
          rcases hκ with z | z | z
          · simp (disch := omega) only [w_30_0, w_30_1, w_30_4, w_30_4n, w_30_5, w_30_6, w_30_9, w_30_9n, w_30_10, w_30_11, w_30_14, w_30_14n, w_30_15, w_30_18, w_30_20, w_30_21, w_30_24, w_30_24n, w_30_25, w_30_28, w_30_30, w_30_31, w_30_33, w_30_34, w_30_38, w_30_40, w_30_43, w_30_43n, w_30_44, w_30_46, w_30_46n, w_30_47, w_30_49, w_30_50, w_30_53, w_30_56, w_30_57, w_30_60, w_30_61, w_30_63, w_30_64, w_30_67, w_30_69, w_30_72, w_30_74, w_30_75, w_30_78, w_30_80, w_30_83, w_30_84, w_30_87, w_30_88, w_30_91, w_30_92, w_30_94, w_30_94n, w_30_95, w_30_97, w_30_98, w_30_101, w_30_103, w_30_106, w_30_110, w_30_113, w_30_115, w_30_118, w_30_119, w_30_123, w_30_125, w_30_128, w_30_129, w_30_131, w_30_131n, w_30_132, w_30_134, w_30_135, w_30_138, w_30_140, w_30_143, w_30_146, w_30_148, mm_k_none, mm_k_int, mm_k_ref, mm_k_null, mm_K_inl, mm_tl_some, mm_tl_none, mm_fg_ok, mm_rc_ok, mm_fp_ok, mm_ai_ok, mm_si_ok, mm_az_ok, mm_sz_ok, z01, z11, zb, b2i_t, b2i_f, true_and, and_true, c_g0, c_g1, c_g2, c_g3, c_g4, c_g5, c_g6, c_g7, c_g8, c_g9, c_g10, c_g11, c_g12, c_gl, c_o0, c_o1, c_o2, c_o3, c_ol, c_s0, c_s1, c_s2, c_s3, c_sl, Nat.zero_le, Nat.not_lt_zero, if_true, if_false, m1_lt, m1_ge, mm_inT, pk_mul, nI_add, mm_in_nI, mm_cl_nI, nI_eq, nI_ltI, nI_leI, ↓reduceIte, Nat.add_zero, Nat.reduceLeDiff, oI_some, oI_none, m1_lt, nI_lt0, Rf_fail_eq, Rf_out_eq, eq_self, not_true_eq_false, not_false_eq_true, Nat.reduceEqDiff, Nat.reduceLT, ne_eq, or_true, true_or, or_false, false_or, decide_true, decide_false, Bool.true_eq_false, Bool.false_eq_true, b2i_ne, e, hnode, c_b_at hL b9, hA k hkl, hpl, hp, z, hq]
          · exact absurd z hd10
          · simp (disch := omega) only [w_30_0, w_30_1, w_30_4, w_30_4n, w_30_5, w_30_6, w_30_9, w_30_9n, w_30_10, w_30_11, w_30_14, w_30_14n, w_30_15, w_30_18, w_30_20, w_30_21, w_30_24, w_30_24n, w_30_25, w_30_28, w_30_30, w_30_31, w_30_33, w_30_34, w_30_38, w_30_40, w_30_43, w_30_43n, w_30_44, w_30_46, w_30_46n, w_30_47, w_30_49, w_30_50, w_30_53, w_30_56, w_30_57, w_30_60, w_30_61, w_30_63, w_30_64, w_30_67, w_30_69, w_30_72, w_30_74, w_30_75, w_30_78, w_30_80, w_30_83, w_30_84, w_30_87, w_30_88, w_30_91, w_30_92, w_30_94, w_30_94n, w_30_95, w_30_97, w_30_98, w_30_101, w_30_103, w_30_106, w_30_110, w_30_113, w_30_115, w_30_118, w_30_119, w_30_123, w_30_125, w_30_128, w_30_129, w_30_131, w_30_131n, w_30_132, w_30_134, w_30_135, w_30_138, w_30_140, w_30_143, w_30_146, w_30_148, mm_k_none, mm_k_int, mm_k_ref, mm_k_null, mm_K_inl, mm_tl_some, mm_tl_none, mm_fg_ok, mm_rc_ok, mm_fp_ok, mm_ai_ok, mm_si_ok, mm_az_ok, mm_sz_ok, z01, z11, zb, b2i_t, b2i_f, true_and, and_true, c_g0, c_g1, c_g2, c_g3, c_g4, c_g5, c_g6, c_g7, c_g8, c_g9, c_g10, c_g11, c_g12, c_gl, c_o0, c_o1, c_o2, c_o3, c_ol, c_s0, c_s1, c_s2, c_s3, c_sl, Nat.zero_le, Nat.not_lt_zero, if_true, if_false, m1_lt, m1_ge, mm_inT, pk_mul, nI_add, mm_in_nI, mm_cl_nI, nI_eq, nI_ltI, nI_leI, ↓reduceIte, Nat.add_zero, Nat.reduceLeDiff, oI_some, oI_none, m1_lt, nI_lt0, Rf_fail_eq, Rf_out_eq, eq_self, not_true_eq_false, not_false_eq_true, Nat.reduceEqDiff, Nat.reduceLT, ne_eq, or_true, true_or, or_false, false_or, decide_true, decide_false, Bool.true_eq_false, Bool.false_eq_true, b2i_ne, e, hnode, c_b_at hL b9, hA k hkl, hpl, hp, z, hq]
    obtain ⟨f1, l8', hf1, hq1⟩ := step
    have hln := combA_len (κ := sK σ n) (B := B) [A[k]] acc
    simp only [List.foldl_cons, List.foldl_nil, List.length_cons, List.length_nil] at hln
    obtain ⟨f2, l8'', hf2, hq2⟩ := ih (k + 1) l8' _ (c_put β c m f1) (by omega) (fun i hi => by rw [c_put_ne (by omega)]; exact hA i hi) (fun i hi => by rw [c_put_ne (by omega)]; exact hBb i hi) hf1 (by omega)
    rw [c_putput] at hf2
    refine ⟨f2, l8'', hf2, fun Q => ?_⟩
    have hq' := hq2 Q
    rw [c_putput] at hq'
    exact (hq1 Q).trans hq'
theorem Lc_two_2 (hW : WF T σ) (hL : LK Λ σ) (hn : n < sN σ) (h2 : kTwo (sK σ n) = true) (hB : isB σ c m) (hne : ¬ (m = n ∧ (c = 9 ∨ c = 10))) {B : List Int32} (hB24 : B.length ≤ c_len σ 10 n) {l0 l2 l4 : Option Value} : ∀ (j k : Nat) (l8 : Option Value) (acc : List Int32) (β : CS), j + k = B.length → bfAt β 10 n B → bfAt β c m acc → acc.length + j ≤ c_len σ c m → ∃ f, bfAt (c_put β c m f) c m ((B.drop k).foldl addOnce acc) ∧ ∀ Q, WP X (d + 2) 30 121 [l0, some (.ref (Λ.1 c m)), l2, some (.ref (Λ.1 10 n)), l4, some (.int (nI B.length)), some (.int (nI acc.length)), some (.int (nI k)), l8] [] (mm_C Λ σ β M) Q = Q (.inl (some (.int (nI ((B.drop k).foldl addOnce acc).length)))) (mm_C Λ σ (c_put β c m f) M) := by
  have b10 : isB σ 10 n := Or.inr ⟨Or.inr rfl, hn, h2⟩
  have g10 := c_len_le hW b10
  have gc := c_len_le hW hB
  have hbc := isB_c hB
  intro j
  induction j with
  | zero =>
    intro k l8 acc β hk hBb hacc hl
    have e : B.length ≤ k := by omega
    rw [List.drop_eq_nil_of_le e]
    refine ⟨β.1 c m, by rw [c_put_self]; exact hacc, fun Q => ?_⟩
    rw [c_put_self, w_30_121]
    simp (disch := omega) only [w_30_0, w_30_1, w_30_4, w_30_4n, w_30_5, w_30_6, w_30_9, w_30_9n, w_30_10, w_30_11, w_30_14, w_30_14n, w_30_15, w_30_18, w_30_20, w_30_21, w_30_24, w_30_24n, w_30_25, w_30_28, w_30_30, w_30_31, w_30_33, w_30_34, w_30_38, w_30_40, w_30_43, w_30_43n, w_30_44, w_30_46, w_30_46n, w_30_47, w_30_49, w_30_50, w_30_53, w_30_56, w_30_57, w_30_60, w_30_61, w_30_63, w_30_64, w_30_67, w_30_69, w_30_72, w_30_74, w_30_75, w_30_78, w_30_80, w_30_83, w_30_84, w_30_87, w_30_88, w_30_91, w_30_92, w_30_94, w_30_94n, w_30_95, w_30_97, w_30_98, w_30_101, w_30_103, w_30_106, w_30_109, w_30_110, w_30_113, w_30_115, w_30_118, w_30_119, w_30_123, w_30_125, w_30_128, w_30_129, w_30_131, w_30_131n, w_30_132, w_30_134, w_30_135, w_30_138, w_30_140, w_30_143, w_30_146, w_30_148, mm_k_none, mm_k_int, mm_k_ref, mm_k_null, mm_K_inl, mm_tl_some, mm_tl_none, mm_fg_ok, mm_rc_ok, mm_fp_ok, mm_ai_ok, mm_si_ok, mm_az_ok, mm_sz_ok, z01, z11, zb, b2i_t, b2i_f, true_and, and_true, Nat.zero_le, Nat.not_lt_zero, if_true, if_false, m1_lt, m1_ge, mm_inT, pk_mul, nI_add, mm_in_nI, mm_cl_nI, nI_eq, nI_ltI, nI_leI, ↓reduceIte, Nat.add_zero, Nat.reduceLeDiff, oI_some, oI_none, m1_lt, nI_lt0, Rf_fail_eq, Rf_out_eq, eq_self, not_true_eq_false, not_false_eq_true, Nat.reduceEqDiff, Nat.reduceLT, ne_eq, or_true, true_or, or_false, false_or, decide_true, decide_false, Bool.true_eq_false, Bool.false_eq_true, b2i_ne, e, List.foldl_nil]
  | succ j ih =>
    intro k l8 acc β hk hBb hacc hl
    have e : ¬ B.length ≤ k := by omega
    have hkl : k < B.length := by omega
    have hd : B.drop k = B[k] :: B.drop (k + 1) := List.drop_eq_getElem_cons hkl
    rw [hd, List.foldl_cons]
    obtain ⟨f, hf, hq⟩ := Lc_appendOnce_eq (X := X) (d := d) (M := M) (β := β) hW hL hB hacc (by omega) (v := B[k])
    have hln := once_len [B[k]] acc
    simp only [List.foldl_cons, List.foldl_nil, List.length_cons, List.length_nil] at hln
    obtain ⟨f2, hf2, hq2⟩ := ih (k + 1) l8 (addOnce acc B[k]) (c_put β c m f) (by omega) (fun i hi => by rw [c_put_ne (by omega)]; exact hBb i hi) hf (by omega)
    rw [c_putput] at hf2
    refine ⟨f2, hf2, fun Q => ?_⟩
    have hq' := hq2 Q
    rw [c_putput] at hq'
    refine Eq.trans ?_ hq'
    rw [w_30_121]
    simp (disch := omega) only [w_30_0, w_30_1, w_30_4, w_30_4n, w_30_5, w_30_6, w_30_9, w_30_9n, w_30_10, w_30_11, w_30_14, w_30_14n, w_30_15, w_30_18, w_30_20, w_30_21, w_30_24, w_30_24n, w_30_25, w_30_28, w_30_30, w_30_31, w_30_33, w_30_34, w_30_38, w_30_40, w_30_43, w_30_43n, w_30_44, w_30_46, w_30_46n, w_30_47, w_30_49, w_30_50, w_30_53, w_30_56, w_30_57, w_30_60, w_30_61, w_30_63, w_30_64, w_30_67, w_30_69, w_30_72, w_30_74, w_30_75, w_30_78, w_30_80, w_30_83, w_30_84, w_30_87, w_30_88, w_30_91, w_30_92, w_30_94, w_30_94n, w_30_95, w_30_97, w_30_98, w_30_101, w_30_103, w_30_106, w_30_109, w_30_110, w_30_113, w_30_115, w_30_118, w_30_119, w_30_123, w_30_125, w_30_128, w_30_129, w_30_131, w_30_131n, w_30_132, w_30_134, w_30_135, w_30_138, w_30_140, w_30_143, w_30_146, w_30_148, mm_k_none, mm_k_int, mm_k_ref, mm_k_null, mm_K_inl, mm_tl_some, mm_tl_none, mm_fg_ok, mm_rc_ok, mm_fp_ok, mm_ai_ok, mm_si_ok, mm_az_ok, mm_sz_ok, z01, z11, zb, b2i_t, b2i_f, true_and, and_true, Nat.zero_le, Nat.not_lt_zero, if_true, if_false, m1_lt, m1_ge, mm_inT, pk_mul, nI_add, mm_in_nI, mm_cl_nI, nI_eq, nI_ltI, nI_leI, ↓reduceIte, Nat.add_zero, Nat.reduceLeDiff, oI_some, oI_none, m1_lt, nI_lt0, Rf_fail_eq, Rf_out_eq, eq_self, not_true_eq_false, not_false_eq_true, Nat.reduceEqDiff, Nat.reduceLT, ne_eq, or_true, true_or, or_false, false_or, decide_true, decide_false, Bool.true_eq_false, Bool.false_eq_true, b2i_ne, e, c_b_at hL b10, hBb k hkl, hq]
end CL8
