/-! the reference's constructor -/
def ρ0 : RS := (0, 0, fun j => if j = 1 then (fun h => if h < 10 then -1 else 0) else fun _ => 0)
def ρ1 (k : Nat) : RS := (0, 0, fun j => if j = 1 then (fun h => if h < k then -1 else 0) else fun _ => 0)
theorem RRel_0 : RRel σ0 ρ0 := by
  refine ⟨rfl, fun h hh => ?_, fun n z => absurd z (Nat.not_lt_zero n), fun l _ => ⟨rfl, rfl, fun i hi => absurd hi (Nat.not_lt_zero i)⟩, fun n _ => ⟨rfl, fun i hi => absurd hi (Nat.not_lt_zero i)⟩⟩
  show (if h < 10 then (-1 : Int32) else 0) = _
  rw [if_pos hh]
  rfl
section RI
variable {X : Nat × Nat × (Nat → Int32)} {d : Nat} {M : mm_M} {Q : mm_Out → mm_M → Prop}
theorem Rf_init_lp {rm : Nat} : ∀ (j k : Nat), j + k = 10 → WP X (d + 1) 63 147 [some (.ref rm), some (.int (nI k))] [] (mm_R rm (ρ1 k) M) Q = Q (.inl none) (mm_R rm ρ0 M) := by
  intro j
  induction j with
  | zero =>
    intro k hk
    have e : k = 10 := by omega
    subst e
    rw [w_63_147]
    simp (disch := omega) only [w_63_0, w_63_1, w_63_4, w_63_5, w_63_7, w_63_9, w_63_12, w_63_13, w_63_15, w_63_17, w_63_20, w_63_21, w_63_23, w_63_25, w_63_28, w_63_29, w_63_31, w_63_33, w_63_36, w_63_37, w_63_39, w_63_41, w_63_44, w_63_45, w_63_47, w_63_49, w_63_52, w_63_53, w_63_55, w_63_57, w_63_60, w_63_61, w_63_63, w_63_65, w_63_68, w_63_69, w_63_71, w_63_73, w_63_76, w_63_77, w_63_80, w_63_82, w_63_85, w_63_86, w_63_89, w_63_91, w_63_94, w_63_95, w_63_98, w_63_100, w_63_103, w_63_104, w_63_107, w_63_109, w_63_112, w_63_113, w_63_115, w_63_117, w_63_120, w_63_121, w_63_123, w_63_125, w_63_128, w_63_129, w_63_132, w_63_134, w_63_137, w_63_138, w_63_140, w_63_142, w_63_145, w_63_146, w_63_148, w_63_150, w_63_153, w_63_154, w_63_157, w_63_158, w_63_159, w_63_160, w_63_163, w_63_166, mm_k_none, mm_k_int, mm_k_ref, mm_k_null, mm_K_inl, mm_tl_some, mm_tl_none, mm_fg_ok, mm_rc_ok, mm_fp_ok, mm_ai_ok, mm_si_ok, mm_az_ok, mm_sz_ok, z01, z11, zb, b2i_t, b2i_f, true_and, and_true, r_at, r_at_1, r_at_2, r_at_3, r_at_4, r_at_5, r_at_6, r_at_7, r_at_8, r_at_9, r_at_10, r_at_11, r_at_12, r_at_13, r_at_14, r_at_15, r_at_16, r_at_17, r_set_1, r_set_2, r_set_3, r_set_4, r_set_5, r_set_6, r_set_7, r_set_8, r_set_9, r_set_10, r_set_11, r_set_12, r_set_13, r_set_14, r_set_15, r_set_16, r_set_17, r_set_f, r_set_n, r_g_0, r_g_1, r_g_2, r_g_3, r_g_4, r_g_5, r_g_6, r_g_7, r_g_8, r_g_9, r_g_10, r_g_11, r_g_12, r_g_13, r_g_14, r_g_15, r_g_16, r_g_17, r_g_18, r_olen, Nat.zero_le, Nat.not_lt_zero, if_true, if_false, m1_lt, m1_ge, mm_inT, pk_mul, nI_add, mm_in_nI, mm_cl_nI, nI_eq, nI_ltI, nI_leI, ↓reduceIte, Nat.add_zero, Nat.reduceLeDiff, oI_some, oI_none, m1_lt, nI_lt0, Rf_fail_eq, Rf_out_eq, eq_self, not_true_eq_false, not_false_eq_true, Nat.reduceEqDiff, Nat.reduceLT, ne_eq, or_true, true_or, or_false, false_or, decide_true, decide_false, Bool.true_eq_false, Bool.false_eq_true, b2i_ne]
    rfl
  | succ j ih =>
    intro k hk
    have e : ¬ 10 ≤ k := by omega
    have ep : r_put (ρ1 k) 1 (upd ((ρ1 k).2.2 1) k (-1)) = ρ1 (k + 1) := by
      unfold r_put
      show (0, 0, _) = ((0, 0, _) : RS)
      congr 2
      funext i
      by_cases hi : i = 1
      · subst hi
        rw [if_pos rfl]
        funext h
        show upd (fun h => if h < k then (-1 : Int32) else 0) k (-1) h = if h < k + 1 then (-1 : Int32) else 0
        by_cases hh : h = k
        · subst hh
          rw [up_at, if_pos (by omega)]
        · rw [up_ne hh]
          by_cases h2 : h < k
          · rw [if_pos h2, if_pos (by omega)]
          · rw [if_neg h2, if_neg (by omega)]
      · rw [if_neg hi]
        show (if i = 1 then _ else _) = (if i = 1 then _ else _)
        rw [if_neg hi, if_neg hi]
    refine Eq.trans ?_ (ih (k + 1) (by omega))
    rw [w_63_147, ← ep]
    simp (disch := omega) only [w_63_0, w_63_1, w_63_4, w_63_5, w_63_7, w_63_9, w_63_12, w_63_13, w_63_15, w_63_17, w_63_20, w_63_21, w_63_23, w_63_25, w_63_28, w_63_29, w_63_31, w_63_33, w_63_36, w_63_37, w_63_39, w_63_41, w_63_44, w_63_45, w_63_47, w_63_49, w_63_52, w_63_53, w_63_55, w_63_57, w_63_60, w_63_61, w_63_63, w_63_65, w_63_68, w_63_69, w_63_71, w_63_73, w_63_76, w_63_77, w_63_80, w_63_82, w_63_85, w_63_86, w_63_89, w_63_91, w_63_94, w_63_95, w_63_98, w_63_100, w_63_103, w_63_104, w_63_107, w_63_109, w_63_112, w_63_113, w_63_115, w_63_117, w_63_120, w_63_121, w_63_123, w_63_125, w_63_128, w_63_129, w_63_132, w_63_134, w_63_137, w_63_138, w_63_140, w_63_142, w_63_145, w_63_146, w_63_148, w_63_150, w_63_153, w_63_154, w_63_157, w_63_158, w_63_159, w_63_160, w_63_163, w_63_166, mm_k_none, mm_k_int, mm_k_ref, mm_k_null, mm_K_inl, mm_tl_some, mm_tl_none, mm_fg_ok, mm_rc_ok, mm_fp_ok, mm_ai_ok, mm_si_ok, mm_az_ok, mm_sz_ok, z01, z11, zb, b2i_t, b2i_f, true_and, and_true, r_at, r_at_1, r_at_2, r_at_3, r_at_4, r_at_5, r_at_6, r_at_7, r_at_8, r_at_9, r_at_10, r_at_11, r_at_12, r_at_13, r_at_14, r_at_15, r_at_16, r_at_17, r_set_1, r_set_2, r_set_3, r_set_4, r_set_5, r_set_6, r_set_7, r_set_8, r_set_9, r_set_10, r_set_11, r_set_12, r_set_13, r_set_14, r_set_15, r_set_16, r_set_17, r_set_f, r_set_n, r_g_0, r_g_1, r_g_2, r_g_3, r_g_4, r_g_5, r_g_6, r_g_7, r_g_8, r_g_9, r_g_10, r_g_11, r_g_12, r_g_13, r_g_14, r_g_15, r_g_16, r_g_17, r_g_18, r_olen, Nat.zero_le, Nat.not_lt_zero, if_true, if_false, m1_lt, m1_ge, mm_inT, pk_mul, nI_add, mm_in_nI, mm_cl_nI, nI_eq, nI_ltI, nI_leI, ↓reduceIte, Nat.add_zero, Nat.reduceLeDiff, oI_some, oI_none, m1_lt, nI_lt0, Rf_fail_eq, Rf_out_eq, eq_self, not_true_eq_false, not_false_eq_true, Nat.reduceEqDiff, Nat.reduceLT, ne_eq, or_true, true_or, or_false, false_or, decide_true, decide_false, Bool.true_eq_false, Bool.false_eq_true, b2i_ne, e]
end RI
