/-! the class: combine -/
section CL33
variable {X : Nat × Nat × (Nat → Int32)} {d T n A k : Nat} {Λ : Lay} {σ σ' : Sg} {β : CS} {M N : mm_M} {Q : mm_Out → mm_M → Prop} {F : Nat → Nat → Int32} {x' : Int32}
theorem opC_combine (hW : WF T σ) (hL : LK Λ σ) (hlt : ∀ q t, Λ.2 q = some t → q < M.1) (hS : StRel σ β) {to kind one other : Int32} : opC X (d + 16) Λ σ β M 42 [.int to, .int kind, .int one, .int other] (sp_combine σ to kind one other) exA := by
  have qh := fun h Q => Lc_isHandle_eq (X := X) (d := d + 15) (M := mm_C Λ σ β M) (Q := Q) (h := h)
  have no1 : (bad to = true ∨ kind < nI 9 ∨ ¬ kind ≤ nI 11 ∨ ndo σ one = none ∨ ndo σ other = none) → sp_combine σ to kind one other = bade σ 1 := by
    intro z
    simp only [sp_combine]
    cases ha : ndo σ one with
    | none => rfl
    | some a =>
      cases hb : ndo σ other with
      | none => rfl
      | some b =>
        have : bad to = true ∨ kind < nI 9 ∨ ¬ kind ≤ nI 11 := by
          rcases z with z | z | z | z | z
          · exact Or.inl z
          · exact Or.inr (Or.inl z)
          · exact Or.inr (Or.inr z)
          · rw [ha] at z; cases z
          · rw [hb] at z; cases z
        simp only [if_pos this]
  rcases bad_cases to with h1 | ⟨h1, t, ht, rfl⟩
  · have qb := qh to
    rw [h1] at qb
    refine opC.no (β' := β) 1 (by decide) (no1 (Or.inl h1)) hS fun Q => ?_
    simp (disch := omega) only [e_42, w_42_0, w_42_1, w_42_4, w_42_7, w_42_9, w_42_10, w_42_13, w_42_14, w_42_16, w_42_19, w_42_20, w_42_23, w_42_24, w_42_27, w_42_28, w_42_29, w_42_32, w_42_34, w_42_35, w_42_37, w_42_40, w_42_42, w_42_44, w_42_47, w_42_49, w_42_52, w_42_53, w_42_55, w_42_58, w_42_60, w_42_63, w_42_64, w_42_66, w_42_69, w_42_71, w_42_74, w_42_77, w_42_78, w_42_79, w_42_82, w_42_83, w_42_84, w_42_87, w_42_88, w_42_89, w_42_91, w_42_93, w_42_96, w_42_99, mm_k_none, mm_k_int, mm_k_ref, mm_k_null, mm_K_inl, mm_tl_some, mm_tl_none, mm_fg_ok, mm_rc_ok, mm_fp_ok, mm_ai_ok, mm_si_ok, mm_az_ok, mm_sz_ok, z01, z11, zb, b2i_t, b2i_f, true_and, and_true, c_g0, c_g1, c_g2, c_g3, c_g4, c_g5, c_g6, c_g7, c_g8, c_g9, c_g10, c_g11, c_g12, c_gl, c_o0, c_o1, c_o2, c_o3, c_ol, c_s0, c_s1, c_s2, c_s3, c_sl, Nat.zero_le, Nat.not_lt_zero, if_true, if_false, m1_lt, m1_ge, mm_inT, pk_mul, nI_add, mm_in_nI, mm_cl_nI, nI_eq, nI_ltI, nI_leI, ↓reduceIte, Nat.add_zero, Nat.reduceLeDiff, oI_some, oI_none, m1_lt, nI_lt0, Rf_fail_eq, Rf_out_eq, eq_self, not_true_eq_false, not_false_eq_true, Nat.reduceEqDiff, Nat.reduceLT, ne_eq, or_true, true_or, or_false, false_or, decide_true, decide_false, Bool.true_eq_false, Bool.false_eq_true, b2i_ne, mm_K_inr, mm_G_ok, c_skip, rf_n, rf_s, Lc_needTold_1, Lc_needTold_0, Lc_needTold_eq, Lc_needRoom_1, Lc_needRoom_0, Lc_needRoom_eq, Lc_needPlace_1, Lc_needPlace_0, Lc_needPlace_eq, Lc_needThere_1, Lc_needThere_0, Lc_needThere_eq, Lc_needSupported_1, Lc_needSupported_0, Lc_needSupported_eq, qb, Bool.not_true, Bool.not_false]
    rfl
  · have ht1 : (nI t).toNatClampNeg = t := nI_clamp (by omega)
    have qb := qh (nI t)
    rw [h1] at qb
    by_cases c1 : kind < nI 9
    · have g : ¬ nI 9 ≤ kind := Int32.not_le.2 c1
      refine opC.no (β' := β) 1 (by decide) (no1 (Or.inr (Or.inl c1))) hS fun Q => ?_
      simp (disch := omega) only [e_42, w_42_0, w_42_1, w_42_4, w_42_7, w_42_9, w_42_10, w_42_13, w_42_14, w_42_16, w_42_19, w_42_20, w_42_23, w_42_24, w_42_27, w_42_28, w_42_29, w_42_32, w_42_34, w_42_35, w_42_37, w_42_40, w_42_42, w_42_44, w_42_47, w_42_49, w_42_52, w_42_53, w_42_55, w_42_58, w_42_60, w_42_63, w_42_64, w_42_66, w_42_69, w_42_71, w_42_74, w_42_77, w_42_78, w_42_79, w_42_82, w_42_83, w_42_84, w_42_87, w_42_88, w_42_89, w_42_91, w_42_93, w_42_96, w_42_99, mm_k_none, mm_k_int, mm_k_ref, mm_k_null, mm_K_inl, mm_tl_some, mm_tl_none, mm_fg_ok, mm_rc_ok, mm_fp_ok, mm_ai_ok, mm_si_ok, mm_az_ok, mm_sz_ok, z01, z11, zb, b2i_t, b2i_f, true_and, and_true, c_g0, c_g1, c_g2, c_g3, c_g4, c_g5, c_g6, c_g7, c_g8, c_g9, c_g10, c_g11, c_g12, c_gl, c_o0, c_o1, c_o2, c_o3, c_ol, c_s0, c_s1, c_s2, c_s3, c_sl, Nat.zero_le, Nat.not_lt_zero, if_true, if_false, m1_lt, m1_ge, mm_inT, pk_mul, nI_add, mm_in_nI, mm_cl_nI, nI_eq, nI_ltI, nI_leI, ↓reduceIte, Nat.add_zero, Nat.reduceLeDiff, oI_some, oI_none, m1_lt, nI_lt0, Rf_fail_eq, Rf_out_eq, eq_self, not_true_eq_false, not_false_eq_true, Nat.reduceEqDiff, Nat.reduceLT, ne_eq, or_true, true_or, or_false, false_or, decide_true, decide_false, Bool.true_eq_false, Bool.false_eq_true, b2i_ne, mm_K_inr, mm_G_ok, c_skip, rf_n, rf_s, Lc_needTold_1, Lc_needTold_0, Lc_needTold_eq, Lc_needRoom_1, Lc_needRoom_0, Lc_needRoom_eq, Lc_needPlace_1, Lc_needPlace_0, Lc_needPlace_eq, Lc_needThere_1, Lc_needThere_0, Lc_needThere_eq, Lc_needSupported_1, Lc_needSupported_0, Lc_needSupported_eq, qb, Bool.not_true, Bool.not_false, c1, g]
      rfl
    · obtain ⟨k, hk, rfl⟩ := nI_of' (fun z => c1 (Int32.lt_trans z (by decide)))
      have k9 : 9 ≤ k := Nat.le_of_not_lt fun z => c1 (nI_lt z (by decide))
      have k9' : ¬ k < 9 := by omega
      by_cases k11 : k ≤ 11
      · have k11' : ¬ 11 < k := by omega
        cases ha : ndo σ one with
        | none =>
          refine opC.no (β' := β) 1 (by decide) (no1 (Or.inr (Or.inr (Or.inr (Or.inl ha))))) hS fun Q => ?_
          have q1 := fun Q => Lc_nodeIn_no (X := X) (d := d + 8) (β := β) (M := M) (Q := Q) hL ha
          simp (disch := omega) only [e_42, w_42_0, w_42_1, w_42_4, w_42_7, w_42_9, w_42_10, w_42_13, w_42_14, w_42_16, w_42_19, w_42_20, w_42_23, w_42_24, w_42_27, w_42_28, w_42_29, w_42_32, w_42_34, w_42_35, w_42_37, w_42_40, w_42_42, w_42_44, w_42_47, w_42_49, w_42_52, w_42_53, w_42_55, w_42_58, w_42_60, w_42_63, w_42_64, w_42_66, w_42_69, w_42_71, w_42_74, w_42_77, w_42_78, w_42_79, w_42_82, w_42_83, w_42_84, w_42_87, w_42_88, w_42_89, w_42_91, w_42_93, w_42_96, w_42_99, mm_k_none, mm_k_int, mm_k_ref, mm_k_null, mm_K_inl, mm_tl_some, mm_tl_none, mm_fg_ok, mm_rc_ok, mm_fp_ok, mm_ai_ok, mm_si_ok, mm_az_ok, mm_sz_ok, z01, z11, zb, b2i_t, b2i_f, true_and, and_true, c_g0, c_g1, c_g2, c_g3, c_g4, c_g5, c_g6, c_g7, c_g8, c_g9, c_g10, c_g11, c_g12, c_gl, c_o0, c_o1, c_o2, c_o3, c_ol, c_s0, c_s1, c_s2, c_s3, c_sl, Nat.zero_le, Nat.not_lt_zero, if_true, if_false, m1_lt, m1_ge, mm_inT, pk_mul, nI_add, mm_in_nI, mm_cl_nI, nI_eq, nI_ltI, nI_leI, ↓reduceIte, Nat.add_zero, Nat.reduceLeDiff, oI_some, oI_none, m1_lt, nI_lt0, Rf_fail_eq, Rf_out_eq, eq_self, not_true_eq_false, not_false_eq_true, Nat.reduceEqDiff, Nat.reduceLT, ne_eq, or_true, true_or, or_false, false_or, decide_true, decide_false, Bool.true_eq_false, Bool.false_eq_true, b2i_ne, mm_K_inr, mm_G_ok, c_skip, rf_n, rf_s, Lc_needTold_1, Lc_needTold_0, Lc_needTold_eq, Lc_needRoom_1, Lc_needRoom_0, Lc_needRoom_eq, Lc_needPlace_1, Lc_needPlace_0, Lc_needPlace_eq, Lc_needThere_1, Lc_needThere_0, Lc_needThere_eq, Lc_needSupported_1, Lc_needSupported_0, Lc_needSupported_eq, qb, Bool.not_true, Bool.not_false, k9, k9', k11, k11', c_obj_at hL, q1]
          rfl
        | some a =>
          have q1 := fun Q => Lc_nodeIn_ok (X := X) (d := d + 8) (β := β) (M := M) (Q := Q) hL ha
          have hal := ndo_lt hW ha
          cases hb : ndo σ other with
          | none =>
            refine opC.no (β' := β) 1 (by decide) (no1 (Or.inr (Or.inr (Or.inr (Or.inr hb))))) hS fun Q => ?_
            have q2 := fun Q => Lc_nodeIn_no (X := X) (d := d + 8) (β := β) (M := M) (Q := Q) hL hb
            simp (disch := omega) only [e_42, w_42_0, w_42_1, w_42_4, w_42_7, w_42_9, w_42_10, w_42_13, w_42_14, w_42_16, w_42_19, w_42_20, w_42_23, w_42_24, w_42_27, w_42_28, w_42_29, w_42_32, w_42_34, w_42_35, w_42_37, w_42_40, w_42_42, w_42_44, w_42_47, w_42_49, w_42_52, w_42_53, w_42_55, w_42_58, w_42_60, w_42_63, w_42_64, w_42_66, w_42_69, w_42_71, w_42_74, w_42_77, w_42_78, w_42_79, w_42_82, w_42_83, w_42_84, w_42_87, w_42_88, w_42_89, w_42_91, w_42_93, w_42_96, w_42_99, mm_k_none, mm_k_int, mm_k_ref, mm_k_null, mm_K_inl, mm_tl_some, mm_tl_none, mm_fg_ok, mm_rc_ok, mm_fp_ok, mm_ai_ok, mm_si_ok, mm_az_ok, mm_sz_ok, z01, z11, zb, b2i_t, b2i_f, true_and, and_true, c_g0, c_g1, c_g2, c_g3, c_g4, c_g5, c_g6, c_g7, c_g8, c_g9, c_g10, c_g11, c_g12, c_gl, c_o0, c_o1, c_o2, c_o3, c_ol, c_s0, c_s1, c_s2, c_s3, c_sl, Nat.zero_le, Nat.not_lt_zero, if_true, if_false, m1_lt, m1_ge, mm_inT, pk_mul, nI_add, mm_in_nI, mm_cl_nI, nI_eq, nI_ltI, nI_leI, ↓reduceIte, Nat.add_zero, Nat.reduceLeDiff, oI_some, oI_none, m1_lt, nI_lt0, Rf_fail_eq, Rf_out_eq, eq_self, not_true_eq_false, not_false_eq_true, Nat.reduceEqDiff, Nat.reduceLT, ne_eq, or_true, true_or, or_false, false_or, decide_true, decide_false, Bool.true_eq_false, Bool.false_eq_true, b2i_ne, mm_K_inr, mm_G_ok, c_skip, rf_n, rf_s, Lc_needTold_1, Lc_needTold_0, Lc_needTold_eq, Lc_needRoom_1, Lc_needRoom_0, Lc_needRoom_eq, Lc_needPlace_1, Lc_needPlace_0, Lc_needPlace_eq, Lc_needThere_1, Lc_needThere_0, Lc_needThere_eq, Lc_needSupported_1, Lc_needSupported_0, Lc_needSupported_eq, qb, Bool.not_true, Bool.not_false, k9, k9', k11, k11', c_obj_at hL, q1, q2]
            rfl
          | some b =>
            have q2 := fun Q => Lc_nodeIn_ok (X := X) (d := d + 8) (β := β) (M := M) (Q := Q) hL hb
            have hbl := ndo_lt hW hb
            have hc : ¬ (bad (nI t) = true ∨ nI k < nI 9 ∨ ¬ nI k ≤ nI 11) := by
              rintro (z | z | z)
              · rw [h1] at z; cases z
              · exact c1 z
              · exact z (nI_le k11 (by decide))
            cases hs : stale σ a with
            | true =>
              refine opC.no (β' := β) 2 (by decide) (by simp only [sp_combine, ha, hb, if_neg hc, hs, true_or, if_true]) hS fun Q => ?_
              have q3 := fun Q => Lc_needFresh_no (X := X) (d := d + 7) (β := β) (M := M) (Q := Q) hW hL hS hal hs
              simp (disch := omega) only [e_42, w_42_0, w_42_1, w_42_4, w_42_7, w_42_9, w_42_10, w_42_13, w_42_14, w_42_16, w_42_19, w_42_20, w_42_23, w_42_24, w_42_27, w_42_28, w_42_29, w_42_32, w_42_34, w_42_35, w_42_37, w_42_40, w_42_42, w_42_44, w_42_47, w_42_49, w_42_52, w_42_53, w_42_55, w_42_58, w_42_60, w_42_63, w_42_64, w_42_66, w_42_69, w_42_71, w_42_74, w_42_77, w_42_78, w_42_79, w_42_82, w_42_83, w_42_84, w_42_87, w_42_88, w_42_89, w_42_91, w_42_93, w_42_96, w_42_99, mm_k_none, mm_k_int, mm_k_ref, mm_k_null, mm_K_inl, mm_tl_some, mm_tl_none, mm_fg_ok, mm_rc_ok, mm_fp_ok, mm_ai_ok, mm_si_ok, mm_az_ok, mm_sz_ok, z01, z11, zb, b2i_t, b2i_f, true_and, and_true, c_g0, c_g1, c_g2, c_g3, c_g4, c_g5, c_g6, c_g7, c_g8, c_g9, c_g10, c_g11, c_g12, c_gl, c_o0, c_o1, c_o2, c_o3, c_ol, c_s0, c_s1, c_s2, c_s3, c_sl, Nat.zero_le, Nat.not_lt_zero, if_true, if_false, m1_lt, m1_ge, mm_inT, pk_mul, nI_add, mm_in_nI, mm_cl_nI, nI_eq, nI_ltI, nI_leI, ↓reduceIte, Nat.add_zero, Nat.reduceLeDiff, oI_some, oI_none, m1_lt, nI_lt0, Rf_fail_eq, Rf_out_eq, eq_self, not_true_eq_false, not_false_eq_true, Nat.reduceEqDiff, Nat.reduceLT, ne_eq, or_true, true_or, or_false, false_or, decide_true, decide_false, Bool.true_eq_false, Bool.false_eq_true, b2i_ne, mm_K_inr, mm_G_ok, c_skip, rf_n, rf_s, Lc_needTold_1, Lc_needTold_0, Lc_needTold_eq, Lc_needRoom_1, Lc_needRoom_0, Lc_needRoom_eq, Lc_needPlace_1, Lc_needPlace_0, Lc_needPlace_eq, Lc_needThere_1, Lc_needThere_0, Lc_needThere_eq, Lc_needSupported_1, Lc_needSupported_0, Lc_needSupported_eq, qb, Bool.not_true, Bool.not_false, k9, k9', k11, k11', c_obj_at hL, q1, q2, q3]
              rfl
            | false =>
              have q3 := fun Q => Lc_needFresh_ok (X := X) (d := d + 7) (β := β) (M := M) (Q := Q) hW hL hS hal hs
              cases hs2 : stale σ b with
              | true =>
                refine opC.no (β' := β) 2 (by decide) (by simp only [sp_combine, ha, hb, if_neg hc, hs2, or_true, if_true]) hS fun Q => ?_
                have q4 := fun Q => Lc_needFresh_no (X := X) (d := d + 7) (β := β) (M := M) (Q := Q) hW hL hS hbl hs2
                simp (disch := omega) only [e_42, w_42_0, w_42_1, w_42_4, w_42_7, w_42_9, w_42_10, w_42_13, w_42_14, w_42_16, w_42_19, w_42_20, w_42_23, w_42_24, w_42_27, w_42_28, w_42_29, w_42_32, w_42_34, w_42_35, w_42_37, w_42_40, w_42_42, w_42_44, w_42_47, w_42_49, w_42_52, w_42_53, w_42_55, w_42_58, w_42_60, w_42_63, w_42_64, w_42_66, w_42_69, w_42_71, w_42_74, w_42_77, w_42_78, w_42_79, w_42_82, w_42_83, w_42_84, w_42_87, w_42_88, w_42_89, w_42_91, w_42_93, w_42_96, w_42_99, mm_k_none, mm_k_int, mm_k_ref, mm_k_null, mm_K_inl, mm_tl_some, mm_tl_none, mm_fg_ok, mm_rc_ok, mm_fp_ok, mm_ai_ok, mm_si_ok, mm_az_ok, mm_sz_ok, z01, z11, zb, b2i_t, b2i_f, true_and, and_true, c_g0, c_g1, c_g2, c_g3, c_g4, c_g5, c_g6, c_g7, c_g8, c_g9, c_g10, c_g11, c_g12, c_gl, c_o0, c_o1, c_o2, c_o3, c_ol, c_s0, c_s1, c_s2, c_s3, c_sl, Nat.zero_le, Nat.not_lt_zero, if_true, if_false, m1_lt, m1_ge, mm_inT, pk_mul, nI_add, mm_in_nI, mm_cl_nI, nI_eq, nI_ltI, nI_leI, ↓reduceIte, Nat.add_zero, Nat.reduceLeDiff, oI_some, oI_none, m1_lt, nI_lt0, Rf_fail_eq, Rf_out_eq, eq_self, not_true_eq_false, not_false_eq_true, Nat.reduceEqDiff, Nat.reduceLT, ne_eq, or_true, true_or, or_false, false_or, decide_true, decide_false, Bool.true_eq_false, Bool.false_eq_true, b2i_ne, mm_K_inr, mm_G_ok, c_skip, rf_n, rf_s, Lc_needTold_1, Lc_needTold_0, Lc_needTold_eq, Lc_needRoom_1, Lc_needRoom_0, Lc_needRoom_eq, Lc_needPlace_1, Lc_needPlace_0, Lc_needPlace_eq, Lc_needThere_1, Lc_needThere_0, Lc_needThere_eq, Lc_needSupported_1, Lc_needSupported_0, Lc_needSupported_eq, qb, Bool.not_true, Bool.not_false, k9, k9', k11, k11', c_obj_at hL, q1, q2, q3, q4]
                rfl
              | false =>
                have q4 := fun Q => Lc_needFresh_ok (X := X) (d := d + 7) (β := β) (M := M) (Q := Q) hW hL hS hbl hs2
                have hst : ¬ (stale σ a = true ∨ stale σ b = true) := by rw [hs, hs2]; decide
                have lga := hW.lg hal
                have lgb := hW.lg hbl
                have hna := c_node_at (M := M) (β := β) hL hal
                have hnb := c_node_at (M := M) (β := β) hL hbl
                have hm := max_nI (show sG σ a < 2147483648 by omega) (show sG σ b < 2147483648 by omega)
                have hm2 : (if sG σ a < sG σ b then nI (sG σ b) else nI (sG σ a)) = nI (max (sG σ a) (sG σ b)) := by
                  by_cases h : sG σ a < sG σ b
                  · rw [if_pos h, Nat.max_eq_right (by omega)]
                  · rw [if_neg h, Nat.max_eq_left (by omega)]
                by_cases hroom : sN σ = 40 ∨ 3 < sL σ a + sL σ b ∨ 6 < max (sG σ a) (sG σ b) + 1
                · have qroom := fun Q => Lc_roomN_no (X := X) (d := d + 8) (β := β) (M := M) (Q := Q) hW hL (lv := sL σ a + sL σ b) (hv := max (sG σ a) (sG σ b) + 1) (by omega) (by omega) hroom
                  refine opC.no (β' := β) 2 (by decide) (by simp only [sp_combine, ha, hb, if_neg hc, if_neg hst, crt, if_pos hroom]) hS fun Q => ?_
                  simp (disch := omega) only [e_42, w_42_0, w_42_1, w_42_4, w_42_7, w_42_9, w_42_10, w_42_13, w_42_14, w_42_16, w_42_19, w_42_20, w_42_23, w_42_24, w_42_27, w_42_28, w_42_29, w_42_32, w_42_34, w_42_35, w_42_37, w_42_40, w_42_42, w_42_44, w_42_47, w_42_49, w_42_52, w_42_53, w_42_55, w_42_58, w_42_60, w_42_63, w_42_64, w_42_66, w_42_69, w_42_71, w_42_74, w_42_77, w_42_78, w_42_79, w_42_82, w_42_83, w_42_84, w_42_87, w_42_88, w_42_89, w_42_91, w_42_93, w_42_96, w_42_99, mm_k_none, mm_k_int, mm_k_ref, mm_k_null, mm_K_inl, mm_tl_some, mm_tl_none, mm_fg_ok, mm_rc_ok, mm_fp_ok, mm_ai_ok, mm_si_ok, mm_az_ok, mm_sz_ok, z01, z11, zb, b2i_t, b2i_f, true_and, and_true, c_g0, c_g1, c_g2, c_g3, c_g4, c_g5, c_g6, c_g7, c_g8, c_g9, c_g10, c_g11, c_g12, c_gl, c_o0, c_o1, c_o2, c_o3, c_ol, c_s0, c_s1, c_s2, c_s3, c_sl, Nat.zero_le, Nat.not_lt_zero, if_true, if_false, m1_lt, m1_ge, mm_inT, pk_mul, nI_add, mm_in_nI, mm_cl_nI, nI_eq, nI_ltI, nI_leI, ↓reduceIte, Nat.add_zero, Nat.reduceLeDiff, oI_some, oI_none, m1_lt, nI_lt0, Rf_fail_eq, Rf_out_eq, eq_self, not_true_eq_false, not_false_eq_true, Nat.reduceEqDiff, Nat.reduceLT, ne_eq, or_true, true_or, or_false, false_or, decide_true, decide_false, Bool.true_eq_false, Bool.false_eq_true, b2i_ne, mm_K_inr, mm_G_ok, c_skip, rf_n, rf_s, Lc_needTold_1, Lc_needTold_0, Lc_needTold_eq, Lc_needRoom_1, Lc_needRoom_0, Lc_needRoom_eq, Lc_needPlace_1, Lc_needPlace_0, Lc_needPlace_eq, Lc_needThere_1, Lc_needThere_0, Lc_needThere_eq, Lc_needSupported_1, Lc_needSupported_0, Lc_needSupported_eq, qb, Bool.not_true, Bool.not_false, k9, k9', k11, k11', c_obj_at hL, q1, q2, q3, q4, hna, hnb, hm, hm2, qroom]
                  rfl
                · have qroom := fun Q => Lc_roomN_ok (X := X) (d := d + 8) (β := β) (M := M) (Q := Q) hW hL (lv := sL σ a + sL σ b) (hv := max (sG σ a) (sG σ b) + 1) (by omega) (by omega) hroom
                  have hn40 : sN σ < 40 := by have := hW.n40; omega
                  have hkk : k = 9 ∨ k = 10 ∨ k = 11 := by omega
                  have k2 : kTwo k = true := by rcases hkk with rfl | rfl | rfl <;> rfl
                  have kk2 : kS k = false := by rcases hkk with rfl | rfl | rfl <;> rfl
                  have esp : sp_combine σ (nI t) (nI k) one other = (0, nI (sN σ + 1), addN σ t k a b (nI 0) 0 0 (sL σ a + sL σ b) (max (sG σ a) (sG σ b) + 1) []) := by
                    simp only [sp_combine, ha, hb, if_neg hc, if_neg hst, crt, if_neg hroom, ht1]
                    rw [nI_clamp hk]
                  have l0 := hlt _ _ (hL.2.1 0 (by decide))
                  have lna := hlt _ _ (hL.2.2 a hal).1
                  have lnb := hlt _ _ (hL.2.2 b hbl).1
                  have qn := fun Q => Nd_newB2 (X := X) (d := d + 14) (M := mm_C Λ σ β M) (x := nI k) (Q := Q) (c_node_at hL hal) (c_node_at hL hbl) (show Λ.1 4 a < (mm_C Λ σ β M).1 by rw [mm_C_1]; omega) (show Λ.1 4 b < (mm_C Λ σ β M).1 by rw [mm_C_1]; omega) c_g1 c_g2 c_g1 c_g2 lga.2.1 lgb.2.1 lga.2.2.2 lgb.2.2.2
                  have nok : ∀ {P : Prop}, kS k = true → P := fun z => by rw [kk2] at z; cases z
                  refine opC.made (k := k) (a := 3) (g := g3) (f := f3) (s := 13 + (sL σ a * 24 + sL σ b * 24)) (β1 := β) (F := fun _ _ => 0) (x' := 0) hL hlt (gf3 k2 kk2) esp (StRel_new hW hS (k := k) (L := []) rfl rfl rfl rfl rfl (fun _ => rfl) nok nok nok nok) (by decide) (by omega) fun Q => ?_
                  simp (disch := first | omega | (simp only [mm_push_1, mm_C_1]; omega)) only [e_42, w_42_0, w_42_1, w_42_4, w_42_7, w_42_9, w_42_10, w_42_13, w_42_14, w_42_16, w_42_19, w_42_20, w_42_23, w_42_24, w_42_27, w_42_28, w_42_29, w_42_32, w_42_34, w_42_35, w_42_37, w_42_40, w_42_42, w_42_44, w_42_47, w_42_49, w_42_52, w_42_53, w_42_55, w_42_58, w_42_60, w_42_63, w_42_64, w_42_66, w_42_69, w_42_71, w_42_74, w_42_77, w_42_78, w_42_79, w_42_82, w_42_83, w_42_84, w_42_87, w_42_88, w_42_89, w_42_91, w_42_93, w_42_96, w_42_99, mm_k_none, mm_k_int, mm_k_ref, mm_k_null, mm_K_inl, mm_tl_some, mm_tl_none, mm_fg_ok, mm_rc_ok, mm_fp_ok, mm_ai_ok, mm_si_ok, mm_az_ok, mm_sz_ok, z01, z11, zb, b2i_t, b2i_f, true_and, and_true, c_g0, c_g1, c_g2, c_g3, c_g4, c_g5, c_g6, c_g7, c_g8, c_g9, c_g10, c_g11, c_g12, c_gl, c_o0, c_o1, c_o2, c_o3, c_ol, c_s0, c_s1, c_s2, c_s3, c_sl, Nat.zero_le, Nat.not_lt_zero, if_true, if_false, m1_lt, m1_ge, mm_inT, pk_mul, nI_add, mm_in_nI, mm_cl_nI, nI_eq, nI_ltI, nI_leI, ↓reduceIte, Nat.add_zero, Nat.reduceLeDiff, oI_some, oI_none, m1_lt, nI_lt0, Rf_fail_eq, Rf_out_eq, eq_self, not_true_eq_false, not_false_eq_true, Nat.reduceEqDiff, Nat.reduceLT, ne_eq, or_true, true_or, or_false, false_or, decide_true, decide_false, Bool.true_eq_false, Bool.false_eq_true, b2i_ne, mm_K_inr, mm_G_ok, c_skip, rf_n, rf_s, Lc_needTold_1, Lc_needTold_0, Lc_needTold_eq, Lc_needRoom_1, Lc_needRoom_0, Lc_needRoom_eq, Lc_needPlace_1, Lc_needPlace_0, Lc_needPlace_eq, Lc_needThere_1, Lc_needThere_0, Lc_needThere_eq, Lc_needSupported_1, Lc_needSupported_0, Lc_needSupported_eq, qb, Bool.not_true, Bool.not_false, k9, k9', k11, k11', c_obj_at hL, q1, q2, q3, q4, hna, hnb, hm, hm2, qroom, qn, mm_push_ne]
                  rw [Nat.add_comm 1]
                  refine (keep3 hW hL hlt hn40 hkk ht hal hbl).trans ?_
                  simp (disch := omega) only [w_42_0, w_42_1, w_42_4, w_42_7, w_42_9, w_42_10, w_42_13, w_42_14, w_42_16, w_42_19, w_42_20, w_42_23, w_42_24, w_42_27, w_42_28, w_42_29, w_42_32, w_42_34, w_42_35, w_42_37, w_42_40, w_42_42, w_42_44, w_42_47, w_42_49, w_42_52, w_42_53, w_42_55, w_42_58, w_42_60, w_42_63, w_42_64, w_42_66, w_42_69, w_42_71, w_42_74, w_42_77, w_42_78, w_42_79, w_42_82, w_42_83, w_42_84, w_42_87, w_42_88, w_42_89, w_42_91, w_42_93, w_42_96, w_42_99, mm_k_none, mm_k_int, mm_k_ref, mm_k_null, mm_K_inl, mm_tl_some, mm_tl_none, mm_fg_ok, mm_rc_ok, mm_fp_ok, mm_ai_ok, mm_si_ok, mm_az_ok, mm_sz_ok, z01, z11, zb, b2i_t, b2i_f, true_and, and_true, c_g0, c_g1, c_g2, c_g3, c_g4, c_g5, c_g6, c_g7, c_g8, c_g9, c_g10, c_g11, c_g12, c_gl, c_o0, c_o1, c_o2, c_o3, c_ol, c_s0, c_s1, c_s2, c_s3, c_sl, Nat.zero_le, Nat.not_lt_zero, if_true, if_false, m1_lt, m1_ge, mm_inT, pk_mul, nI_add, mm_in_nI, mm_cl_nI, nI_eq, nI_ltI, nI_leI, ↓reduceIte, Nat.add_zero, Nat.reduceLeDiff, oI_some, oI_none, m1_lt, nI_lt0, Rf_fail_eq, Rf_out_eq, eq_self, not_true_eq_false, not_false_eq_true, Nat.reduceEqDiff, Nat.reduceLT, ne_eq, or_true, true_or, or_false, false_or, decide_true, decide_false, Bool.true_eq_false, Bool.false_eq_true, b2i_ne]
      · have k11' : 11 < k := by omega
        refine opC.no (β' := β) 1 (by decide) (no1 (Or.inr (Or.inr (Or.inl (fun z => k11 ((nI_leI hk (by decide)).1 z)))))) hS fun Q => ?_
        simp (disch := omega) only [e_42, w_42_0, w_42_1, w_42_4, w_42_7, w_42_9, w_42_10, w_42_13, w_42_14, w_42_16, w_42_19, w_42_20, w_42_23, w_42_24, w_42_27, w_42_28, w_42_29, w_42_32, w_42_34, w_42_35, w_42_37, w_42_40, w_42_42, w_42_44, w_42_47, w_42_49, w_42_52, w_42_53, w_42_55, w_42_58, w_42_60, w_42_63, w_42_64, w_42_66, w_42_69, w_42_71, w_42_74, w_42_77, w_42_78, w_42_79, w_42_82, w_42_83, w_42_84, w_42_87, w_42_88, w_42_89, w_42_91, w_42_93, w_42_96, w_42_99, mm_k_none, mm_k_int, mm_k_ref, mm_k_null, mm_K_inl, mm_tl_some, mm_tl_none, mm_fg_ok, mm_rc_ok, mm_fp_ok, mm_ai_ok, mm_si_ok, mm_az_ok, mm_sz_ok, z01, z11, zb, b2i_t, b2i_f, true_and, and_true, c_g0, c_g1, c_g2, c_g3, c_g4, c_g5, c_g6, c_g7, c_g8, c_g9, c_g10, c_g11, c_g12, c_gl, c_o0, c_o1, c_o2, c_o3, c_ol, c_s0, c_s1, c_s2, c_s3, c_sl, Nat.zero_le, Nat.not_lt_zero, if_true, if_false, m1_lt, m1_ge, mm_inT, pk_mul, nI_add, mm_in_nI, mm_cl_nI, nI_eq, nI_ltI, nI_leI, ↓reduceIte, Nat.add_zero, Nat.reduceLeDiff, oI_some, oI_none, m1_lt, nI_lt0, Rf_fail_eq, Rf_out_eq, eq_self, not_true_eq_false, not_false_eq_true, Nat.reduceEqDiff, Nat.reduceLT, ne_eq, or_true, true_or, or_false, false_or, decide_true, decide_false, Bool.true_eq_false, Bool.false_eq_true, b2i_ne, mm_K_inr, mm_G_ok, c_skip, rf_n, rf_s, Lc_needTold_1, Lc_needTold_0, Lc_needTold_eq, Lc_needRoom_1, Lc_needRoom_0, Lc_needRoom_eq, Lc_needPlace_1, Lc_needPlace_0, Lc_needPlace_eq, Lc_needThere_1, Lc_needThere_0, Lc_needThere_eq, Lc_needSupported_1, Lc_needSupported_0, Lc_needSupported_eq, qb, Bool.not_true, Bool.not_false, k9, k9', k11, k11']
        rfl
end CL33
