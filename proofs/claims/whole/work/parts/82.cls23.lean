/-! the class: take, remove -/
section CL24
variable {X : Nat × Nat × (Nat → Int32)} {d T n c m l : Nat} {Λ : Lay} {σ : Sg} {β : CS} {M : mm_M} {Q : mm_Out → mm_M → Prop}
theorem tkAt_f {i : Nat} : sN (tkAt σ n i) = sN σ ∧ sK (tkAt σ n i) = sK σ := by
  unfold tkAt
  split
  · exact ⟨rfl, rfl⟩
  · split
    · exact ⟨rfl, rfl⟩
    · split
      · exact ⟨rfl, rfl⟩
      · exact ⟨rfl, rfl⟩
theorem Lc_takeOut_d (hW : WF T σ) (hL : LK Λ σ) (hS : StRel σ β) (hn : n < sN σ) (hsup : sup σ 1 n = true) (hs : stale σ n = false) {i : Nat} (hi : i < (El σ n).length) : ∃ β', StRel (tkAt σ n i) β' ∧ β'.1 2 0 = β.1 2 0 ∧ ∀ Q, WPC X (d + 7) 58 [.ref (Λ.1 4 n), .int (nI i)] (mm_C Λ σ β M) Q = Q (.inl none) (mm_C Λ (tkAt σ n i) β' M) := by
  have hg := (hW.lg hn).2.2.2
  obtain ⟨h1, h2⟩ := sup_1 hW n hn hsup
  have hrow : ∀ l, lo σ n = some l → sK σ (lf σ n) ≠ 6 → sK σ (lf σ n) ≠ 8 → ∃ β', StRel (tkAt σ n i) β' ∧ β'.1 2 0 = β.1 2 0 ∧ ∀ Q, WPC X (d + 7) 58 [.ref (Λ.1 4 n), .int (nI i)] (mm_C Λ σ β M) Q = Q (.inl none) (mm_C Λ (tkAt σ n i) β' M) := by
    intro l hlo h6 h8
    have e : tkAt σ n i = chN σ l (delAt (sS σ l) (dn σ false n i)) n false := by
      unfold tkAt
      rw [if_neg h6, if_neg h8, hlo]
      rfl
    have h := Lc_takeOut_row (X := X) (d := d + (6 - sG σ n)) (M := M) hW hL hS (l := l) n hn hlo hs i hi
    rw [show d + (6 - sG σ n) + sG σ n + 1 = d + 7 by omega] at h
    rw [e]
    exact h
  rcases h1 with k | k | k | k
  · exact hrow (8 * lf σ n) (by unfold lo; rw [if_pos k]) (by omega) (by omega)
  · exact hrow (8 * sO σ (lf σ n) + sB σ (lf σ n)) (by unfold lo; rw [if_neg (by omega), if_pos k]) (by omega) (by omega)
  · have e := h2 (Or.inl k)
    rw [e] at k
    have h := Lc_takeOut_map (X := X) (d := d + 5) (M := M) hW hL hS hn k hi
    have et : tkAt σ n i = setL σ (8 * n + (whr σ n (sR σ n) i).1) (delAt (sS σ (8 * n + (whr σ n (sR σ n) i).1)) (whr σ n (sR σ n) i).2) 1 := by
      unfold tkAt
      rw [e, if_pos k]
    rw [et]
    exact h
  · have e := h2 (Or.inr k)
    rw [e] at k
    have h := Lc_takeOut_keys (X := X) (d := d + 4) (M := M) hW hL hS hn k hi
    have et : tkAt σ n i = setL σ (8 * sO σ n + (sR σ (sO σ n)).getD i 0) [] (sS σ (8 * sO σ n + (sR σ (sO σ n)).getD i 0)).length := by
      unfold tkAt
      rw [e, if_neg (by omega), if_pos k]
    rw [et]
    exact h
theorem opC_take (hW : WF T σ) (hL : LK Λ σ) (hS : StRel σ β) {h i : Int32} : opC X (d + 16) Λ σ β M 56 [.int h, .int i] (sp_take σ h i) exI := by
  cases hn : ndo σ h with
  | none =>
    refine opC.no (β' := β) 1 (by decide) (by simp only [sp_take, hn]) hS fun Q => ?_
    have q1 := fun Q => Lc_nodeIn_no (X := X) (d := d + 8) (β := β) (M := M) (Q := Q) hL hn
    simp (disch := omega) only [e_56, w_56_0, w_56_1, w_56_2, w_56_5, w_56_6, w_56_7, w_56_10, w_56_13, w_56_14, w_56_17, w_56_18, w_56_19, w_56_22, w_56_25, w_56_27, w_56_28, w_56_29, w_56_32, w_56_33, w_56_35, w_56_38, w_56_39, w_56_42, w_56_43, w_56_46, w_56_47, w_56_48, w_56_51, w_56_52, w_56_55, w_56_56, w_56_57, mm_k_none, mm_k_int, mm_k_ref, mm_k_null, mm_K_inl, mm_tl_some, mm_tl_none, mm_fg_ok, mm_rc_ok, mm_fp_ok, mm_ai_ok, mm_si_ok, mm_az_ok, mm_sz_ok, z01, z11, zb, b2i_t, b2i_f, true_and, and_true, c_g0, c_g1, c_g2, c_g3, c_g4, c_g5, c_g6, c_g7, c_g8, c_g9, c_g10, c_g11, c_g12, c_gl, c_o0, c_o1, c_o2, c_o3, c_ol, c_s0, c_s1, c_s2, c_s3, c_sl, Nat.zero_le, Nat.not_lt_zero, if_true, if_false, m1_lt, m1_ge, mm_inT, pk_mul, nI_add, mm_in_nI, mm_cl_nI, nI_eq, nI_ltI, nI_leI, ↓reduceIte, Nat.add_zero, Nat.reduceLeDiff, oI_some, oI_none, m1_lt, nI_lt0, Rf_fail_eq, Rf_out_eq, eq_self, not_true_eq_false, not_false_eq_true, Nat.reduceEqDiff, Nat.reduceLT, ne_eq, or_true, true_or, or_false, false_or, decide_true, decide_false, Bool.true_eq_false, Bool.false_eq_true, b2i_ne, mm_K_inr, mm_G_ok, c_skip, rf_n, rf_s, c_obj_at hL, q1]
    rfl
  | some n =>
    have hlt := ndo_lt hW hn
    have h72 := El_72 hW hlt
    have q1 := fun Q => Lc_nodeIn_ok (X := X) (d := d + 8) (β := β) (M := M) (Q := Q) hL hn
    have qw := fun d Q => Lc_canBeTakenFrom_eq (X := X) (d := d) (β := β) (M := M) (Q := Q) hW hL hlt
    cases hsup : sup σ 1 n with
    | false =>
      rw [hsup] at qw
      refine opC.no (β' := β) 2 (by decide) (by simp only [sp_take, hn, hsup, if_true]) hS fun Q => ?_
      simp (disch := omega) only [e_56, w_56_0, w_56_1, w_56_2, w_56_5, w_56_6, w_56_7, w_56_10, w_56_13, w_56_14, w_56_17, w_56_18, w_56_19, w_56_22, w_56_25, w_56_27, w_56_28, w_56_29, w_56_32, w_56_33, w_56_35, w_56_38, w_56_39, w_56_42, w_56_43, w_56_46, w_56_47, w_56_48, w_56_51, w_56_52, w_56_55, w_56_56, w_56_57, mm_k_none, mm_k_int, mm_k_ref, mm_k_null, mm_K_inl, mm_tl_some, mm_tl_none, mm_fg_ok, mm_rc_ok, mm_fp_ok, mm_ai_ok, mm_si_ok, mm_az_ok, mm_sz_ok, z01, z11, zb, b2i_t, b2i_f, true_and, and_true, c_g0, c_g1, c_g2, c_g3, c_g4, c_g5, c_g6, c_g7, c_g8, c_g9, c_g10, c_g11, c_g12, c_gl, c_o0, c_o1, c_o2, c_o3, c_ol, c_s0, c_s1, c_s2, c_s3, c_sl, Nat.zero_le, Nat.not_lt_zero, if_true, if_false, m1_lt, m1_ge, mm_inT, pk_mul, nI_add, mm_in_nI, mm_cl_nI, nI_eq, nI_ltI, nI_leI, ↓reduceIte, Nat.add_zero, Nat.reduceLeDiff, oI_some, oI_none, m1_lt, nI_lt0, Rf_fail_eq, Rf_out_eq, eq_self, not_true_eq_false, not_false_eq_true, Nat.reduceEqDiff, Nat.reduceLT, ne_eq, or_true, true_or, or_false, false_or, decide_true, decide_false, Bool.true_eq_false, Bool.false_eq_true, b2i_ne, mm_K_inr, mm_G_ok, c_skip, rf_n, rf_s, Lc_needTold_1, Lc_needTold_0, Lc_needTold_eq, Lc_needRoom_1, Lc_needRoom_0, Lc_needRoom_eq, Lc_needPlace_1, Lc_needPlace_0, Lc_needPlace_eq, Lc_needThere_1, Lc_needThere_0, Lc_needThere_eq, Lc_needSupported_1, Lc_needSupported_0, Lc_needSupported_eq, c_obj_at hL, q1, qw]
      rfl
    | true =>
      rw [hsup] at qw
      cases hs : stale σ n with
      | true =>
        refine opC.no (β' := β) 3 (by decide) (by simp only [sp_take, hn, hsup, hs, Bool.true_eq_false, if_false, if_true]) hS fun Q => ?_
        have q2 := fun Q => Lc_needFresh_no (X := X) (d := d + 7) (β := β) (M := M) (Q := Q) hW hL hS hlt hs
        simp (disch := omega) only [e_56, w_56_0, w_56_1, w_56_2, w_56_5, w_56_6, w_56_7, w_56_10, w_56_13, w_56_14, w_56_17, w_56_18, w_56_19, w_56_22, w_56_25, w_56_27, w_56_28, w_56_29, w_56_32, w_56_33, w_56_35, w_56_38, w_56_39, w_56_42, w_56_43, w_56_46, w_56_47, w_56_48, w_56_51, w_56_52, w_56_55, w_56_56, w_56_57, mm_k_none, mm_k_int, mm_k_ref, mm_k_null, mm_K_inl, mm_tl_some, mm_tl_none, mm_fg_ok, mm_rc_ok, mm_fp_ok, mm_ai_ok, mm_si_ok, mm_az_ok, mm_sz_ok, z01, z11, zb, b2i_t, b2i_f, true_and, and_true, c_g0, c_g1, c_g2, c_g3, c_g4, c_g5, c_g6, c_g7, c_g8, c_g9, c_g10, c_g11, c_g12, c_gl, c_o0, c_o1, c_o2, c_o3, c_ol, c_s0, c_s1, c_s2, c_s3, c_sl, Nat.zero_le, Nat.not_lt_zero, if_true, if_false, m1_lt, m1_ge, mm_inT, pk_mul, nI_add, mm_in_nI, mm_cl_nI, nI_eq, nI_ltI, nI_leI, ↓reduceIte, Nat.add_zero, Nat.reduceLeDiff, oI_some, oI_none, m1_lt, nI_lt0, Rf_fail_eq, Rf_out_eq, eq_self, not_true_eq_false, not_false_eq_true, Nat.reduceEqDiff, Nat.reduceLT, ne_eq, or_true, true_or, or_false, false_or, decide_true, decide_false, Bool.true_eq_false, Bool.false_eq_true, b2i_ne, mm_K_inr, mm_G_ok, c_skip, rf_n, rf_s, Lc_needTold_1, Lc_needTold_0, Lc_needTold_eq, Lc_needRoom_1, Lc_needRoom_0, Lc_needRoom_eq, Lc_needPlace_1, Lc_needPlace_0, Lc_needPlace_eq, Lc_needThere_1, Lc_needThere_0, Lc_needThere_eq, Lc_needSupported_1, Lc_needSupported_0, Lc_needSupported_eq, c_obj_at hL, q1, qw, q2]
        rfl
      | false =>
        have q2 := fun Q => Lc_needFresh_ok (X := X) (d := d + 7) (β := β) (M := M) (Q := Q) hW hL hS hlt hs
        obtain ⟨β1, o1, s1, f1, q3⟩ := Lc_fill_d (X := X) (d := d + 2) (M := M) hW hL hS hlt hs (c := 2) (Or.inl rfl)
        by_cases hi : i < nI 0 ∨ ¬ i < nI (El σ n).length
        · refine opC.no (β' := β1) 4 (by decide) (by simp only [sp_take, hn, hsup, hs, Bool.true_eq_false, Bool.false_eq_true, if_false, if_pos hi]) s1 fun Q => ?_
          by_cases c1 : i < nI 0
          · have g : ¬ nI 0 ≤ i := Int32.not_le.2 c1
            simp (disch := omega) only [e_56, w_56_0, w_56_1, w_56_2, w_56_5, w_56_6, w_56_7, w_56_10, w_56_13, w_56_14, w_56_17, w_56_18, w_56_19, w_56_22, w_56_25, w_56_27, w_56_28, w_56_29, w_56_32, w_56_33, w_56_35, w_56_38, w_56_39, w_56_42, w_56_43, w_56_46, w_56_47, w_56_48, w_56_51, w_56_52, w_56_55, w_56_56, w_56_57, mm_k_none, mm_k_int, mm_k_ref, mm_k_null, mm_K_inl, mm_tl_some, mm_tl_none, mm_fg_ok, mm_rc_ok, mm_fp_ok, mm_ai_ok, mm_si_ok, mm_az_ok, mm_sz_ok, z01, z11, zb, b2i_t, b2i_f, true_and, and_true, c_g0, c_g1, c_g2, c_g3, c_g4, c_g5, c_g6, c_g7, c_g8, c_g9, c_g10, c_g11, c_g12, c_gl, c_o0, c_o1, c_o2, c_o3, c_ol, c_s0, c_s1, c_s2, c_s3, c_sl, Nat.zero_le, Nat.not_lt_zero, if_true, if_false, m1_lt, m1_ge, mm_inT, pk_mul, nI_add, mm_in_nI, mm_cl_nI, nI_eq, nI_ltI, nI_leI, ↓reduceIte, Nat.add_zero, Nat.reduceLeDiff, oI_some, oI_none, m1_lt, nI_lt0, Rf_fail_eq, Rf_out_eq, eq_self, not_true_eq_false, not_false_eq_true, Nat.reduceEqDiff, Nat.reduceLT, ne_eq, or_true, true_or, or_false, false_or, decide_true, decide_false, Bool.true_eq_false, Bool.false_eq_true, b2i_ne, mm_K_inr, mm_G_ok, c_skip, rf_n, rf_s, Lc_needTold_1, Lc_needTold_0, Lc_needTold_eq, Lc_needRoom_1, Lc_needRoom_0, Lc_needRoom_eq, Lc_needPlace_1, Lc_needPlace_0, Lc_needPlace_eq, Lc_needThere_1, Lc_needThere_0, Lc_needThere_eq, Lc_needSupported_1, Lc_needSupported_0, Lc_needSupported_eq, c_obj_at hL, q1, qw, q2, q3, c1, g]
            rfl
          · obtain ⟨j, hj, rfl⟩ := nI_of' c1
            have hjl : ¬ j < (El σ n).length := by
              intro z
              rcases hi with y | y
              · exact c1 y
              · exact y (nI_lt (by omega) (by omega))
            have hjl2 : (El σ n).length ≤ j := by omega
            simp (disch := omega) only [e_56, w_56_0, w_56_1, w_56_2, w_56_5, w_56_6, w_56_7, w_56_10, w_56_13, w_56_14, w_56_17, w_56_18, w_56_19, w_56_22, w_56_25, w_56_27, w_56_28, w_56_29, w_56_32, w_56_33, w_56_35, w_56_38, w_56_39, w_56_42, w_56_43, w_56_46, w_56_47, w_56_48, w_56_51, w_56_52, w_56_55, w_56_56, w_56_57, mm_k_none, mm_k_int, mm_k_ref, mm_k_null, mm_K_inl, mm_tl_some, mm_tl_none, mm_fg_ok, mm_rc_ok, mm_fp_ok, mm_ai_ok, mm_si_ok, mm_az_ok, mm_sz_ok, z01, z11, zb, b2i_t, b2i_f, true_and, and_true, c_g0, c_g1, c_g2, c_g3, c_g4, c_g5, c_g6, c_g7, c_g8, c_g9, c_g10, c_g11, c_g12, c_gl, c_o0, c_o1, c_o2, c_o3, c_ol, c_s0, c_s1, c_s2, c_s3, c_sl, Nat.zero_le, Nat.not_lt_zero, if_true, if_false, m1_lt, m1_ge, mm_inT, pk_mul, nI_add, mm_in_nI, mm_cl_nI, nI_eq, nI_ltI, nI_leI, ↓reduceIte, Nat.add_zero, Nat.reduceLeDiff, oI_some, oI_none, m1_lt, nI_lt0, Rf_fail_eq, Rf_out_eq, eq_self, not_true_eq_false, not_false_eq_true, Nat.reduceEqDiff, Nat.reduceLT, ne_eq, or_true, true_or, or_false, false_or, decide_true, decide_false, Bool.true_eq_false, Bool.false_eq_true, b2i_ne, mm_K_inr, mm_G_ok, c_skip, rf_n, rf_s, Lc_needTold_1, Lc_needTold_0, Lc_needTold_eq, Lc_needRoom_1, Lc_needRoom_0, Lc_needRoom_eq, Lc_needPlace_1, Lc_needPlace_0, Lc_needPlace_eq, Lc_needThere_1, Lc_needThere_0, Lc_needThere_eq, Lc_needSupported_1, Lc_needSupported_0, Lc_needSupported_eq, c_obj_at hL, q1, qw, q2, q3, hjl, hjl2]
            rfl
        · obtain ⟨j, hj, rfl⟩ := nI_of' (fun z => hi (Or.inl z))
          have hjl : j < (El σ n).length := by
            refine Nat.lt_of_not_le fun z => hi (Or.inr (nI_nlt z hj))
          have hjl2 : ¬ (El σ n).length ≤ j := by omega
          obtain ⟨β2, s2, s3, q4⟩ := Lc_takeOut_d (X := X) (d := d + 8) (M := M) hW hL s1 hlt hsup hs hjl
          obtain ⟨t1, t2⟩ := tkAt_f (σ := σ) (n := n) (i := j)
          have hL2 : LK Λ (tkAt σ n j) := LK_same hL t1 t2
          have eb : β2.1 2 0 j = (El σ n)[j] := by rw [s3]; exact f1 j hjl
          have ea : (El σ n).getD j 0 = (El σ n)[j] := by simp [hjl]
          have esp : sp_take σ h (nI j) = (0, (El σ n)[j], tkAt σ n j) := by
            simp only [sp_take, hn, hsup, hs, Bool.true_eq_false, Bool.false_eq_true, if_false, if_neg hi]
            rw [nI_clamp hj, ea]
          generalize tkAt σ n j = σ' at s2 q4 hL2 esp
          refine opC.chg (β' := β2) (b := (El σ n)[j]) (σ' := σ') esp hL2 s2 fun Q => ?_
          simp (disch := omega) only [e_56, w_56_0, w_56_1, w_56_2, w_56_5, w_56_6, w_56_7, w_56_10, w_56_13, w_56_14, w_56_17, w_56_18, w_56_19, w_56_22, w_56_25, w_56_27, w_56_28, w_56_29, w_56_32, w_56_33, w_56_35, w_56_38, w_56_39, w_56_42, w_56_43, w_56_46, w_56_47, w_56_48, w_56_51, w_56_52, w_56_55, w_56_56, w_56_57, mm_k_none, mm_k_int, mm_k_ref, mm_k_null, mm_K_inl, mm_tl_some, mm_tl_none, mm_fg_ok, mm_rc_ok, mm_fp_ok, mm_ai_ok, mm_si_ok, mm_az_ok, mm_sz_ok, z01, z11, zb, b2i_t, b2i_f, true_and, and_true, c_g0, c_g1, c_g2, c_g3, c_g4, c_g5, c_g6, c_g7, c_g8, c_g9, c_g10, c_g11, c_g12, c_gl, c_o0, c_o1, c_o2, c_o3, c_ol, c_s0, c_s1, c_s2, c_s3, c_sl, Nat.zero_le, Nat.not_lt_zero, if_true, if_false, m1_lt, m1_ge, mm_inT, pk_mul, nI_add, mm_in_nI, mm_cl_nI, nI_eq, nI_ltI, nI_leI, ↓reduceIte, Nat.add_zero, Nat.reduceLeDiff, oI_some, oI_none, m1_lt, nI_lt0, Rf_fail_eq, Rf_out_eq, eq_self, not_true_eq_false, not_false_eq_true, Nat.reduceEqDiff, Nat.reduceLT, ne_eq, or_true, true_or, or_false, false_or, decide_true, decide_false, Bool.true_eq_false, Bool.false_eq_true, b2i_ne, mm_K_inr, mm_G_ok, c_skip, rf_n, rf_s, Lc_needTold_1, Lc_needTold_0, Lc_needTold_eq, Lc_needRoom_1, Lc_needRoom_0, Lc_needRoom_eq, Lc_needPlace_1, Lc_needPlace_0, Lc_needPlace_eq, Lc_needThere_1, Lc_needThere_0, Lc_needThere_eq, Lc_needSupported_1, Lc_needSupported_0, Lc_needSupported_eq, c_obj_at hL, q1, qw, q2, q3, q4, hjl, hjl2, c_obj_at hL2, c_row_at hL2 (Or.inl rfl), eb]
theorem opC_remove (hW : WF T σ) (hL : LK Λ σ) (hS : StRel σ β) {h v : Int32} : opC X (d + 16) Λ σ β M 59 [.int h, .int v] (sp_remove σ h v) exR := by
  cases hn : ndo σ h with
  | none =>
    refine opC.no (β' := β) 1 (by decide) (by simp only [sp_remove, hn]) hS fun Q => ?_
    have q1 := fun Q => Lc_nodeIn_no (X := X) (d := d + 8) (β := β) (M := M) (Q := Q) hL hn
    simp (disch := omega) only [e_59, w_59_0, w_59_1, w_59_2, w_59_5, w_59_6, w_59_7, w_59_10, w_59_13, w_59_14, w_59_17, w_59_18, w_59_21, w_59_22, w_59_23, w_59_26, w_59_29, w_59_30, w_59_33, w_59_35, w_59_37, w_59_40, w_59_41, w_59_44, w_59_45, w_59_48, w_59_49, w_59_51, w_59_54, w_59_56, mm_k_none, mm_k_int, mm_k_ref, mm_k_null, mm_K_inl, mm_tl_some, mm_tl_none, mm_fg_ok, mm_rc_ok, mm_fp_ok, mm_ai_ok, mm_si_ok, mm_az_ok, mm_sz_ok, z01, z11, zb, b2i_t, b2i_f, true_and, and_true, c_g0, c_g1, c_g2, c_g3, c_g4, c_g5, c_g6, c_g7, c_g8, c_g9, c_g10, c_g11, c_g12, c_gl, c_o0, c_o1, c_o2, c_o3, c_ol, c_s0, c_s1, c_s2, c_s3, c_sl, Nat.zero_le, Nat.not_lt_zero, if_true, if_false, m1_lt, m1_ge, mm_inT, pk_mul, nI_add, mm_in_nI, mm_cl_nI, nI_eq, nI_ltI, nI_leI, ↓reduceIte, Nat.add_zero, Nat.reduceLeDiff, oI_some, oI_none, m1_lt, nI_lt0, Rf_fail_eq, Rf_out_eq, eq_self, not_true_eq_false, not_false_eq_true, Nat.reduceEqDiff, Nat.reduceLT, ne_eq, or_true, true_or, or_false, false_or, decide_true, decide_false, Bool.true_eq_false, Bool.false_eq_true, b2i_ne, mm_K_inr, mm_G_ok, c_skip, rf_n, rf_s, c_obj_at hL, q1]
    rfl
  | some n =>
    have hlt := ndo_lt hW hn
    have h72 := El_72 hW hlt
    have q1 := fun Q => Lc_nodeIn_ok (X := X) (d := d + 8) (β := β) (M := M) (Q := Q) hL hn
    have qw := fun d Q => Lc_canBeTakenFrom_eq (X := X) (d := d) (β := β) (M := M) (Q := Q) hW hL hlt
    cases hsup : sup σ 1 n with
    | false =>
      rw [hsup] at qw
      refine opC.no (β' := β) 2 (by decide) (by simp only [sp_remove, hn, hsup, if_true]) hS fun Q => ?_
      simp (disch := omega) only [e_59, w_59_0, w_59_1, w_59_2, w_59_5, w_59_6, w_59_7, w_59_10, w_59_13, w_59_14, w_59_17, w_59_18, w_59_21, w_59_22, w_59_23, w_59_26, w_59_29, w_59_30, w_59_33, w_59_35, w_59_37, w_59_40, w_59_41, w_59_44, w_59_45, w_59_48, w_59_49, w_59_51, w_59_54, w_59_56, mm_k_none, mm_k_int, mm_k_ref, mm_k_null, mm_K_inl, mm_tl_some, mm_tl_none, mm_fg_ok, mm_rc_ok, mm_fp_ok, mm_ai_ok, mm_si_ok, mm_az_ok, mm_sz_ok, z01, z11, zb, b2i_t, b2i_f, true_and, and_true, c_g0, c_g1, c_g2, c_g3, c_g4, c_g5, c_g6, c_g7, c_g8, c_g9, c_g10, c_g11, c_g12, c_gl, c_o0, c_o1, c_o2, c_o3, c_ol, c_s0, c_s1, c_s2, c_s3, c_sl, Nat.zero_le, Nat.not_lt_zero, if_true, if_false, m1_lt, m1_ge, mm_inT, pk_mul, nI_add, mm_in_nI, mm_cl_nI, nI_eq, nI_ltI, nI_leI, ↓reduceIte, Nat.add_zero, Nat.reduceLeDiff, oI_some, oI_none, m1_lt, nI_lt0, Rf_fail_eq, Rf_out_eq, eq_self, not_true_eq_false, not_false_eq_true, Nat.reduceEqDiff, Nat.reduceLT, ne_eq, or_true, true_or, or_false, false_or, decide_true, decide_false, Bool.true_eq_false, Bool.false_eq_true, b2i_ne, mm_K_inr, mm_G_ok, c_skip, rf_n, rf_s, Lc_needTold_1, Lc_needTold_0, Lc_needTold_eq, Lc_needRoom_1, Lc_needRoom_0, Lc_needRoom_eq, Lc_needPlace_1, Lc_needPlace_0, Lc_needPlace_eq, Lc_needThere_1, Lc_needThere_0, Lc_needThere_eq, Lc_needSupported_1, Lc_needSupported_0, Lc_needSupported_eq, c_obj_at hL, q1, qw]
      rfl
    | true =>
      rw [hsup] at qw
      cases hs : stale σ n with
      | true =>
        refine opC.no (β' := β) 3 (by decide) (by simp only [sp_remove, hn, hsup, hs, Bool.true_eq_false, if_false, if_true]) hS fun Q => ?_
        have q2 := fun Q => Lc_needFresh_no (X := X) (d := d + 7) (β := β) (M := M) (Q := Q) hW hL hS hlt hs
        simp (disch := omega) only [e_59, w_59_0, w_59_1, w_59_2, w_59_5, w_59_6, w_59_7, w_59_10, w_59_13, w_59_14, w_59_17, w_59_18, w_59_21, w_59_22, w_59_23, w_59_26, w_59_29, w_59_30, w_59_33, w_59_35, w_59_37, w_59_40, w_59_41, w_59_44, w_59_45, w_59_48, w_59_49, w_59_51, w_59_54, w_59_56, mm_k_none, mm_k_int, mm_k_ref, mm_k_null, mm_K_inl, mm_tl_some, mm_tl_none, mm_fg_ok, mm_rc_ok, mm_fp_ok, mm_ai_ok, mm_si_ok, mm_az_ok, mm_sz_ok, z01, z11, zb, b2i_t, b2i_f, true_and, and_true, c_g0, c_g1, c_g2, c_g3, c_g4, c_g5, c_g6, c_g7, c_g8, c_g9, c_g10, c_g11, c_g12, c_gl, c_o0, c_o1, c_o2, c_o3, c_ol, c_s0, c_s1, c_s2, c_s3, c_sl, Nat.zero_le, Nat.not_lt_zero, if_true, if_false, m1_lt, m1_ge, mm_inT, pk_mul, nI_add, mm_in_nI, mm_cl_nI, nI_eq, nI_ltI, nI_leI, ↓reduceIte, Nat.add_zero, Nat.reduceLeDiff, oI_some, oI_none, m1_lt, nI_lt0, Rf_fail_eq, Rf_out_eq, eq_self, not_true_eq_false, not_false_eq_true, Nat.reduceEqDiff, Nat.reduceLT, ne_eq, or_true, true_or, or_false, false_or, decide_true, decide_false, Bool.true_eq_false, Bool.false_eq_true, b2i_ne, mm_K_inr, mm_G_ok, c_skip, rf_n, rf_s, Lc_needTold_1, Lc_needTold_0, Lc_needTold_eq, Lc_needRoom_1, Lc_needRoom_0, Lc_needRoom_eq, Lc_needPlace_1, Lc_needPlace_0, Lc_needPlace_eq, Lc_needThere_1, Lc_needThere_0, Lc_needThere_eq, Lc_needSupported_1, Lc_needSupported_0, Lc_needSupported_eq, c_obj_at hL, q1, qw, q2]
        rfl
      | false =>
        have q2 := fun Q => Lc_needFresh_ok (X := X) (d := d + 7) (β := β) (M := M) (Q := Q) hW hL hS hlt hs
        obtain ⟨β1, o1, s1, f1, q3⟩ := Lc_fill_d (X := X) (d := d + 2) (M := M) hW hL hS hlt hs (c := 2) (Or.inl rfl)
        have q4 := fun Q => Lc_placeOf_eq (X := X) (d := d + 15) (M := M) (Q := Q) hW hL (c := 2) (m := 0) (Or.inl ⟨Or.inl rfl, rfl⟩) f1 h72 (v := v)
        cases hf : fst1 v (El σ n) with
        | none =>
          refine opC.no (β' := β1) 4 (by decide) (by simp only [sp_remove, hn, hsup, hs, hf, Bool.true_eq_false, Bool.false_eq_true, if_false]) s1 fun Q => ?_
          simp (disch := omega) only [e_59, w_59_0, w_59_1, w_59_2, w_59_5, w_59_6, w_59_7, w_59_10, w_59_13, w_59_14, w_59_17, w_59_18, w_59_21, w_59_22, w_59_23, w_59_26, w_59_29, w_59_30, w_59_33, w_59_35, w_59_37, w_59_40, w_59_41, w_59_44, w_59_45, w_59_48, w_59_49, w_59_51, w_59_54, w_59_56, mm_k_none, mm_k_int, mm_k_ref, mm_k_null, mm_K_inl, mm_tl_some, mm_tl_none, mm_fg_ok, mm_rc_ok, mm_fp_ok, mm_ai_ok, mm_si_ok, mm_az_ok, mm_sz_ok, z01, z11, zb, b2i_t, b2i_f, true_and, and_true, c_g0, c_g1, c_g2, c_g3, c_g4, c_g5, c_g6, c_g7, c_g8, c_g9, c_g10, c_g11, c_g12, c_gl, c_o0, c_o1, c_o2, c_o3, c_ol, c_s0, c_s1, c_s2, c_s3, c_sl, Nat.zero_le, Nat.not_lt_zero, if_true, if_false, m1_lt, m1_ge, mm_inT, pk_mul, nI_add, mm_in_nI, mm_cl_nI, nI_eq, nI_ltI, nI_leI, ↓reduceIte, Nat.add_zero, Nat.reduceLeDiff, oI_some, oI_none, m1_lt, nI_lt0, Rf_fail_eq, Rf_out_eq, eq_self, not_true_eq_false, not_false_eq_true, Nat.reduceEqDiff, Nat.reduceLT, ne_eq, or_true, true_or, or_false, false_or, decide_true, decide_false, Bool.true_eq_false, Bool.false_eq_true, b2i_ne, mm_K_inr, mm_G_ok, c_skip, rf_n, rf_s, Lc_needTold_1, Lc_needTold_0, Lc_needTold_eq, Lc_needRoom_1, Lc_needRoom_0, Lc_needRoom_eq, Lc_needPlace_1, Lc_needPlace_0, Lc_needPlace_eq, Lc_needThere_1, Lc_needThere_0, Lc_needThere_eq, Lc_needSupported_1, Lc_needSupported_0, Lc_needSupported_eq, c_obj_at hL, q1, qw, q2, q3, q4, hf]
          rfl
        | some k =>
          have hk := fst1_lt hf
          obtain ⟨β2, s2, s3, q5⟩ := Lc_takeOut_d (X := X) (d := d + 8) (M := M) hW hL s1 hlt hsup hs hk
          obtain ⟨t1, t2⟩ := tkAt_f (σ := σ) (n := n) (i := k)
          have hL2 : LK Λ (tkAt σ n k) := LK_same hL t1 t2
          have esp : sp_remove σ h v = (0, nI k, tkAt σ n k) := by
            simp only [sp_remove, hn, hsup, hs, hf, Bool.true_eq_false, Bool.false_eq_true, if_false]
          generalize tkAt σ n k = σ' at s2 q5 hL2 esp
          refine opC.chg (β' := β2) (b := nI k) (σ' := σ') esp hL2 s2 fun Q => ?_
          simp (disch := omega) only [e_59, w_59_0, w_59_1, w_59_2, w_59_5, w_59_6, w_59_7, w_59_10, w_59_13, w_59_14, w_59_17, w_59_18, w_59_21, w_59_22, w_59_23, w_59_26, w_59_29, w_59_30, w_59_33, w_59_35, w_59_37, w_59_40, w_59_41, w_59_44, w_59_45, w_59_48, w_59_49, w_59_51, w_59_54, w_59_56, mm_k_none, mm_k_int, mm_k_ref, mm_k_null, mm_K_inl, mm_tl_some, mm_tl_none, mm_fg_ok, mm_rc_ok, mm_fp_ok, mm_ai_ok, mm_si_ok, mm_az_ok, mm_sz_ok, z01, z11, zb, b2i_t, b2i_f, true_and, and_true, c_g0, c_g1, c_g2, c_g3, c_g4, c_g5, c_g6, c_g7, c_g8, c_g9, c_g10, c_g11, c_g12, c_gl, c_o0, c_o1, c_o2, c_o3, c_ol, c_s0, c_s1, c_s2, c_s3, c_sl, Nat.zero_le, Nat.not_lt_zero, if_true, if_false, m1_lt, m1_ge, mm_inT, pk_mul, nI_add, mm_in_nI, mm_cl_nI, nI_eq, nI_ltI, nI_leI, ↓reduceIte, Nat.add_zero, Nat.reduceLeDiff, oI_some, oI_none, m1_lt, nI_lt0, Rf_fail_eq, Rf_out_eq, eq_self, not_true_eq_false, not_false_eq_true, Nat.reduceEqDiff, Nat.reduceLT, ne_eq, or_true, true_or, or_false, false_or, decide_true, decide_false, Bool.true_eq_false, Bool.false_eq_true, b2i_ne, mm_K_inr, mm_G_ok, c_skip, rf_n, rf_s, Lc_needTold_1, Lc_needTold_0, Lc_needTold_eq, Lc_needRoom_1, Lc_needRoom_0, Lc_needRoom_eq, Lc_needPlace_1, Lc_needPlace_0, Lc_needPlace_eq, Lc_needThere_1, Lc_needThere_0, Lc_needThere_eq, Lc_needSupported_1, Lc_needSupported_0, Lc_needSupported_eq, c_obj_at hL, q1, qw, q2, q3, q4, hf, q5]
end CL24
