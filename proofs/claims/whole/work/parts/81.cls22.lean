/-! the class: insert, put -/
section CL23
variable {X : Nat × Nat × (Nat → Int32)} {d T n c m l : Nat} {Λ : Lay} {σ : Sg} {β : CS} {M : mm_M} {Q : mm_Out → mm_M → Prop}
theorem opC_insert (hW : WF T σ) (hT : T + 1 < 1000000) (hL : LK Λ σ) (hS : StRel σ β) {h i v : Int32} : opC X (d + 16) Λ σ β M 53 [.int h, .int i, .int v] (sp_insert σ h i v) exI := by
  cases hn : ndo σ h with
  | none =>
    refine opC.no (β' := β) 1 (by decide) (by simp only [sp_insert, hn]) hS fun Q => ?_
    have q1 := fun Q => Lc_nodeIn_no (X := X) (d := d + 8) (β := β) (M := M) (Q := Q) hL hn
    simp (disch := omega) only [e_53, w_53_0, w_53_1, w_53_2, w_53_5, w_53_7, w_53_9, w_53_12, w_53_15, w_53_17, w_53_20, w_53_21, w_53_22, w_53_25, w_53_26, w_53_28, w_53_31, w_53_34, w_53_35, w_53_38, w_53_39, w_53_42, w_53_44, w_53_47, w_53_49, w_53_50, w_53_51, w_53_54, w_53_56, w_53_59, mm_k_none, mm_k_int, mm_k_ref, mm_k_null, mm_K_inl, mm_tl_some, mm_tl_none, mm_fg_ok, mm_rc_ok, mm_fp_ok, mm_ai_ok, mm_si_ok, mm_az_ok, mm_sz_ok, z01, z11, zb, b2i_t, b2i_f, true_and, and_true, c_g0, c_g1, c_g2, c_g3, c_g4, c_g5, c_g6, c_g7, c_g8, c_g9, c_g10, c_g11, c_g12, c_gl, c_o0, c_o1, c_o2, c_o3, c_ol, c_s0, c_s1, c_s2, c_s3, c_sl, Nat.zero_le, Nat.not_lt_zero, if_true, if_false, m1_lt, m1_ge, mm_inT, pk_mul, nI_add, mm_in_nI, mm_cl_nI, nI_eq, nI_ltI, nI_leI, ↓reduceIte, Nat.add_zero, Nat.reduceLeDiff, oI_some, oI_none, m1_lt, nI_lt0, Rf_fail_eq, Rf_out_eq, eq_self, not_true_eq_false, not_false_eq_true, Nat.reduceEqDiff, Nat.reduceLT, ne_eq, or_true, true_or, or_false, false_or, decide_true, decide_false, Bool.true_eq_false, Bool.false_eq_true, b2i_ne, mm_K_inr, mm_G_ok, c_skip, rf_n, rf_s, c_obj_at hL, q1]
    rfl
  | some n =>
    have hlt := ndo_lt hW hn
    have h72 := El_72 hW hlt
    have q1 := fun Q => Lc_nodeIn_ok (X := X) (d := d + 8) (β := β) (M := M) (Q := Q) hL hn
    have qw := fun d Q => Lc_canBeWritten_eq (X := X) (d := d) (β := β) (M := M) (Q := Q) hW hL hlt
    cases hsup : sup σ 0 n with
    | false =>
      rw [hsup] at qw
      refine opC.no (β' := β) 2 (by decide) (by simp only [sp_insert, hn, hsup, if_true]) hS fun Q => ?_
      simp (disch := omega) only [e_53, w_53_0, w_53_1, w_53_2, w_53_5, w_53_7, w_53_9, w_53_12, w_53_15, w_53_17, w_53_20, w_53_21, w_53_22, w_53_25, w_53_26, w_53_28, w_53_31, w_53_34, w_53_35, w_53_38, w_53_39, w_53_42, w_53_44, w_53_47, w_53_49, w_53_50, w_53_51, w_53_54, w_53_56, w_53_59, mm_k_none, mm_k_int, mm_k_ref, mm_k_null, mm_K_inl, mm_tl_some, mm_tl_none, mm_fg_ok, mm_rc_ok, mm_fp_ok, mm_ai_ok, mm_si_ok, mm_az_ok, mm_sz_ok, z01, z11, zb, b2i_t, b2i_f, true_and, and_true, c_g0, c_g1, c_g2, c_g3, c_g4, c_g5, c_g6, c_g7, c_g8, c_g9, c_g10, c_g11, c_g12, c_gl, c_o0, c_o1, c_o2, c_o3, c_ol, c_s0, c_s1, c_s2, c_s3, c_sl, Nat.zero_le, Nat.not_lt_zero, if_true, if_false, m1_lt, m1_ge, mm_inT, pk_mul, nI_add, mm_in_nI, mm_cl_nI, nI_eq, nI_ltI, nI_leI, ↓reduceIte, Nat.add_zero, Nat.reduceLeDiff, oI_some, oI_none, m1_lt, nI_lt0, Rf_fail_eq, Rf_out_eq, eq_self, not_true_eq_false, not_false_eq_true, Nat.reduceEqDiff, Nat.reduceLT, ne_eq, or_true, true_or, or_false, false_or, decide_true, decide_false, Bool.true_eq_false, Bool.false_eq_true, b2i_ne, mm_K_inr, mm_G_ok, c_skip, rf_n, rf_s, Lc_needTold_1, Lc_needTold_0, Lc_needTold_eq, Lc_needRoom_1, Lc_needRoom_0, Lc_needRoom_eq, Lc_needPlace_1, Lc_needPlace_0, Lc_needPlace_eq, Lc_needThere_1, Lc_needThere_0, Lc_needThere_eq, Lc_needSupported_1, Lc_needSupported_0, Lc_needSupported_eq, c_obj_at hL, q1, qw]
      rfl
    | true =>
      rw [hsup] at qw
      have hr := sup_row hW hlt (by decide) hsup
      cases hs : stale σ n with
      | true =>
        refine opC.no (β' := β) 3 (by decide) (by simp only [sp_insert, hn, hsup, hs, Bool.true_eq_false, if_false, if_true]) hS fun Q => ?_
        have q2 := fun Q => Lc_needFresh_no (X := X) (d := d + 7) (β := β) (M := M) (Q := Q) hW hL hS hlt hs
        simp (disch := omega) only [e_53, w_53_0, w_53_1, w_53_2, w_53_5, w_53_7, w_53_9, w_53_12, w_53_15, w_53_17, w_53_20, w_53_21, w_53_22, w_53_25, w_53_26, w_53_28, w_53_31, w_53_34, w_53_35, w_53_38, w_53_39, w_53_42, w_53_44, w_53_47, w_53_49, w_53_50, w_53_51, w_53_54, w_53_56, w_53_59, mm_k_none, mm_k_int, mm_k_ref, mm_k_null, mm_K_inl, mm_tl_some, mm_tl_none, mm_fg_ok, mm_rc_ok, mm_fp_ok, mm_ai_ok, mm_si_ok, mm_az_ok, mm_sz_ok, z01, z11, zb, b2i_t, b2i_f, true_and, and_true, c_g0, c_g1, c_g2, c_g3, c_g4, c_g5, c_g6, c_g7, c_g8, c_g9, c_g10, c_g11, c_g12, c_gl, c_o0, c_o1, c_o2, c_o3, c_ol, c_s0, c_s1, c_s2, c_s3, c_sl, Nat.zero_le, Nat.not_lt_zero, if_true, if_false, m1_lt, m1_ge, mm_inT, pk_mul, nI_add, mm_in_nI, mm_cl_nI, nI_eq, nI_ltI, nI_leI, ↓reduceIte, Nat.add_zero, Nat.reduceLeDiff, oI_some, oI_none, m1_lt, nI_lt0, Rf_fail_eq, Rf_out_eq, eq_self, not_true_eq_false, not_false_eq_true, Nat.reduceEqDiff, Nat.reduceLT, ne_eq, or_true, true_or, or_false, false_or, decide_true, decide_false, Bool.true_eq_false, Bool.false_eq_true, b2i_ne, mm_K_inr, mm_G_ok, c_skip, rf_n, rf_s, Lc_needTold_1, Lc_needTold_0, Lc_needTold_eq, Lc_needRoom_1, Lc_needRoom_0, Lc_needRoom_eq, Lc_needPlace_1, Lc_needPlace_0, Lc_needPlace_eq, Lc_needThere_1, Lc_needThere_0, Lc_needThere_eq, Lc_needSupported_1, Lc_needSupported_0, Lc_needSupported_eq, c_obj_at hL, q1, qw, q2]
        rfl
      | false =>
        have q2 := fun Q => Lc_needFresh_ok (X := X) (d := d + 7) (β := β) (M := M) (Q := Q) hW hL hS hlt hs
        have qr := fun d Q => Lc_rowLength_eq (X := X) (d := d) (M := M) (Q := Q) hW hL hS hlt hr hs
        by_cases hi : i < nI 0 ∨ ¬ i ≤ nI (El σ n).length
        · refine opC.no (β' := β) 4 (by decide) (by simp only [sp_insert, hn, hsup, hs, Bool.true_eq_false, Bool.false_eq_true, if_false, if_pos hi]) hS fun Q => ?_
          by_cases c1 : i < nI 0
          · have g : ¬ nI 0 ≤ i := Int32.not_le.2 c1
            simp (disch := omega) only [e_53, w_53_0, w_53_1, w_53_2, w_53_5, w_53_7, w_53_9, w_53_12, w_53_15, w_53_17, w_53_20, w_53_21, w_53_22, w_53_25, w_53_26, w_53_28, w_53_31, w_53_34, w_53_35, w_53_38, w_53_39, w_53_42, w_53_44, w_53_47, w_53_49, w_53_50, w_53_51, w_53_54, w_53_56, w_53_59, mm_k_none, mm_k_int, mm_k_ref, mm_k_null, mm_K_inl, mm_tl_some, mm_tl_none, mm_fg_ok, mm_rc_ok, mm_fp_ok, mm_ai_ok, mm_si_ok, mm_az_ok, mm_sz_ok, z01, z11, zb, b2i_t, b2i_f, true_and, and_true, c_g0, c_g1, c_g2, c_g3, c_g4, c_g5, c_g6, c_g7, c_g8, c_g9, c_g10, c_g11, c_g12, c_gl, c_o0, c_o1, c_o2, c_o3, c_ol, c_s0, c_s1, c_s2, c_s3, c_sl, Nat.zero_le, Nat.not_lt_zero, if_true, if_false, m1_lt, m1_ge, mm_inT, pk_mul, nI_add, mm_in_nI, mm_cl_nI, nI_eq, nI_ltI, nI_leI, ↓reduceIte, Nat.add_zero, Nat.reduceLeDiff, oI_some, oI_none, m1_lt, nI_lt0, Rf_fail_eq, Rf_out_eq, eq_self, not_true_eq_false, not_false_eq_true, Nat.reduceEqDiff, Nat.reduceLT, ne_eq, or_true, true_or, or_false, false_or, decide_true, decide_false, Bool.true_eq_false, Bool.false_eq_true, b2i_ne, mm_K_inr, mm_G_ok, c_skip, rf_n, rf_s, Lc_needTold_1, Lc_needTold_0, Lc_needTold_eq, Lc_needRoom_1, Lc_needRoom_0, Lc_needRoom_eq, Lc_needPlace_1, Lc_needPlace_0, Lc_needPlace_eq, Lc_needThere_1, Lc_needThere_0, Lc_needThere_eq, Lc_needSupported_1, Lc_needSupported_0, Lc_needSupported_eq, c_obj_at hL, q1, qw, q2, qr, c1, g]
            rfl
          · obtain ⟨j, hj, rfl⟩ := nI_of' c1
            have hjl : ¬ j ≤ (El σ n).length := by
              intro z
              rcases hi with y | y
              · exact c1 y
              · exact y (nI_le (by omega) (by omega))
            have hjl2 : (El σ n).length < j := by omega
            simp (disch := omega) only [e_53, w_53_0, w_53_1, w_53_2, w_53_5, w_53_7, w_53_9, w_53_12, w_53_15, w_53_17, w_53_20, w_53_21, w_53_22, w_53_25, w_53_26, w_53_28, w_53_31, w_53_34, w_53_35, w_53_38, w_53_39, w_53_42, w_53_44, w_53_47, w_53_49, w_53_50, w_53_51, w_53_54, w_53_56, w_53_59, mm_k_none, mm_k_int, mm_k_ref, mm_k_null, mm_K_inl, mm_tl_some, mm_tl_none, mm_fg_ok, mm_rc_ok, mm_fp_ok, mm_ai_ok, mm_si_ok, mm_az_ok, mm_sz_ok, z01, z11, zb, b2i_t, b2i_f, true_and, and_true, c_g0, c_g1, c_g2, c_g3, c_g4, c_g5, c_g6, c_g7, c_g8, c_g9, c_g10, c_g11, c_g12, c_gl, c_o0, c_o1, c_o2, c_o3, c_ol, c_s0, c_s1, c_s2, c_s3, c_sl, Nat.zero_le, Nat.not_lt_zero, if_true, if_false, m1_lt, m1_ge, mm_inT, pk_mul, nI_add, mm_in_nI, mm_cl_nI, nI_eq, nI_ltI, nI_leI, ↓reduceIte, Nat.add_zero, Nat.reduceLeDiff, oI_some, oI_none, m1_lt, nI_lt0, Rf_fail_eq, Rf_out_eq, eq_self, not_true_eq_false, not_false_eq_true, Nat.reduceEqDiff, Nat.reduceLT, ne_eq, or_true, true_or, or_false, false_or, decide_true, decide_false, Bool.true_eq_false, Bool.false_eq_true, b2i_ne, mm_K_inr, mm_G_ok, c_skip, rf_n, rf_s, Lc_needTold_1, Lc_needTold_0, Lc_needTold_eq, Lc_needRoom_1, Lc_needRoom_0, Lc_needRoom_eq, Lc_needPlace_1, Lc_needPlace_0, Lc_needPlace_eq, Lc_needThere_1, Lc_needThere_0, Lc_needThere_eq, Lc_needSupported_1, Lc_needSupported_0, Lc_needSupported_eq, c_obj_at hL, q1, qw, q2, qr, hjl, hjl2]
            rfl
        · obtain ⟨j, hj, rfl⟩ := nI_of' (fun z => hi (Or.inl z))
          have hjl : j ≤ (El σ n).length := by
            refine (nI_leI hj (by omega)).1 ?_
            apply Classical.byContradiction
            exact fun z => hi (Or.inr z)
          have hjl2 : ¬ (El σ n).length < j := by omega
          obtain ⟨l, hlo⟩ := sup_lo hW (by decide) n hlt hsup
          have q3 := fun Q => Lc_room_eq (X := X) (d := d + 8) (M := M) (Q := Q) hW hL hS hlt hr hlo
          cases hf : fulB σ l with
          | true =>
            rw [hf] at q3
            refine opC.no (β' := β) 3 (by decide) (by simp only [sp_insert, sp_putIn, hn, hlo, hf, hsup, hs, Bool.true_eq_false, Bool.false_eq_true, if_false, if_true, if_neg hi]) hS fun Q => ?_
            simp (disch := omega) only [e_53, w_53_0, w_53_1, w_53_2, w_53_5, w_53_7, w_53_9, w_53_12, w_53_15, w_53_17, w_53_20, w_53_21, w_53_22, w_53_25, w_53_26, w_53_28, w_53_31, w_53_34, w_53_35, w_53_38, w_53_39, w_53_42, w_53_44, w_53_47, w_53_49, w_53_50, w_53_51, w_53_54, w_53_56, w_53_59, mm_k_none, mm_k_int, mm_k_ref, mm_k_null, mm_K_inl, mm_tl_some, mm_tl_none, mm_fg_ok, mm_rc_ok, mm_fp_ok, mm_ai_ok, mm_si_ok, mm_az_ok, mm_sz_ok, z01, z11, zb, b2i_t, b2i_f, true_and, and_true, c_g0, c_g1, c_g2, c_g3, c_g4, c_g5, c_g6, c_g7, c_g8, c_g9, c_g10, c_g11, c_g12, c_gl, c_o0, c_o1, c_o2, c_o3, c_ol, c_s0, c_s1, c_s2, c_s3, c_sl, Nat.zero_le, Nat.not_lt_zero, if_true, if_false, m1_lt, m1_ge, mm_inT, pk_mul, nI_add, mm_in_nI, mm_cl_nI, nI_eq, nI_ltI, nI_leI, ↓reduceIte, Nat.add_zero, Nat.reduceLeDiff, oI_some, oI_none, m1_lt, nI_lt0, Rf_fail_eq, Rf_out_eq, eq_self, not_true_eq_false, not_false_eq_true, Nat.reduceEqDiff, Nat.reduceLT, ne_eq, or_true, true_or, or_false, false_or, decide_true, decide_false, Bool.true_eq_false, Bool.false_eq_true, b2i_ne, mm_K_inr, mm_G_ok, c_skip, rf_n, rf_s, Lc_needTold_1, Lc_needTold_0, Lc_needTold_eq, Lc_needRoom_1, Lc_needRoom_0, Lc_needRoom_eq, Lc_needPlace_1, Lc_needPlace_0, Lc_needPlace_eq, Lc_needThere_1, Lc_needThere_0, Lc_needThere_eq, Lc_needSupported_1, Lc_needSupported_0, Lc_needSupported_eq, c_obj_at hL, q1, qw, q2, qr, hjl, hjl2, q3]
            rfl
          | false =>
            rw [hf] at q3
            obtain ⟨β', s1, q4⟩ := Lc_putIn_d (X := X) (d := d + 8) (M := M) (v := v) hW hL hS hlt hsup hlo hs hf hjl
            have hW' := WF_putIn hW hT hlt hs hsup (v := v) hjl
            have esp : sp_putIn σ n j v = (0, nI ((El σ n).length + 1), chN σ l (insAt (sS σ l) (dn σ true n j) v) n true) := by
              simp only [sp_putIn, hlo, hf, Bool.false_eq_true, if_false]
              rfl
            rw [esp] at hW'
            have qn := chN_rd (X := X) hW hL hlt hr hW' s1
            have hlen := putIn_len hW hlt hlo hs (v := v) hjl
            generalize hσ' : chN σ l (insAt (sS σ l) (dn σ true n j) v) n true = σ' at s1 q4 esp hW' qn hlen
            rw [hlen] at qn
            have e1 : sN σ' = sN σ := by rw [← hσ']; rfl
            have e2 : sK σ' = sK σ := by rw [← hσ']; rfl
            refine opC.chg (β' := β') (b := nI ((El σ n).length + 1)) (σ' := σ') ?_ (LK_same hL e1 e2) s1 fun Q => ?_
            · simp only [sp_insert, hn, hsup, hs, Bool.true_eq_false, Bool.false_eq_true, if_false, if_neg hi]
              rw [nI_clamp hj]
              exact esp
            · simp (disch := omega) only [e_53, w_53_0, w_53_1, w_53_2, w_53_5, w_53_7, w_53_9, w_53_12, w_53_15, w_53_17, w_53_20, w_53_21, w_53_22, w_53_25, w_53_26, w_53_28, w_53_31, w_53_34, w_53_35, w_53_38, w_53_39, w_53_42, w_53_44, w_53_47, w_53_49, w_53_50, w_53_51, w_53_54, w_53_56, w_53_59, mm_k_none, mm_k_int, mm_k_ref, mm_k_null, mm_K_inl, mm_tl_some, mm_tl_none, mm_fg_ok, mm_rc_ok, mm_fp_ok, mm_ai_ok, mm_si_ok, mm_az_ok, mm_sz_ok, z01, z11, zb, b2i_t, b2i_f, true_and, and_true, c_g0, c_g1, c_g2, c_g3, c_g4, c_g5, c_g6, c_g7, c_g8, c_g9, c_g10, c_g11, c_g12, c_gl, c_o0, c_o1, c_o2, c_o3, c_ol, c_s0, c_s1, c_s2, c_s3, c_sl, Nat.zero_le, Nat.not_lt_zero, if_true, if_false, m1_lt, m1_ge, mm_inT, pk_mul, nI_add, mm_in_nI, mm_cl_nI, nI_eq, nI_ltI, nI_leI, ↓reduceIte, Nat.add_zero, Nat.reduceLeDiff, oI_some, oI_none, m1_lt, nI_lt0, Rf_fail_eq, Rf_out_eq, eq_self, not_true_eq_false, not_false_eq_true, Nat.reduceEqDiff, Nat.reduceLT, ne_eq, or_true, true_or, or_false, false_or, decide_true, decide_false, Bool.true_eq_false, Bool.false_eq_true, b2i_ne, mm_K_inr, mm_G_ok, c_skip, rf_n, rf_s, Lc_needTold_1, Lc_needTold_0, Lc_needTold_eq, Lc_needRoom_1, Lc_needRoom_0, Lc_needRoom_eq, Lc_needPlace_1, Lc_needPlace_0, Lc_needPlace_eq, Lc_needThere_1, Lc_needThere_0, Lc_needThere_eq, Lc_needSupported_1, Lc_needSupported_0, Lc_needSupported_eq, c_obj_at hL, q1, qw, q2, q3, q4, qr, hjl, hjl2, qn]
theorem Lc_replace_d (hW : WF T σ) (hL : LK Λ σ) (hS : StRel σ β) {v : Int32} (hn : n < sN σ) (hsup : sup σ 2 n = true) (hlo : lo σ n = some l) (hs : stale σ n = false) {i : Nat} (hi : i < (El σ n).length) : ∃ β', StRel (setS σ l (setAt (sS σ l) (dn σ false n i) v)) β' ∧ ∀ Q, WPC X (d + 7) 55 [.ref (Λ.1 4 n), .int (nI i), .int v] (mm_C Λ σ β M) Q = Q (.inl (some (.int ((El σ n).getD i 0)))) (mm_C Λ (setS σ l (setAt (sS σ l) (dn σ false n i) v)) β' M) := by
  have hg := (hW.lg hn).2.2.2
  have h := Lc_replace_eq (X := X) (d := d + (6 - sG σ n)) (M := M) (v := v) hW hL hS (l := l) n hn hsup hlo hs i hi
  rw [show d + (6 - sG σ n) + sG σ n + 1 = d + 7 by omega] at h
  have e := (El_dn hW n hn hlo hsup hs i hi).2
  rw [List.getD_eq_getElem?_getD, e, ← List.getD_eq_getElem?_getD]
  exact h
theorem sup_02 (hW : WF T σ) : ∀ n, n < sN σ → sup σ 2 n = sup σ 0 n := by
  intro n
  induction n using Nat.strongRecOn with
  | _ n ih =>
    intro hn
    rw [sup_at hW hn, sup_at hW hn]
    cases hb : kBased (sK σ n) with
    | false => simp
    | true =>
      have ho := hW.o hn (kB_one hb)
      rw [ih _ ho (by omega)]
      simp
theorem opC_put (hW : WF T σ) (hL : LK Λ σ) (hS : StRel σ β) {h i v : Int32} : opC X (d + 16) Λ σ β M 54 [.int h, .int i, .int v] (sp_put σ h i v) exI := by
  cases hn : ndo σ h with
  | none =>
    refine opC.no (β' := β) 1 (by decide) (by simp only [sp_put, hn]) hS fun Q => ?_
    have q1 := fun Q => Lc_nodeIn_no (X := X) (d := d + 8) (β := β) (M := M) (Q := Q) hL hn
    simp (disch := omega) only [e_54, w_54_0, w_54_1, w_54_2, w_54_5, w_54_7, w_54_9, w_54_12, w_54_15, w_54_17, w_54_20, w_54_21, w_54_22, w_54_25, w_54_26, w_54_28, w_54_31, w_54_34, w_54_35, w_54_38, w_54_39, w_54_42, w_54_44, w_54_45, w_54_46, w_54_49, mm_k_none, mm_k_int, mm_k_ref, mm_k_null, mm_K_inl, mm_tl_some, mm_tl_none, mm_fg_ok, mm_rc_ok, mm_fp_ok, mm_ai_ok, mm_si_ok, mm_az_ok, mm_sz_ok, z01, z11, zb, b2i_t, b2i_f, true_and, and_true, c_g0, c_g1, c_g2, c_g3, c_g4, c_g5, c_g6, c_g7, c_g8, c_g9, c_g10, c_g11, c_g12, c_gl, c_o0, c_o1, c_o2, c_o3, c_ol, c_s0, c_s1, c_s2, c_s3, c_sl, Nat.zero_le, Nat.not_lt_zero, if_true, if_false, m1_lt, m1_ge, mm_inT, pk_mul, nI_add, mm_in_nI, mm_cl_nI, nI_eq, nI_ltI, nI_leI, ↓reduceIte, Nat.add_zero, Nat.reduceLeDiff, oI_some, oI_none, m1_lt, nI_lt0, Rf_fail_eq, Rf_out_eq, eq_self, not_true_eq_false, not_false_eq_true, Nat.reduceEqDiff, Nat.reduceLT, ne_eq, or_true, true_or, or_false, false_or, decide_true, decide_false, Bool.true_eq_false, Bool.false_eq_true, b2i_ne, mm_K_inr, mm_G_ok, c_skip, rf_n, rf_s, c_obj_at hL, q1]
    rfl
  | some n =>
    have hlt := ndo_lt hW hn
    have h72 := El_72 hW hlt
    have q1 := fun Q => Lc_nodeIn_ok (X := X) (d := d + 8) (β := β) (M := M) (Q := Q) hL hn
    have qw := fun d Q => Lc_canBeWritten_eq (X := X) (d := d) (β := β) (M := M) (Q := Q) hW hL hlt
    rw [← sup_02 hW n hlt] at qw
    cases hsup : sup σ 2 n with
    | false =>
      rw [hsup] at qw
      refine opC.no (β' := β) 2 (by decide) (by simp only [sp_put, hn, hsup, if_true]) hS fun Q => ?_
      simp (disch := omega) only [e_54, w_54_0, w_54_1, w_54_2, w_54_5, w_54_7, w_54_9, w_54_12, w_54_15, w_54_17, w_54_20, w_54_21, w_54_22, w_54_25, w_54_26, w_54_28, w_54_31, w_54_34, w_54_35, w_54_38, w_54_39, w_54_42, w_54_44, w_54_45, w_54_46, w_54_49, mm_k_none, mm_k_int, mm_k_ref, mm_k_null, mm_K_inl, mm_tl_some, mm_tl_none, mm_fg_ok, mm_rc_ok, mm_fp_ok, mm_ai_ok, mm_si_ok, mm_az_ok, mm_sz_ok, z01, z11, zb, b2i_t, b2i_f, true_and, and_true, c_g0, c_g1, c_g2, c_g3, c_g4, c_g5, c_g6, c_g7, c_g8, c_g9, c_g10, c_g11, c_g12, c_gl, c_o0, c_o1, c_o2, c_o3, c_ol, c_s0, c_s1, c_s2, c_s3, c_sl, Nat.zero_le, Nat.not_lt_zero, if_true, if_false, m1_lt, m1_ge, mm_inT, pk_mul, nI_add, mm_in_nI, mm_cl_nI, nI_eq, nI_ltI, nI_leI, ↓reduceIte, Nat.add_zero, Nat.reduceLeDiff, oI_some, oI_none, m1_lt, nI_lt0, Rf_fail_eq, Rf_out_eq, eq_self, not_true_eq_false, not_false_eq_true, Nat.reduceEqDiff, Nat.reduceLT, ne_eq, or_true, true_or, or_false, false_or, decide_true, decide_false, Bool.true_eq_false, Bool.false_eq_true, b2i_ne, mm_K_inr, mm_G_ok, c_skip, rf_n, rf_s, Lc_needTold_1, Lc_needTold_0, Lc_needTold_eq, Lc_needRoom_1, Lc_needRoom_0, Lc_needRoom_eq, Lc_needPlace_1, Lc_needPlace_0, Lc_needPlace_eq, Lc_needThere_1, Lc_needThere_0, Lc_needThere_eq, Lc_needSupported_1, Lc_needSupported_0, Lc_needSupported_eq, c_obj_at hL, q1, qw]
      rfl
    | true =>
      rw [hsup] at qw
      have hr := sup_row hW hlt (by decide) hsup
      cases hs : stale σ n with
      | true =>
        refine opC.no (β' := β) 3 (by decide) (by simp only [sp_put, hn, hsup, hs, Bool.true_eq_false, if_false, if_true]) hS fun Q => ?_
        have q2 := fun Q => Lc_needFresh_no (X := X) (d := d + 7) (β := β) (M := M) (Q := Q) hW hL hS hlt hs
        simp (disch := omega) only [e_54, w_54_0, w_54_1, w_54_2, w_54_5, w_54_7, w_54_9, w_54_12, w_54_15, w_54_17, w_54_20, w_54_21, w_54_22, w_54_25, w_54_26, w_54_28, w_54_31, w_54_34, w_54_35, w_54_38, w_54_39, w_54_42, w_54_44, w_54_45, w_54_46, w_54_49, mm_k_none, mm_k_int, mm_k_ref, mm_k_null, mm_K_inl, mm_tl_some, mm_tl_none, mm_fg_ok, mm_rc_ok, mm_fp_ok, mm_ai_ok, mm_si_ok, mm_az_ok, mm_sz_ok, z01, z11, zb, b2i_t, b2i_f, true_and, and_true, c_g0, c_g1, c_g2, c_g3, c_g4, c_g5, c_g6, c_g7, c_g8, c_g9, c_g10, c_g11, c_g12, c_gl, c_o0, c_o1, c_o2, c_o3, c_ol, c_s0, c_s1, c_s2, c_s3, c_sl, Nat.zero_le, Nat.not_lt_zero, if_true, if_false, m1_lt, m1_ge, mm_inT, pk_mul, nI_add, mm_in_nI, mm_cl_nI, nI_eq, nI_ltI, nI_leI, ↓reduceIte, Nat.add_zero, Nat.reduceLeDiff, oI_some, oI_none, m1_lt, nI_lt0, Rf_fail_eq, Rf_out_eq, eq_self, not_true_eq_false, not_false_eq_true, Nat.reduceEqDiff, Nat.reduceLT, ne_eq, or_true, true_or, or_false, false_or, decide_true, decide_false, Bool.true_eq_false, Bool.false_eq_true, b2i_ne, mm_K_inr, mm_G_ok, c_skip, rf_n, rf_s, Lc_needTold_1, Lc_needTold_0, Lc_needTold_eq, Lc_needRoom_1, Lc_needRoom_0, Lc_needRoom_eq, Lc_needPlace_1, Lc_needPlace_0, Lc_needPlace_eq, Lc_needThere_1, Lc_needThere_0, Lc_needThere_eq, Lc_needSupported_1, Lc_needSupported_0, Lc_needSupported_eq, c_obj_at hL, q1, qw, q2]
        rfl
      | false =>
        have q2 := fun Q => Lc_needFresh_ok (X := X) (d := d + 7) (β := β) (M := M) (Q := Q) hW hL hS hlt hs
        have qr := fun d Q => Lc_rowLength_eq (X := X) (d := d) (M := M) (Q := Q) hW hL hS hlt hr hs
        by_cases hi : i < nI 0 ∨ ¬ i < nI (El σ n).length
        · refine opC.no (β' := β) 4 (by decide) (by simp only [sp_put, hn, hsup, hs, Bool.true_eq_false, Bool.false_eq_true, if_false, if_pos hi]) hS fun Q => ?_
          by_cases c1 : i < nI 0
          · have g : ¬ nI 0 ≤ i := Int32.not_le.2 c1
            simp (disch := omega) only [e_54, w_54_0, w_54_1, w_54_2, w_54_5, w_54_7, w_54_9, w_54_12, w_54_15, w_54_17, w_54_20, w_54_21, w_54_22, w_54_25, w_54_26, w_54_28, w_54_31, w_54_34, w_54_35, w_54_38, w_54_39, w_54_42, w_54_44, w_54_45, w_54_46, w_54_49, mm_k_none, mm_k_int, mm_k_ref, mm_k_null, mm_K_inl, mm_tl_some, mm_tl_none, mm_fg_ok, mm_rc_ok, mm_fp_ok, mm_ai_ok, mm_si_ok, mm_az_ok, mm_sz_ok, z01, z11, zb, b2i_t, b2i_f, true_and, and_true, c_g0, c_g1, c_g2, c_g3, c_g4, c_g5, c_g6, c_g7, c_g8, c_g9, c_g10, c_g11, c_g12, c_gl, c_o0, c_o1, c_o2, c_o3, c_ol, c_s0, c_s1, c_s2, c_s3, c_sl, Nat.zero_le, Nat.not_lt_zero, if_true, if_false, m1_lt, m1_ge, mm_inT, pk_mul, nI_add, mm_in_nI, mm_cl_nI, nI_eq, nI_ltI, nI_leI, ↓reduceIte, Nat.add_zero, Nat.reduceLeDiff, oI_some, oI_none, m1_lt, nI_lt0, Rf_fail_eq, Rf_out_eq, eq_self, not_true_eq_false, not_false_eq_true, Nat.reduceEqDiff, Nat.reduceLT, ne_eq, or_true, true_or, or_false, false_or, decide_true, decide_false, Bool.true_eq_false, Bool.false_eq_true, b2i_ne, mm_K_inr, mm_G_ok, c_skip, rf_n, rf_s, Lc_needTold_1, Lc_needTold_0, Lc_needTold_eq, Lc_needRoom_1, Lc_needRoom_0, Lc_needRoom_eq, Lc_needPlace_1, Lc_needPlace_0, Lc_needPlace_eq, Lc_needThere_1, Lc_needThere_0, Lc_needThere_eq, Lc_needSupported_1, Lc_needSupported_0, Lc_needSupported_eq, c_obj_at hL, q1, qw, q2, qr, c1, g]
            rfl
          · obtain ⟨j, hj, rfl⟩ := nI_of' c1
            have hjl : ¬ j < (El σ n).length := by
              intro z
              rcases hi with y | y
              · exact c1 y
              · exact y (nI_lt (by omega) (by omega))
            have hjl2 : (El σ n).length ≤ j := by omega
            simp (disch := omega) only [e_54, w_54_0, w_54_1, w_54_2, w_54_5, w_54_7, w_54_9, w_54_12, w_54_15, w_54_17, w_54_20, w_54_21, w_54_22, w_54_25, w_54_26, w_54_28, w_54_31, w_54_34, w_54_35, w_54_38, w_54_39, w_54_42, w_54_44, w_54_45, w_54_46, w_54_49, mm_k_none, mm_k_int, mm_k_ref, mm_k_null, mm_K_inl, mm_tl_some, mm_tl_none, mm_fg_ok, mm_rc_ok, mm_fp_ok, mm_ai_ok, mm_si_ok, mm_az_ok, mm_sz_ok, z01, z11, zb, b2i_t, b2i_f, true_and, and_true, c_g0, c_g1, c_g2, c_g3, c_g4, c_g5, c_g6, c_g7, c_g8, c_g9, c_g10, c_g11, c_g12, c_gl, c_o0, c_o1, c_o2, c_o3, c_ol, c_s0, c_s1, c_s2, c_s3, c_sl, Nat.zero_le, Nat.not_lt_zero, if_true, if_false, m1_lt, m1_ge, mm_inT, pk_mul, nI_add, mm_in_nI, mm_cl_nI, nI_eq, nI_ltI, nI_leI, ↓reduceIte, Nat.add_zero, Nat.reduceLeDiff, oI_some, oI_none, m1_lt, nI_lt0, Rf_fail_eq, Rf_out_eq, eq_self, not_true_eq_false, not_false_eq_true, Nat.reduceEqDiff, Nat.reduceLT, ne_eq, or_true, true_or, or_false, false_or, decide_true, decide_false, Bool.true_eq_false, Bool.false_eq_true, b2i_ne, mm_K_inr, mm_G_ok, c_skip, rf_n, rf_s, Lc_needTold_1, Lc_needTold_0, Lc_needTold_eq, Lc_needRoom_1, Lc_needRoom_0, Lc_needRoom_eq, Lc_needPlace_1, Lc_needPlace_0, Lc_needPlace_eq, Lc_needThere_1, Lc_needThere_0, Lc_needThere_eq, Lc_needSupported_1, Lc_needSupported_0, Lc_needSupported_eq, c_obj_at hL, q1, qw, q2, qr, hjl, hjl2]
            rfl
        · obtain ⟨j, hj, rfl⟩ := nI_of' (fun z => hi (Or.inl z))
          have hjl : j < (El σ n).length := by
            refine Nat.lt_of_not_le fun z => hi (Or.inr (nI_nlt z hj))
          have hjl2 : ¬ (El σ n).length ≤ j := by omega
          obtain ⟨l, hlo⟩ := sup_lo hW (by decide) n hlt hsup
          obtain ⟨β', s1, q4⟩ := Lc_replace_d (X := X) (d := d + 8) (M := M) (v := v) hW hL hS hlt hsup hlo hs hjl
          refine opC.chg (β' := β') (b := (El σ n).getD j 0) (σ' := setS σ l (setAt (sS σ l) (dn σ false n j) v)) ?_ (LK_same hL rfl rfl) s1 fun Q => ?_
          · simp only [sp_put, hn, hsup, hs, hlo, Bool.true_eq_false, Bool.false_eq_true, if_false, if_neg hi]
            rw [nI_clamp hj]
          · simp (disch := omega) only [e_54, w_54_0, w_54_1, w_54_2, w_54_5, w_54_7, w_54_9, w_54_12, w_54_15, w_54_17, w_54_20, w_54_21, w_54_22, w_54_25, w_54_26, w_54_28, w_54_31, w_54_34, w_54_35, w_54_38, w_54_39, w_54_42, w_54_44, w_54_45, w_54_46, w_54_49, mm_k_none, mm_k_int, mm_k_ref, mm_k_null, mm_K_inl, mm_tl_some, mm_tl_none, mm_fg_ok, mm_rc_ok, mm_fp_ok, mm_ai_ok, mm_si_ok, mm_az_ok, mm_sz_ok, z01, z11, zb, b2i_t, b2i_f, true_and, and_true, c_g0, c_g1, c_g2, c_g3, c_g4, c_g5, c_g6, c_g7, c_g8, c_g9, c_g10, c_g11, c_g12, c_gl, c_o0, c_o1, c_o2, c_o3, c_ol, c_s0, c_s1, c_s2, c_s3, c_sl, Nat.zero_le, Nat.not_lt_zero, if_true, if_false, m1_lt, m1_ge, mm_inT, pk_mul, nI_add, mm_in_nI, mm_cl_nI, nI_eq, nI_ltI, nI_leI, ↓reduceIte, Nat.add_zero, Nat.reduceLeDiff, oI_some, oI_none, m1_lt, nI_lt0, Rf_fail_eq, Rf_out_eq, eq_self, not_true_eq_false, not_false_eq_true, Nat.reduceEqDiff, Nat.reduceLT, ne_eq, or_true, true_or, or_false, false_or, decide_true, decide_false, Bool.true_eq_false, Bool.false_eq_true, b2i_ne, mm_K_inr, mm_G_ok, c_skip, rf_n, rf_s, Lc_needTold_1, Lc_needTold_0, Lc_needTold_eq, Lc_needRoom_1, Lc_needRoom_0, Lc_needRoom_eq, Lc_needPlace_1, Lc_needPlace_0, Lc_needPlace_eq, Lc_needThere_1, Lc_needThere_0, Lc_needThere_eq, Lc_needSupported_1, Lc_needSupported_0, Lc_needSupported_eq, c_obj_at hL, q1, qw, q2, q4, qr, hjl, hjl2]
end CL23
