/-! the class: part, combine -/
section CL32
variable {X : Nat × Nat × (Nat → Int32)} {d T n A k : Nat} {Λ : Lay} {σ σ' : Sg} {β : CS} {M N : mm_M} {Q : mm_Out → mm_M → Prop} {F : Nat → Nat → Int32} {x' : Int32}
theorem node_part {to x lv gv s p dd : Nat} (hx : x ≠ sN σ) (hs : s < 2147483648) : c_node (layN Λ (sN σ) A 1 g1 f1) (addN σ to 4 x 0 (nI s) p dd lv gv []) (sN σ) = [.int (nI 4), .int (nI lv), .int (nI gv), .null, .int (nI 0), .ref (Λ.1 4 x), .null, .null, .null, .int (nI s), .int (nI p), .int (nI dd), .int 0] := by
  obtain ⟨-, -, e3, e4, e5, e6, e7, e8, e9, e10, -⟩ := addN_f (σ := σ) (to := to) (k := 4) (x := x) (y := 0) (v := nI s) (p := p) (dd := dd) (lv := lv) (gv := gv) (L := [])
  have el : (layN Λ (sN σ) A 1 g1 f1).1 4 x = Λ.1 4 x := lay_o (fun z => hx z.1)
  have eb : (nI s).toNatClampNeg = s := nI_clamp hs
  unfold c_node vStore vKey vBase vOther vRow vStart vLen vNoted vBy sB
  rw [e3, e4, e5, e6, e7, e8, e9, e10, ud_at, ud_at, ud_at, ud_at, ud_at, ud_at, ud_at, ud_at, el, eb]
  rfl
theorem opC_part (hW : WF T σ) (hL : LK Λ σ) (hlt : ∀ q t, Λ.2 q = some t → q < M.1) (hS : StRel σ β) {to node st en : Int32} : opC X (d + 16) Λ σ β M 37 [.int to, .int node, .int st, .int en] (sp_part σ to node st en) exA := by
  have qh := fun h Q => Lc_isHandle_eq (X := X) (d := d + 15) (M := mm_C Λ σ β M) (Q := Q) (h := h)
  have no1 : (bad to = true ∨ ndo σ node = none ∨ ∃ n, ndo σ node = some n ∧ kRow (sK σ n) = false) → sp_part σ to node st en = bade σ 1 := by
    rintro (z | z | ⟨n, z, y⟩)
    · simp only [sp_part]
      cases ndo σ node with
      | none => rfl
      | some n => simp only [z, true_or, if_true]
    · simp only [sp_part, z]
    · simp only [sp_part, z, y, or_true, if_true]
  rcases bad_cases to with h1 | ⟨h1, t, ht, rfl⟩
  · have qb := qh to
    rw [h1] at qb
    refine opC.no (β' := β) 1 (by decide) (no1 (Or.inl h1)) hS fun Q => ?_
    simp (disch := omega) only [e_37, w_37_0, w_37_1, w_37_4, w_37_7, w_37_8, w_37_9, w_37_12, w_37_14, w_37_16, w_37_19, w_37_20, w_37_21, w_37_24, w_37_25, w_37_27, w_37_30, w_37_32, w_37_34, w_37_37, w_37_40, w_37_41, w_37_44, w_37_45, w_37_48, w_37_49, w_37_51, w_37_54, w_37_56, w_37_59, w_37_60, w_37_61, w_37_64, w_37_67, w_37_68, w_37_69, w_37_71, w_37_72, w_37_75, w_37_77, w_37_79, w_37_80, w_37_83, w_37_85, w_37_87, w_37_88, w_37_89, w_37_92, w_37_94, w_37_96, w_37_99, w_37_102, w_37_103, w_37_104, w_37_106, w_37_109, mm_k_none, mm_k_int, mm_k_ref, mm_k_null, mm_K_inl, mm_tl_some, mm_tl_none, mm_fg_ok, mm_rc_ok, mm_fp_ok, mm_ai_ok, mm_si_ok, mm_az_ok, mm_sz_ok, z01, z11, zb, b2i_t, b2i_f, true_and, and_true, c_g0, c_g1, c_g2, c_g3, c_g4, c_g5, c_g6, c_g7, c_g8, c_g9, c_g10, c_g11, c_g12, c_gl, c_o0, c_o1, c_o2, c_o3, c_ol, c_s0, c_s1, c_s2, c_s3, c_sl, Nat.zero_le, Nat.not_lt_zero, if_true, if_false, m1_lt, m1_ge, mm_inT, pk_mul, nI_add, mm_in_nI, mm_cl_nI, nI_eq, nI_ltI, nI_leI, ↓reduceIte, Nat.add_zero, Nat.reduceLeDiff, oI_some, oI_none, m1_lt, nI_lt0, Rf_fail_eq, Rf_out_eq, eq_self, not_true_eq_false, not_false_eq_true, Nat.reduceEqDiff, Nat.reduceLT, ne_eq, or_true, true_or, or_false, false_or, decide_true, decide_false, Bool.true_eq_false, Bool.false_eq_true, b2i_ne, mm_K_inr, mm_G_ok, c_skip, rf_n, rf_s, Lc_needTold_1, Lc_needTold_0, Lc_needTold_eq, Lc_needRoom_1, Lc_needRoom_0, Lc_needRoom_eq, Lc_needPlace_1, Lc_needPlace_0, Lc_needPlace_eq, Lc_needThere_1, Lc_needThere_0, Lc_needThere_eq, Lc_needSupported_1, Lc_needSupported_0, Lc_needSupported_eq, qb, Bool.not_true, Bool.not_false]
    rfl
  · have ht1 : (nI t).toNatClampNeg = t := nI_clamp (by omega)
    have qb := qh (nI t)
    rw [h1] at qb
    cases hn : ndo σ node with
    | none =>
      refine opC.no (β' := β) 1 (by decide) (no1 (Or.inr (Or.inl hn))) hS fun Q => ?_
      have q1 := fun Q => Lc_rowIn_no (X := X) (d := d + 7) (β := β) (M := M) (Q := Q) hL hn
      simp (disch := omega) only [e_37, w_37_0, w_37_1, w_37_4, w_37_7, w_37_8, w_37_9, w_37_12, w_37_14, w_37_16, w_37_19, w_37_20, w_37_21, w_37_24, w_37_25, w_37_27, w_37_30, w_37_32, w_37_34, w_37_37, w_37_40, w_37_41, w_37_44, w_37_45, w_37_48, w_37_49, w_37_51, w_37_54, w_37_56, w_37_59, w_37_60, w_37_61, w_37_64, w_37_67, w_37_68, w_37_69, w_37_71, w_37_72, w_37_75, w_37_77, w_37_79, w_37_80, w_37_83, w_37_85, w_37_87, w_37_88, w_37_89, w_37_92, w_37_94, w_37_96, w_37_99, w_37_102, w_37_103, w_37_104, w_37_106, w_37_109, mm_k_none, mm_k_int, mm_k_ref, mm_k_null, mm_K_inl, mm_tl_some, mm_tl_none, mm_fg_ok, mm_rc_ok, mm_fp_ok, mm_ai_ok, mm_si_ok, mm_az_ok, mm_sz_ok, z01, z11, zb, b2i_t, b2i_f, true_and, and_true, c_g0, c_g1, c_g2, c_g3, c_g4, c_g5, c_g6, c_g7, c_g8, c_g9, c_g10, c_g11, c_g12, c_gl, c_o0, c_o1, c_o2, c_o3, c_ol, c_s0, c_s1, c_s2, c_s3, c_sl, Nat.zero_le, Nat.not_lt_zero, if_true, if_false, m1_lt, m1_ge, mm_inT, pk_mul, nI_add, mm_in_nI, mm_cl_nI, nI_eq, nI_ltI, nI_leI, ↓reduceIte, Nat.add_zero, Nat.reduceLeDiff, oI_some, oI_none, m1_lt, nI_lt0, Rf_fail_eq, Rf_out_eq, eq_self, not_true_eq_false, not_false_eq_true, Nat.reduceEqDiff, Nat.reduceLT, ne_eq, or_true, true_or, or_false, false_or, decide_true, decide_false, Bool.true_eq_false, Bool.false_eq_true, b2i_ne, mm_K_inr, mm_G_ok, c_skip, rf_n, rf_s, Lc_needTold_1, Lc_needTold_0, Lc_needTold_eq, Lc_needRoom_1, Lc_needRoom_0, Lc_needRoom_eq, Lc_needPlace_1, Lc_needPlace_0, Lc_needPlace_eq, Lc_needThere_1, Lc_needThere_0, Lc_needThere_eq, Lc_needSupported_1, Lc_needSupported_0, Lc_needSupported_eq, qb, Bool.not_true, Bool.not_false, c_obj_at hL, q1]
      rfl
    | some n =>
      have hnl := ndo_lt hW hn
      cases hr : kRow (sK σ n) with
      | false =>
        refine opC.no (β' := β) 1 (by decide) (no1 (Or.inr (Or.inr ⟨n, hn, hr⟩))) hS fun Q => ?_
        have q1 := fun Q => Lc_rowIn_ko (X := X) (d := d + 7) (β := β) (M := M) (Q := Q) hW hL hn hr
        simp (disch := omega) only [e_37, w_37_0, w_37_1, w_37_4, w_37_7, w_37_8, w_37_9, w_37_12, w_37_14, w_37_16, w_37_19, w_37_20, w_37_21, w_37_24, w_37_25, w_37_27, w_37_30, w_37_32, w_37_34, w_37_37, w_37_40, w_37_41, w_37_44, w_37_45, w_37_48, w_37_49, w_37_51, w_37_54, w_37_56, w_37_59, w_37_60, w_37_61, w_37_64, w_37_67, w_37_68, w_37_69, w_37_71, w_37_72, w_37_75, w_37_77, w_37_79, w_37_80, w_37_83, w_37_85, w_37_87, w_37_88, w_37_89, w_37_92, w_37_94, w_37_96, w_37_99, w_37_102, w_37_103, w_37_104, w_37_106, w_37_109, mm_k_none, mm_k_int, mm_k_ref, mm_k_null, mm_K_inl, mm_tl_some, mm_tl_none, mm_fg_ok, mm_rc_ok, mm_fp_ok, mm_ai_ok, mm_si_ok, mm_az_ok, mm_sz_ok, z01, z11, zb, b2i_t, b2i_f, true_and, and_true, c_g0, c_g1, c_g2, c_g3, c_g4, c_g5, c_g6, c_g7, c_g8, c_g9, c_g10, c_g11, c_g12, c_gl, c_o0, c_o1, c_o2, c_o3, c_ol, c_s0, c_s1, c_s2, c_s3, c_sl, Nat.zero_le, Nat.not_lt_zero, if_true, if_false, m1_lt, m1_ge, mm_inT, pk_mul, nI_add, mm_in_nI, mm_cl_nI, nI_eq, nI_ltI, nI_leI, ↓reduceIte, Nat.add_zero, Nat.reduceLeDiff, oI_some, oI_none, m1_lt, nI_lt0, Rf_fail_eq, Rf_out_eq, eq_self, not_true_eq_false, not_false_eq_true, Nat.reduceEqDiff, Nat.reduceLT, ne_eq, or_true, true_or, or_false, false_or, decide_true, decide_false, Bool.true_eq_false, Bool.false_eq_true, b2i_ne, mm_K_inr, mm_G_ok, c_skip, rf_n, rf_s, Lc_needTold_1, Lc_needTold_0, Lc_needTold_eq, Lc_needRoom_1, Lc_needRoom_0, Lc_needRoom_eq, Lc_needPlace_1, Lc_needPlace_0, Lc_needPlace_eq, Lc_needThere_1, Lc_needThere_0, Lc_needThere_eq, Lc_needSupported_1, Lc_needSupported_0, Lc_needSupported_eq, qb, Bool.not_true, Bool.not_false, c_obj_at hL, q1]
        rfl
      | true =>
        have q1 := fun Q => Lc_rowIn_ok (X := X) (d := d + 7) (β := β) (M := M) (Q := Q) hW hL hn hr
        have hc : ¬ (bad (nI t) = true ∨ kRow (sK σ n) = false) := by rw [h1, hr]; decide
        cases hs : stale σ n with
        | true =>
          refine opC.no (β' := β) 2 (by decide) (by simp only [sp_part, hn, if_neg hc, hs, if_true]) hS fun Q => ?_
          have q2 := fun Q => Lc_needFresh_no (X := X) (d := d + 7) (β := β) (M := M) (Q := Q) hW hL hS hnl hs
          simp (disch := omega) only [e_37, w_37_0, w_37_1, w_37_4, w_37_7, w_37_8, w_37_9, w_37_12, w_37_14, w_37_16, w_37_19, w_37_20, w_37_21, w_37_24, w_37_25, w_37_27, w_37_30, w_37_32, w_37_34, w_37_37, w_37_40, w_37_41, w_37_44, w_37_45, w_37_48, w_37_49, w_37_51, w_37_54, w_37_56, w_37_59, w_37_60, w_37_61, w_37_64, w_37_67, w_37_68, w_37_69, w_37_71, w_37_72, w_37_75, w_37_77, w_37_79, w_37_80, w_37_83, w_37_85, w_37_87, w_37_88, w_37_89, w_37_92, w_37_94, w_37_96, w_37_99, w_37_102, w_37_103, w_37_104, w_37_106, w_37_109, mm_k_none, mm_k_int, mm_k_ref, mm_k_null, mm_K_inl, mm_tl_some, mm_tl_none, mm_fg_ok, mm_rc_ok, mm_fp_ok, mm_ai_ok, mm_si_ok, mm_az_ok, mm_sz_ok, z01, z11, zb, b2i_t, b2i_f, true_and, and_true, c_g0, c_g1, c_g2, c_g3, c_g4, c_g5, c_g6, c_g7, c_g8, c_g9, c_g10, c_g11, c_g12, c_gl, c_o0, c_o1, c_o2, c_o3, c_ol, c_s0, c_s1, c_s2, c_s3, c_sl, Nat.zero_le, Nat.not_lt_zero, if_true, if_false, m1_lt, m1_ge, mm_inT, pk_mul, nI_add, mm_in_nI, mm_cl_nI, nI_eq, nI_ltI, nI_leI, ↓reduceIte, Nat.add_zero, Nat.reduceLeDiff, oI_some, oI_none, m1_lt, nI_lt0, Rf_fail_eq, Rf_out_eq, eq_self, not_true_eq_false, not_false_eq_true, Nat.reduceEqDiff, Nat.reduceLT, ne_eq, or_true, true_or, or_false, false_or, decide_true, decide_false, Bool.true_eq_false, Bool.false_eq_true, b2i_ne, mm_K_inr, mm_G_ok, c_skip, rf_n, rf_s, Lc_needTold_1, Lc_needTold_0, Lc_needTold_eq, Lc_needRoom_1, Lc_needRoom_0, Lc_needRoom_eq, Lc_needPlace_1, Lc_needPlace_0, Lc_needPlace_eq, Lc_needThere_1, Lc_needThere_0, Lc_needThere_eq, Lc_needSupported_1, Lc_needSupported_0, Lc_needSupported_eq, qb, Bool.not_true, Bool.not_false, c_obj_at hL, q1, q2]
          rfl
        | false =>
          have q2 := fun Q => Lc_needFresh_ok (X := X) (d := d + 7) (β := β) (M := M) (Q := Q) hW hL hS hnl hs
          have qr := fun d Q => Lc_rowLength_eq (X := X) (d := d) (M := M) (Q := Q) hW hL hS hnl hr hs
          have hlg := hW.lg hnl
          have h72 := El_72 hW hnl
          have hnode := c_node_at (M := M) (β := β) hL hnl
          by_cases hi : st < nI 0 ∨ en < st ∨ ¬ en ≤ nI (El σ n).length
          · refine opC.no (β' := β) 3 (by decide) (by simp only [sp_part, hn, if_neg hc, hs, Bool.false_eq_true, if_false, if_pos hi]) hS fun Q => ?_
            by_cases c1 : st < nI 0
            · have g : ¬ nI 0 ≤ st := Int32.not_le.2 c1
              simp (disch := omega) only [e_37, w_37_0, w_37_1, w_37_4, w_37_7, w_37_8, w_37_9, w_37_12, w_37_14, w_37_16, w_37_19, w_37_20, w_37_21, w_37_24, w_37_25, w_37_27, w_37_30, w_37_32, w_37_34, w_37_37, w_37_40, w_37_41, w_37_44, w_37_45, w_37_48, w_37_49, w_37_51, w_37_54, w_37_56, w_37_59, w_37_60, w_37_61, w_37_64, w_37_67, w_37_68, w_37_69, w_37_71, w_37_72, w_37_75, w_37_77, w_37_79, w_37_80, w_37_83, w_37_85, w_37_87, w_37_88, w_37_89, w_37_92, w_37_94, w_37_96, w_37_99, w_37_102, w_37_103, w_37_104, w_37_106, w_37_109, mm_k_none, mm_k_int, mm_k_ref, mm_k_null, mm_K_inl, mm_tl_some, mm_tl_none, mm_fg_ok, mm_rc_ok, mm_fp_ok, mm_ai_ok, mm_si_ok, mm_az_ok, mm_sz_ok, z01, z11, zb, b2i_t, b2i_f, true_and, and_true, c_g0, c_g1, c_g2, c_g3, c_g4, c_g5, c_g6, c_g7, c_g8, c_g9, c_g10, c_g11, c_g12, c_gl, c_o0, c_o1, c_o2, c_o3, c_ol, c_s0, c_s1, c_s2, c_s3, c_sl, Nat.zero_le, Nat.not_lt_zero, if_true, if_false, m1_lt, m1_ge, mm_inT, pk_mul, nI_add, mm_in_nI, mm_cl_nI, nI_eq, nI_ltI, nI_leI, ↓reduceIte, Nat.add_zero, Nat.reduceLeDiff, oI_some, oI_none, m1_lt, nI_lt0, Rf_fail_eq, Rf_out_eq, eq_self, not_true_eq_false, not_false_eq_true, Nat.reduceEqDiff, Nat.reduceLT, ne_eq, or_true, true_or, or_false, false_or, decide_true, decide_false, Bool.true_eq_false, Bool.false_eq_true, b2i_ne, mm_K_inr, mm_G_ok, c_skip, rf_n, rf_s, Lc_needTold_1, Lc_needTold_0, Lc_needTold_eq, Lc_needRoom_1, Lc_needRoom_0, Lc_needRoom_eq, Lc_needPlace_1, Lc_needPlace_0, Lc_needPlace_eq, Lc_needThere_1, Lc_needThere_0, Lc_needThere_eq, Lc_needSupported_1, Lc_needSupported_0, Lc_needSupported_eq, qb, Bool.not_true, Bool.not_false, c_obj_at hL, q1, q2, c1, g]
              rfl
            · obtain ⟨s, hs', rfl⟩ := nI_of' c1
              by_cases c2 : en < nI s
              · have g : ¬ nI s ≤ en := Int32.not_le.2 c2
                simp (disch := omega) only [e_37, w_37_0, w_37_1, w_37_4, w_37_7, w_37_8, w_37_9, w_37_12, w_37_14, w_37_16, w_37_19, w_37_20, w_37_21, w_37_24, w_37_25, w_37_27, w_37_30, w_37_32, w_37_34, w_37_37, w_37_40, w_37_41, w_37_44, w_37_45, w_37_48, w_37_49, w_37_51, w_37_54, w_37_56, w_37_59, w_37_60, w_37_61, w_37_64, w_37_67, w_37_68, w_37_69, w_37_71, w_37_72, w_37_75, w_37_77, w_37_79, w_37_80, w_37_83, w_37_85, w_37_87, w_37_88, w_37_89, w_37_92, w_37_94, w_37_96, w_37_99, w_37_102, w_37_103, w_37_104, w_37_106, w_37_109, mm_k_none, mm_k_int, mm_k_ref, mm_k_null, mm_K_inl, mm_tl_some, mm_tl_none, mm_fg_ok, mm_rc_ok, mm_fp_ok, mm_ai_ok, mm_si_ok, mm_az_ok, mm_sz_ok, z01, z11, zb, b2i_t, b2i_f, true_and, and_true, c_g0, c_g1, c_g2, c_g3, c_g4, c_g5, c_g6, c_g7, c_g8, c_g9, c_g10, c_g11, c_g12, c_gl, c_o0, c_o1, c_o2, c_o3, c_ol, c_s0, c_s1, c_s2, c_s3, c_sl, Nat.zero_le, Nat.not_lt_zero, if_true, if_false, m1_lt, m1_ge, mm_inT, pk_mul, nI_add, mm_in_nI, mm_cl_nI, nI_eq, nI_ltI, nI_leI, ↓reduceIte, Nat.add_zero, Nat.reduceLeDiff, oI_some, oI_none, m1_lt, nI_lt0, Rf_fail_eq, Rf_out_eq, eq_self, not_true_eq_false, not_false_eq_true, Nat.reduceEqDiff, Nat.reduceLT, ne_eq, or_true, true_or, or_false, false_or, decide_true, decide_false, Bool.true_eq_false, Bool.false_eq_true, b2i_ne, mm_K_inr, mm_G_ok, c_skip, rf_n, rf_s, Lc_needTold_1, Lc_needTold_0, Lc_needTold_eq, Lc_needRoom_1, Lc_needRoom_0, Lc_needRoom_eq, Lc_needPlace_1, Lc_needPlace_0, Lc_needPlace_eq, Lc_needThere_1, Lc_needThere_0, Lc_needThere_eq, Lc_needSupported_1, Lc_needSupported_0, Lc_needSupported_eq, qb, Bool.not_true, Bool.not_false, c_obj_at hL, q1, q2, c2, g]
                rfl
              · obtain ⟨e, he, rfl⟩ := nI_of' (fun z => c2 (Int32.lt_of_lt_of_le z (nI_le (Nat.zero_le s) hs')))
                have hse : s ≤ e := by
                  refine Nat.le_of_not_lt fun z => c2 (nI_lt z hs')
                have hse2 : ¬ e < s := by omega
                have hel : ¬ e ≤ (El σ n).length := by
                  intro z
                  rcases hi with y | y | y
                  · exact c1 y
                  · exact c2 y
                  · exact y (nI_le z (by omega))
                have hel2 : (El σ n).length < e := by omega
                simp (disch := omega) only [e_37, w_37_0, w_37_1, w_37_4, w_37_7, w_37_8, w_37_9, w_37_12, w_37_14, w_37_16, w_37_19, w_37_20, w_37_21, w_37_24, w_37_25, w_37_27, w_37_30, w_37_32, w_37_34, w_37_37, w_37_40, w_37_41, w_37_44, w_37_45, w_37_48, w_37_49, w_37_51, w_37_54, w_37_56, w_37_59, w_37_60, w_37_61, w_37_64, w_37_67, w_37_68, w_37_69, w_37_71, w_37_72, w_37_75, w_37_77, w_37_79, w_37_80, w_37_83, w_37_85, w_37_87, w_37_88, w_37_89, w_37_92, w_37_94, w_37_96, w_37_99, w_37_102, w_37_103, w_37_104, w_37_106, w_37_109, mm_k_none, mm_k_int, mm_k_ref, mm_k_null, mm_K_inl, mm_tl_some, mm_tl_none, mm_fg_ok, mm_rc_ok, mm_fp_ok, mm_ai_ok, mm_si_ok, mm_az_ok, mm_sz_ok, z01, z11, zb, b2i_t, b2i_f, true_and, and_true, c_g0, c_g1, c_g2, c_g3, c_g4, c_g5, c_g6, c_g7, c_g8, c_g9, c_g10, c_g11, c_g12, c_gl, c_o0, c_o1, c_o2, c_o3, c_ol, c_s0, c_s1, c_s2, c_s3, c_sl, Nat.zero_le, Nat.not_lt_zero, if_true, if_false, m1_lt, m1_ge, mm_inT, pk_mul, nI_add, mm_in_nI, mm_cl_nI, nI_eq, nI_ltI, nI_leI, ↓reduceIte, Nat.add_zero, Nat.reduceLeDiff, oI_some, oI_none, m1_lt, nI_lt0, Rf_fail_eq, Rf_out_eq, eq_self, not_true_eq_false, not_false_eq_true, Nat.reduceEqDiff, Nat.reduceLT, ne_eq, or_true, true_or, or_false, false_or, decide_true, decide_false, Bool.true_eq_false, Bool.false_eq_true, b2i_ne, mm_K_inr, mm_G_ok, c_skip, rf_n, rf_s, Lc_needTold_1, Lc_needTold_0, Lc_needTold_eq, Lc_needRoom_1, Lc_needRoom_0, Lc_needRoom_eq, Lc_needPlace_1, Lc_needPlace_0, Lc_needPlace_eq, Lc_needThere_1, Lc_needThere_0, Lc_needThere_eq, Lc_needSupported_1, Lc_needSupported_0, Lc_needSupported_eq, qb, Bool.not_true, Bool.not_false, c_obj_at hL, q1, q2, qr, hse, hse2, hel, hel2]
                rfl
          · obtain ⟨s, hs', rfl⟩ := nI_of' (fun z => hi (Or.inl z))
            obtain ⟨e, he, rfl⟩ := nI_of' (fun z => hi (Or.inr (Or.inl (Int32.lt_of_lt_of_le z (nI_le (Nat.zero_le s) hs')))))
            have hse : s ≤ e := by
              refine Nat.le_of_not_lt fun z => hi (Or.inr (Or.inl (nI_lt z hs')))
            have hse2 : ¬ e < s := by omega
            have hel : e ≤ (El σ n).length := by
              refine (nI_leI he (by omega)).1 ?_
              apply Classical.byContradiction
              exact fun z => hi (Or.inr (Or.inr z))
            have hel2 : ¬ (El σ n).length < e := by omega
            by_cases hroom : sN σ = 40 ∨ 3 < sL σ n ∨ 6 < sG σ n + 1
            · have qroom := fun Q => Lc_roomN_no (X := X) (d := d + 8) (β := β) (M := M) (Q := Q) hW hL (lv := sL σ n) (hv := sG σ n + 1) (by omega) (by omega) hroom
              refine opC.no (β' := β) 2 (by decide) (by simp only [sp_part, hn, if_neg hc, hs, Bool.false_eq_true, if_false, if_neg hi, crt, if_pos hroom]) hS fun Q => ?_
              simp (disch := omega) only [e_37, w_37_0, w_37_1, w_37_4, w_37_7, w_37_8, w_37_9, w_37_12, w_37_14, w_37_16, w_37_19, w_37_20, w_37_21, w_37_24, w_37_25, w_37_27, w_37_30, w_37_32, w_37_34, w_37_37, w_37_40, w_37_41, w_37_44, w_37_45, w_37_48, w_37_49, w_37_51, w_37_54, w_37_56, w_37_59, w_37_60, w_37_61, w_37_64, w_37_67, w_37_68, w_37_69, w_37_71, w_37_72, w_37_75, w_37_77, w_37_79, w_37_80, w_37_83, w_37_85, w_37_87, w_37_88, w_37_89, w_37_92, w_37_94, w_37_96, w_37_99, w_37_102, w_37_103, w_37_104, w_37_106, w_37_109, mm_k_none, mm_k_int, mm_k_ref, mm_k_null, mm_K_inl, mm_tl_some, mm_tl_none, mm_fg_ok, mm_rc_ok, mm_fp_ok, mm_ai_ok, mm_si_ok, mm_az_ok, mm_sz_ok, z01, z11, zb, b2i_t, b2i_f, true_and, and_true, c_g0, c_g1, c_g2, c_g3, c_g4, c_g5, c_g6, c_g7, c_g8, c_g9, c_g10, c_g11, c_g12, c_gl, c_o0, c_o1, c_o2, c_o3, c_ol, c_s0, c_s1, c_s2, c_s3, c_sl, Nat.zero_le, Nat.not_lt_zero, if_true, if_false, m1_lt, m1_ge, mm_inT, pk_mul, nI_add, mm_in_nI, mm_cl_nI, nI_eq, nI_ltI, nI_leI, ↓reduceIte, Nat.add_zero, Nat.reduceLeDiff, oI_some, oI_none, m1_lt, nI_lt0, Rf_fail_eq, Rf_out_eq, eq_self, not_true_eq_false, not_false_eq_true, Nat.reduceEqDiff, Nat.reduceLT, ne_eq, or_true, true_or, or_false, false_or, decide_true, decide_false, Bool.true_eq_false, Bool.false_eq_true, b2i_ne, mm_K_inr, mm_G_ok, c_skip, rf_n, rf_s, Lc_needTold_1, Lc_needTold_0, Lc_needTold_eq, Lc_needRoom_1, Lc_needRoom_0, Lc_needRoom_eq, Lc_needPlace_1, Lc_needPlace_0, Lc_needPlace_eq, Lc_needThere_1, Lc_needThere_0, Lc_needThere_eq, Lc_needSupported_1, Lc_needSupported_0, Lc_needSupported_eq, qb, Bool.not_true, Bool.not_false, c_obj_at hL, q1, q2, qr, hse, hse2, hel, hel2, hnode, qroom]
              rfl
            · have qroom := fun Q => Lc_roomN_ok (X := X) (d := d + 8) (β := β) (M := M) (Q := Q) hW hL (lv := sL σ n) (hv := sG σ n + 1) (by omega) (by omega) hroom
              have hn40 : sN σ < 40 := by have := hW.n40; omega
              have esp : sp_part σ (nI t) node (nI s) (nI e) = (0, nI (sN σ + 1), addN σ t 4 n 0 (nI s) (e - s) (ch σ n) (sL σ n) (sG σ n + 1) []) := by
                simp only [sp_part, hn, if_neg hc, hs, Bool.false_eq_true, if_false, if_neg hi, crt, if_neg hroom, ht1]
                rw [nI_clamp hs', nI_clamp he]
              have l0 := hlt _ _ (hL.2.1 0 (by decide))
              have ln := hlt _ _ (hL.2.2 n hnl).1
              have qn := fun Q => Nd_newB1 (X := X) (d := d + 14) (M := mm_C Λ σ β M) (x := nI 4) (Q := Q) (c_node_at hL hnl) (show Λ.1 4 n ≠ (mm_C Λ σ β M).1 by rw [mm_C_1]; omega) c_g1 c_g2
              have qc : ∀ d o Q, WPC X (d + 1) 25 [.ref (Λ.1 4 n)] (mm_push (mm_C Λ σ β M) 13 o) Q = Q (.inl (some (.int (nI (ch σ n))))) (mm_push (mm_C Λ σ β M) 13 o) := by
                intro d o Q
                rw [c_push hlt]
                exact Lc_changesOf_eq hW hL hS hnl hr
              refine opC.made (k := 4) (a := 1) (g := g1) (f := f1) (s := 13) (β1 := β) (F := fun _ _ => 0) (x' := 0) hL hlt (gf1 rfl rfl) esp (StRel_new hW hS (k := 4) (L := []) rfl rfl rfl rfl rfl (fun _ => rfl) (fun h => absurd h (by decide)) (fun h => absurd h (by decide)) (fun h => absurd h (by decide)) (fun h => absurd h (by decide))) (by decide) (by decide) fun Q => ?_
              simp (disch := first | omega | (simp only [mm_push_1, mm_C_1]; omega)) only [e_37, w_37_0, w_37_1, w_37_4, w_37_7, w_37_8, w_37_9, w_37_12, w_37_14, w_37_16, w_37_19, w_37_20, w_37_21, w_37_24, w_37_25, w_37_27, w_37_30, w_37_32, w_37_34, w_37_37, w_37_40, w_37_41, w_37_44, w_37_45, w_37_48, w_37_49, w_37_51, w_37_54, w_37_56, w_37_59, w_37_60, w_37_61, w_37_64, w_37_67, w_37_68, w_37_69, w_37_71, w_37_72, w_37_75, w_37_77, w_37_79, w_37_80, w_37_83, w_37_85, w_37_87, w_37_88, w_37_89, w_37_92, w_37_94, w_37_96, w_37_99, w_37_102, w_37_103, w_37_104, w_37_106, w_37_109, mm_k_none, mm_k_int, mm_k_ref, mm_k_null, mm_K_inl, mm_tl_some, mm_tl_none, mm_fg_ok, mm_rc_ok, mm_fp_ok, mm_ai_ok, mm_si_ok, mm_az_ok, mm_sz_ok, z01, z11, zb, b2i_t, b2i_f, true_and, and_true, c_g0, c_g1, c_g2, c_g3, c_g4, c_g5, c_g6, c_g7, c_g8, c_g9, c_g10, c_g11, c_g12, c_gl, c_o0, c_o1, c_o2, c_o3, c_ol, c_s0, c_s1, c_s2, c_s3, c_sl, Nat.zero_le, Nat.not_lt_zero, if_true, if_false, m1_lt, m1_ge, mm_inT, pk_mul, nI_add, mm_in_nI, mm_cl_nI, nI_eq, nI_ltI, nI_leI, ↓reduceIte, Nat.add_zero, Nat.reduceLeDiff, oI_some, oI_none, m1_lt, nI_lt0, Rf_fail_eq, Rf_out_eq, eq_self, not_true_eq_false, not_false_eq_true, Nat.reduceEqDiff, Nat.reduceLT, ne_eq, or_true, true_or, or_false, false_or, decide_true, decide_false, Bool.true_eq_false, Bool.false_eq_true, b2i_ne, mm_K_inr, mm_G_ok, c_skip, rf_n, rf_s, Lc_needTold_1, Lc_needTold_0, Lc_needTold_eq, Lc_needRoom_1, Lc_needRoom_0, Lc_needRoom_eq, Lc_needPlace_1, Lc_needPlace_0, Lc_needPlace_eq, Lc_needThere_1, Lc_needThere_0, Lc_needThere_eq, Lc_needSupported_1, Lc_needSupported_0, Lc_needSupported_eq, qb, Bool.not_true, Bool.not_false, c_obj_at hL, q1, q2, qr, hse, hse2, hel, hel2, hnode, qroom, qn, qc, nI_m, mm_push_ne, mm_push_at, mm_set_top, mm_set_at, mm_set_ne, mm_set_set, mm_set_1, mm_push_1, mm_push_ne, neg_or_nI, List.getElem?_cons_zero, List.getElem?_cons_succ, List.set_cons_zero, List.set_cons_succ, List.length_cons, List.length_nil, Nat.reduceAdd, Nat.reduceLT]
              rw [Nat.add_comm 1]
              refine (keep1 (F := fun _ _ => 0) (x' := 0) (k := 4) (L := []) hW hL hlt hn40 rfl rfl ht (node_part (by omega) hs').symm).trans ?_
              simp (disch := omega) only [w_37_0, w_37_1, w_37_4, w_37_7, w_37_8, w_37_9, w_37_12, w_37_14, w_37_16, w_37_19, w_37_20, w_37_21, w_37_24, w_37_25, w_37_27, w_37_30, w_37_32, w_37_34, w_37_37, w_37_40, w_37_41, w_37_44, w_37_45, w_37_48, w_37_49, w_37_51, w_37_54, w_37_56, w_37_59, w_37_60, w_37_61, w_37_64, w_37_67, w_37_68, w_37_69, w_37_71, w_37_72, w_37_75, w_37_77, w_37_79, w_37_80, w_37_83, w_37_85, w_37_87, w_37_88, w_37_89, w_37_92, w_37_94, w_37_96, w_37_99, w_37_102, w_37_103, w_37_104, w_37_106, w_37_109, mm_k_none, mm_k_int, mm_k_ref, mm_k_null, mm_K_inl, mm_tl_some, mm_tl_none, mm_fg_ok, mm_rc_ok, mm_fp_ok, mm_ai_ok, mm_si_ok, mm_az_ok, mm_sz_ok, z01, z11, zb, b2i_t, b2i_f, true_and, and_true, c_g0, c_g1, c_g2, c_g3, c_g4, c_g5, c_g6, c_g7, c_g8, c_g9, c_g10, c_g11, c_g12, c_gl, c_o0, c_o1, c_o2, c_o3, c_ol, c_s0, c_s1, c_s2, c_s3, c_sl, Nat.zero_le, Nat.not_lt_zero, if_true, if_false, m1_lt, m1_ge, mm_inT, pk_mul, nI_add, mm_in_nI, mm_cl_nI, nI_eq, nI_ltI, nI_leI, ↓reduceIte, Nat.add_zero, Nat.reduceLeDiff, oI_some, oI_none, m1_lt, nI_lt0, Rf_fail_eq, Rf_out_eq, eq_self, not_true_eq_false, not_false_eq_true, Nat.reduceEqDiff, Nat.reduceLT, ne_eq, or_true, true_or, or_false, false_or, decide_true, decide_false, Bool.true_eq_false, Bool.false_eq_true, b2i_ne]
theorem node_two (hk : k = 9 ∨ k = 10 ∨ k = 11) {to x y lv gv : Nat} (hx : x < sN σ) (hy : y < sN σ) : c_node (layN Λ (sN σ) A 3 g3 f3) (addN σ to k x y (nI 0) 0 0 lv gv []) (sN σ) = [.int (nI k), .int (nI lv), .int (nI gv), .null, .int (nI 0), .ref (Λ.1 4 x), .ref (Λ.1 4 y), .ref (A + 1), .ref (A + 1 + 1), .int 0, .int 0, .int 0, .int 0] := by
  obtain ⟨-, -, e3, e4, e5, e6, e7, e8, e9, e10, -⟩ := addN_f (σ := σ) (to := to) (k := k) (x := x) (y := y) (v := nI 0) (p := 0) (dd := 0) (lv := lv) (gv := gv) (L := [])
  have el : (layN Λ (sN σ) A 3 g3 f3).1 4 x = Λ.1 4 x := lay_o (by omega)
  have el2 : (layN Λ (sN σ) A 3 g3 f3).1 4 y = Λ.1 4 y := lay_o (by omega)
  have e9' : (layN Λ (sN σ) A 3 g3 f3).1 9 (sN σ) = A + 1 := lay_n (by decide)
  have e10' : (layN Λ (sN σ) A 3 g3 f3).1 10 (sN σ) = A + 1 + 1 := lay_n (by decide)
  unfold c_node vStore vKey vBase vOther vRow vStart vLen vNoted vBy sB
  rw [e3, e4, e5, e6, e7, e8, e9, e10, ud_at, ud_at, ud_at, ud_at, ud_at, ud_at, ud_at, ud_at, el, el2, e9', e10']
  rcases hk with rfl | rfl | rfl <;> rfl
theorem keep3 (hW : WF T σ) (hL : LK Λ σ) (hlt : ∀ q t, Λ.2 q = some t → q < M.1) (hn : sN σ < 40) (hk : k = 9 ∨ k = 10 ∨ k = 11) {to x y gv : Nat} (hto : to < 10) (hx : x < sN σ) (hy : y < sN σ) : WPC X d 20 [.ref (Λ.1 0 0), .int (nI to), .ref M.1] (mm_push (mm_push (mm_push (mm_C Λ σ β M) 13 (.inr (0, [.int (nI k), .int (nI (sL σ x + sL σ y)), .int (nI gv), .null, .int (nI 0), .ref (Λ.1 4 x), .ref (Λ.1 4 y), .ref (M.1 + 1), .ref (M.1 + 1 + 1), .int 0, .int 0, .int 0, .int 0]))) (sL σ x * 24) (zArr (sL σ x * 24))) (sL σ y * 24) (zArr (sL σ y * 24))) Q = Q (.inl (some (.int (nI (sN σ + 1))))) (mm_C (layN Λ (sN σ) M.1 3 g3 f3) (addN σ to k x y (nI 0) 0 0 (sL σ x + sL σ y) gv []) (newB β (sN σ) (fun _ _ => 0) 0) (M.1 + 3, M.2.1 + (13 + (sL σ x * 24 + sL σ y * 24)), M.2.2)) := by
  have h2 : kTwo k = true := by rcases hk with rfl | rfl | rfl <;> rfl
  have h3 : kS k = false := by rcases hk with rfl | rfl | rfl <;> rfl
  obtain ⟨-, -, e3, e4, e5, -, -, -, e9, -⟩ := addN_f (σ := σ) (to := to) (k := k) (x := x) (y := y) (v := nI 0) (p := 0) (dd := 0) (lv := sL σ x + sL σ y) (gv := gv) (L := [])
  have h := keep_fin (X := X) (d := d) (Q := Q) (A := M.1) (Λ := Λ) (β := β) (k := k) (a := 3) (g := g3) (f := f3) (to := to) (x := x) (y := y) (p := 0) (dd := 0) (lv := sL σ x + sL σ y) (gv := gv) (v := nI 0) (x' := 0) (L := []) (F := fun _ _ => 0) (Ls := [(13, .inr (0, [.int (nI k), .int (nI (sL σ x + sL σ y)), .int (nI gv), .null, .int (nI 0), .ref (Λ.1 4 x), .ref (Λ.1 4 y), .ref (M.1 + 1), .ref (M.1 + 1 + 1), .int 0, .int 0, .int 0, .int 0])), (sL σ x * 24, zArr (sL σ x * 24)), (sL σ y * 24, zArr (sL σ y * 24))]) hW hL hlt hn (gf3 h2 h3) hto rfl rfl (fun j hj => by
    have hj5 : j = 0 ∨ j = 1 ∨ j = 2 := by
      have : j < 3 := hj
      omega
    rcases hj5 with rfl | rfl | rfl
    · show (.inr (0, _) : mm_O) = .inr (0, c_node _ _ (sN σ))
      rw [node_two hk hx hy]
    · show zArr (sL σ x * 24) = .inl (0, c_len _ 9 (sN σ), .inl ((newB β (sN σ) (fun _ _ => 0) 0).1 9 (sN σ)))
      have : c_len (addN σ to k x y (nI 0) 0 0 (sL σ x + sL σ y) gv []) 9 (sN σ) = sL σ x * 24 := by
        show 24 * sL (addN σ to k x y (nI 0) 0 0 (sL σ x + sL σ y) gv []) (sO (addN σ to k x y (nI 0) 0 0 (sL σ x + sL σ y) gv []) (sN σ)) = _
        rw [e4, e9, ud_at, ud_ne (by omega), Nat.mul_comm]
      rw [this, newB_n (by decide)]
      rfl
    · show zArr (sL σ y * 24) = .inl (0, c_len _ 10 (sN σ), .inl ((newB β (sN σ) (fun _ _ => 0) 0).1 10 (sN σ)))
      have : c_len (addN σ to k x y (nI 0) 0 0 (sL σ x + sL σ y) gv []) 10 (sN σ) = sL σ y * 24 := by
        show 24 * sL (addN σ to k x y (nI 0) 0 0 (sL σ x + sL σ y) gv []) (sT (addN σ to k x y (nI 0) 0 0 (sL σ x + sL σ y) gv []) (sN σ)) = _
        rw [e5, e9, ud_at, ud_ne (by omega), Nat.mul_comm]
      rw [this, newB_n (by decide)]
      rfl)
  exact h
end CL32
