/-! the class: reversed, shifted, part, ofMap -/
section CL30
variable {X : Nat × Nat × (Nat → Int32)} {d T n A k : Nat} {Λ : Lay} {σ σ' : Sg} {β : CS} {M N : mm_M} {Q : mm_Out → mm_M → Prop} {F : Nat → Nat → Int32} {x' : Int32}
theorem c_push (hlt : ∀ q t, Λ.2 q = some t → q < M.1) {m : Nat} {o : mm_O} : mm_push (mm_C Λ σ β M) m o = mm_C Λ σ β (mm_push M m o) := by
  unfold mm_push mm_C
  simp only
  congr 2
  funext q
  cases hA : Λ.2 q with
  | none => rfl
  | some t =>
    have := hlt q t hA
    rw [if_neg (by omega)]
theorem Lc_rowIn_no (hL : LK Λ σ) {h : Int32} (hn : ndo σ h = none) : WPC X (d + 8) 35 [.ref (Λ.1 0 0), .int h] (mm_C Λ σ β M) Q = Q (.inr 0) (mm_C Λ σ β (mm_skip M 6)) := by
  have q1 := fun Q => Lc_nodeIn_no (X := X) (d := d) (β := β) (M := M) (Q := Q) hL hn
  simp (disch := omega) only [e_35, w_35_0, w_35_1, w_35_2, w_35_5, w_35_6, w_35_7, w_35_10, w_35_13, w_35_14, mm_k_none, mm_k_int, mm_k_ref, mm_k_null, mm_K_inl, mm_tl_some, mm_tl_none, mm_fg_ok, mm_rc_ok, mm_fp_ok, mm_ai_ok, mm_si_ok, mm_az_ok, mm_sz_ok, z01, z11, zb, b2i_t, b2i_f, true_and, and_true, c_g0, c_g1, c_g2, c_g3, c_g4, c_g5, c_g6, c_g7, c_g8, c_g9, c_g10, c_g11, c_g12, c_gl, c_o0, c_o1, c_o2, c_o3, c_ol, c_s0, c_s1, c_s2, c_s3, c_sl, Nat.zero_le, Nat.not_lt_zero, if_true, if_false, m1_lt, m1_ge, mm_inT, pk_mul, nI_add, mm_in_nI, mm_cl_nI, nI_eq, nI_ltI, nI_leI, ↓reduceIte, Nat.add_zero, Nat.reduceLeDiff, oI_some, oI_none, m1_lt, nI_lt0, Rf_fail_eq, Rf_out_eq, eq_self, not_true_eq_false, not_false_eq_true, Nat.reduceEqDiff, Nat.reduceLT, ne_eq, or_true, true_or, or_false, false_or, decide_true, decide_false, Bool.true_eq_false, Bool.false_eq_true, b2i_ne, mm_K_inr, mm_G_ok, c_skip, rf_n, rf_s, c_obj_at hL, q1]
theorem Lc_rowIn_ko (hW : WF T σ) (hL : LK Λ σ) {h : Int32} (hn : ndo σ h = some n) (hr : kRow (sK σ n) = false) : WPC X (d + 8) 35 [.ref (Λ.1 0 0), .int h] (mm_C Λ σ β M) Q = Q (.inr 0) (mm_C Λ σ β (mm_skip M 6)) := by
  have hlt := ndo_lt hW hn
  have q1 := fun Q => Lc_nodeIn_ok (X := X) (d := d) (β := β) (M := M) (Q := Q) hL hn
  have q2 := fun d Q => Lc_isRow_eq (X := X) (d := d) (β := β) (M := M) (Q := Q) hW hL hlt
  rw [hr] at q2
  simp (disch := omega) only [e_35, w_35_0, w_35_1, w_35_2, w_35_5, w_35_6, w_35_7, w_35_10, w_35_13, w_35_14, mm_k_none, mm_k_int, mm_k_ref, mm_k_null, mm_K_inl, mm_tl_some, mm_tl_none, mm_fg_ok, mm_rc_ok, mm_fp_ok, mm_ai_ok, mm_si_ok, mm_az_ok, mm_sz_ok, z01, z11, zb, b2i_t, b2i_f, true_and, and_true, c_g0, c_g1, c_g2, c_g3, c_g4, c_g5, c_g6, c_g7, c_g8, c_g9, c_g10, c_g11, c_g12, c_gl, c_o0, c_o1, c_o2, c_o3, c_ol, c_s0, c_s1, c_s2, c_s3, c_sl, Nat.zero_le, Nat.not_lt_zero, if_true, if_false, m1_lt, m1_ge, mm_inT, pk_mul, nI_add, mm_in_nI, mm_cl_nI, nI_eq, nI_ltI, nI_leI, ↓reduceIte, Nat.add_zero, Nat.reduceLeDiff, oI_some, oI_none, m1_lt, nI_lt0, Rf_fail_eq, Rf_out_eq, eq_self, not_true_eq_false, not_false_eq_true, Nat.reduceEqDiff, Nat.reduceLT, ne_eq, or_true, true_or, or_false, false_or, decide_true, decide_false, Bool.true_eq_false, Bool.false_eq_true, b2i_ne, mm_K_inr, mm_G_ok, c_skip, rf_n, rf_s, Lc_needTold_1, Lc_needTold_0, Lc_needTold_eq, Lc_needRoom_1, Lc_needRoom_0, Lc_needRoom_eq, Lc_needPlace_1, Lc_needPlace_0, Lc_needPlace_eq, Lc_needThere_1, Lc_needThere_0, Lc_needThere_eq, Lc_needSupported_1, Lc_needSupported_0, Lc_needSupported_eq, c_obj_at hL, q1, q2]
theorem Lc_rowIn_ok (hW : WF T σ) (hL : LK Λ σ) {h : Int32} (hn : ndo σ h = some n) (hr : kRow (sK σ n) = true) : WPC X (d + 8) 35 [.ref (Λ.1 0 0), .int h] (mm_C Λ σ β M) Q = Q (.inl (some (.ref (Λ.1 4 n)))) (mm_C Λ σ β M) := by
  have hlt := ndo_lt hW hn
  have q1 := fun Q => Lc_nodeIn_ok (X := X) (d := d) (β := β) (M := M) (Q := Q) hL hn
  have q2 := fun d Q => Lc_isRow_eq (X := X) (d := d) (β := β) (M := M) (Q := Q) hW hL hlt
  rw [hr] at q2
  simp (disch := omega) only [e_35, w_35_0, w_35_1, w_35_2, w_35_5, w_35_6, w_35_7, w_35_10, w_35_13, w_35_14, mm_k_none, mm_k_int, mm_k_ref, mm_k_null, mm_K_inl, mm_tl_some, mm_tl_none, mm_fg_ok, mm_rc_ok, mm_fp_ok, mm_ai_ok, mm_si_ok, mm_az_ok, mm_sz_ok, z01, z11, zb, b2i_t, b2i_f, true_and, and_true, c_g0, c_g1, c_g2, c_g3, c_g4, c_g5, c_g6, c_g7, c_g8, c_g9, c_g10, c_g11, c_g12, c_gl, c_o0, c_o1, c_o2, c_o3, c_ol, c_s0, c_s1, c_s2, c_s3, c_sl, Nat.zero_le, Nat.not_lt_zero, if_true, if_false, m1_lt, m1_ge, mm_inT, pk_mul, nI_add, mm_in_nI, mm_cl_nI, nI_eq, nI_ltI, nI_leI, ↓reduceIte, Nat.add_zero, Nat.reduceLeDiff, oI_some, oI_none, m1_lt, nI_lt0, Rf_fail_eq, Rf_out_eq, eq_self, not_true_eq_false, not_false_eq_true, Nat.reduceEqDiff, Nat.reduceLT, ne_eq, or_true, true_or, or_false, false_or, decide_true, decide_false, Bool.true_eq_false, Bool.false_eq_true, b2i_ne, mm_K_inr, mm_G_ok, c_skip, rf_n, rf_s, Lc_needTold_1, Lc_needTold_0, Lc_needTold_eq, Lc_needRoom_1, Lc_needRoom_0, Lc_needRoom_eq, Lc_needPlace_1, Lc_needPlace_0, Lc_needPlace_eq, Lc_needThere_1, Lc_needThere_0, Lc_needThere_eq, Lc_needSupported_1, Lc_needSupported_0, Lc_needSupported_eq, c_obj_at hL, q1, q2]
theorem keep1 (hW : WF T σ) (hL : LK Λ σ) (hlt : ∀ q t, Λ.2 q = some t → q < M.1) (hn : sN σ < 40) (h2 : kTwo k = false) (hk : kS k = false) {to x y p dd lv gv : Nat} {v : Int32} (hto : to < 10) {L : List Int32} {fs : List Value} (hfs : fs = c_node (layN Λ (sN σ) M.1 1 g1 f1) (addN σ to k x y v p dd lv gv L) (sN σ)) : WPC X d 20 [.ref (Λ.1 0 0), .int (nI to), .ref M.1] (mm_push (mm_C Λ σ β M) 13 (.inr (0, fs))) Q = Q (.inl (some (.int (nI (sN σ + 1))))) (mm_C (layN Λ (sN σ) M.1 1 g1 f1) (addN σ to k x y v p dd lv gv L) (newB β (sN σ) F x') (M.1 + 1, M.2.1 + 13, M.2.2)) := by
  have h := keep_fin (X := X) (d := d) (Q := Q) (A := M.1) (Λ := Λ) (β := β) (k := k) (a := 1) (g := g1) (f := f1) (to := to) (x := x) (y := y) (p := p) (dd := dd) (lv := lv) (gv := gv) (v := v) (x' := x') (L := L) (F := F) (Ls := [(13, .inr (0, fs))]) hW hL hlt hn (gf1 h2 hk) hto rfl rfl (fun j hj => by
    have hj5 : j = 0 := by
      have : j < 1 := hj
      omega
    subst hj5
    show (.inr (0, fs) : mm_O) = .inr (0, c_node _ _ (sN σ))
    rw [hfs])
  exact h
theorem node_over (hk : k = 3 ∨ k = 5) {to x lv gv : Nat} {v : Int32} {L : List Int32} (hx : x ≠ sN σ) : c_node (layN Λ (sN σ) A 1 g1 f1) (addN σ to k x 0 v 0 0 lv gv L) (sN σ) = [.int (nI k), .int (nI lv), .int (nI gv), .null, .int (nI 0), .ref (Λ.1 4 x), .null, .null, .null, .int 0, .int 0, .int 0, .int (if k = 5 then v else 0)] := by
  obtain ⟨-, -, e3, e4, e5, e6, e7, e8, e9, e10, -⟩ := addN_f (σ := σ) (to := to) (k := k) (x := x) (y := 0) (v := v) (p := 0) (dd := 0) (lv := lv) (gv := gv) (L := L)
  have el : (layN Λ (sN σ) A 1 g1 f1).1 4 x = Λ.1 4 x := lay_o (fun z => hx z.1)
  unfold c_node vStore vKey vBase vOther vRow vStart vLen vNoted vBy
  rw [e3, e4, e5, e6, e7, e8, e9, e10, ud_at, ud_at, ud_at, ud_at, ud_at, ud_at, ud_at, ud_at, el]
  rcases hk with rfl | rfl <;> rfl
theorem opC_over (hW : WF T σ) (hL : LK Λ σ) (hlt : ∀ q t, Λ.2 q = some t → q < M.1) (hS : StRel σ β) {to node : Int32} : opC X (d + 16) Λ σ β M 34 [.int to, .int node] (sp_over σ to node 3 0) exA := by
  have qh := fun h Q => Lc_isHandle_eq (X := X) (d := d + 15) (M := mm_C Λ σ β M) (Q := Q) (h := h)
  have no1 : (bad to = true ∨ ndo σ node = none ∨ ∃ n, ndo σ node = some n ∧ kRow (sK σ n) = false) → sp_over σ to node 3 0 = bade σ 1 := by
    rintro (z | z | ⟨n, z, y⟩)
    · simp only [sp_over]
      cases ndo σ node with
      | none => rfl
      | some n => simp only [z, true_or, if_true]
    · simp only [sp_over, z]
    · simp only [sp_over, z, y, or_true, if_true]
  rcases bad_cases to with h1 | ⟨h1, t, ht, rfl⟩
  · have qb := qh to
    rw [h1] at qb
    refine opC.no (β' := β) 1 (by decide) (no1 (Or.inl h1)) hS fun Q => ?_
    simp (disch := omega) only [e_34, w_34_0, w_34_1, w_34_4, w_34_7, w_34_8, w_34_9, w_34_12, w_34_13, w_34_14, w_34_17, w_34_18, w_34_19, w_34_22, w_34_23, w_34_26, w_34_27, w_34_28, w_34_31, w_34_32, w_34_33, w_34_36, w_34_37, w_34_38, w_34_39, w_34_40, w_34_43, w_34_46, mm_k_none, mm_k_int, mm_k_ref, mm_k_null, mm_K_inl, mm_tl_some, mm_tl_none, mm_fg_ok, mm_rc_ok, mm_fp_ok, mm_ai_ok, mm_si_ok, mm_az_ok, mm_sz_ok, z01, z11, zb, b2i_t, b2i_f, true_and, and_true, c_g0, c_g1, c_g2, c_g3, c_g4, c_g5, c_g6, c_g7, c_g8, c_g9, c_g10, c_g11, c_g12, c_gl, c_o0, c_o1, c_o2, c_o3, c_ol, c_s0, c_s1, c_s2, c_s3, c_sl, Nat.zero_le, Nat.not_lt_zero, if_true, if_false, m1_lt, m1_ge, mm_inT, pk_mul, nI_add, mm_in_nI, mm_cl_nI, nI_eq, nI_ltI, nI_leI, ↓reduceIte, Nat.add_zero, Nat.reduceLeDiff, oI_some, oI_none, m1_lt, nI_lt0, Rf_fail_eq, Rf_out_eq, eq_self, not_true_eq_false, not_false_eq_true, Nat.reduceEqDiff, Nat.reduceLT, ne_eq, or_true, true_or, or_false, false_or, decide_true, decide_false, Bool.true_eq_false, Bool.false_eq_true, b2i_ne, mm_K_inr, mm_G_ok, c_skip, rf_n, rf_s, Lc_needTold_1, Lc_needTold_0, Lc_needTold_eq, Lc_needRoom_1, Lc_needRoom_0, Lc_needRoom_eq, Lc_needPlace_1, Lc_needPlace_0, Lc_needPlace_eq, Lc_needThere_1, Lc_needThere_0, Lc_needThere_eq, Lc_needSupported_1, Lc_needSupported_0, Lc_needSupported_eq, qb, Bool.not_true, Bool.not_false]
    rfl
  · have ht1 : (nI t).toNatClampNeg = t := nI_clamp (by omega)
    have qb := qh (nI t)
    rw [h1] at qb
    cases hn : ndo σ node with
    | none =>
      refine opC.no (β' := β) 1 (by decide) (no1 (Or.inr (Or.inl hn))) hS fun Q => ?_
      have q1 := fun Q => Lc_rowIn_no (X := X) (d := d + 7) (β := β) (M := M) (Q := Q) hL hn
      simp (disch := omega) only [e_34, w_34_0, w_34_1, w_34_4, w_34_7, w_34_8, w_34_9, w_34_12, w_34_13, w_34_14, w_34_17, w_34_18, w_34_19, w_34_22, w_34_23, w_34_26, w_34_27, w_34_28, w_34_31, w_34_32, w_34_33, w_34_36, w_34_37, w_34_38, w_34_39, w_34_40, w_34_43, w_34_46, mm_k_none, mm_k_int, mm_k_ref, mm_k_null, mm_K_inl, mm_tl_some, mm_tl_none, mm_fg_ok, mm_rc_ok, mm_fp_ok, mm_ai_ok, mm_si_ok, mm_az_ok, mm_sz_ok, z01, z11, zb, b2i_t, b2i_f, true_and, and_true, c_g0, c_g1, c_g2, c_g3, c_g4, c_g5, c_g6, c_g7, c_g8, c_g9, c_g10, c_g11, c_g12, c_gl, c_o0, c_o1, c_o2, c_o3, c_ol, c_s0, c_s1, c_s2, c_s3, c_sl, Nat.zero_le, Nat.not_lt_zero, if_true, if_false, m1_lt, m1_ge, mm_inT, pk_mul, nI_add, mm_in_nI, mm_cl_nI, nI_eq, nI_ltI, nI_leI, ↓reduceIte, Nat.add_zero, Nat.reduceLeDiff, oI_some, oI_none, m1_lt, nI_lt0, Rf_fail_eq, Rf_out_eq, eq_self, not_true_eq_false, not_false_eq_true, Nat.reduceEqDiff, Nat.reduceLT, ne_eq, or_true, true_or, or_false, false_or, decide_true, decide_false, Bool.true_eq_false, Bool.false_eq_true, b2i_ne, mm_K_inr, mm_G_ok, c_skip, rf_n, rf_s, Lc_needTold_1, Lc_needTold_0, Lc_needTold_eq, Lc_needRoom_1, Lc_needRoom_0, Lc_needRoom_eq, Lc_needPlace_1, Lc_needPlace_0, Lc_needPlace_eq, Lc_needThere_1, Lc_needThere_0, Lc_needThere_eq, Lc_needSupported_1, Lc_needSupported_0, Lc_needSupported_eq, qb, Bool.not_true, Bool.not_false, c_obj_at hL, q1]
      rfl
    | some n =>
      have hnl := ndo_lt hW hn
      cases hr : kRow (sK σ n) with
      | false =>
        refine opC.no (β' := β) 1 (by decide) (no1 (Or.inr (Or.inr ⟨n, hn, hr⟩))) hS fun Q => ?_
        have q1 := fun Q => Lc_rowIn_ko (X := X) (d := d + 7) (β := β) (M := M) (Q := Q) hW hL hn hr
        simp (disch := omega) only [e_34, w_34_0, w_34_1, w_34_4, w_34_7, w_34_8, w_34_9, w_34_12, w_34_13, w_34_14, w_34_17, w_34_18, w_34_19, w_34_22, w_34_23, w_34_26, w_34_27, w_34_28, w_34_31, w_34_32, w_34_33, w_34_36, w_34_37, w_34_38, w_34_39, w_34_40, w_34_43, w_34_46, mm_k_none, mm_k_int, mm_k_ref, mm_k_null, mm_K_inl, mm_tl_some, mm_tl_none, mm_fg_ok, mm_rc_ok, mm_fp_ok, mm_ai_ok, mm_si_ok, mm_az_ok, mm_sz_ok, z01, z11, zb, b2i_t, b2i_f, true_and, and_true, c_g0, c_g1, c_g2, c_g3, c_g4, c_g5, c_g6, c_g7, c_g8, c_g9, c_g10, c_g11, c_g12, c_gl, c_o0, c_o1, c_o2, c_o3, c_ol, c_s0, c_s1, c_s2, c_s3, c_sl, Nat.zero_le, Nat.not_lt_zero, if_true, if_false, m1_lt, m1_ge, mm_inT, pk_mul, nI_add, mm_in_nI, mm_cl_nI, nI_eq, nI_ltI, nI_leI, ↓reduceIte, Nat.add_zero, Nat.reduceLeDiff, oI_some, oI_none, m1_lt, nI_lt0, Rf_fail_eq, Rf_out_eq, eq_self, not_true_eq_false, not_false_eq_true, Nat.reduceEqDiff, Nat.reduceLT, ne_eq, or_true, true_or, or_false, false_or, decide_true, decide_false, Bool.true_eq_false, Bool.false_eq_true, b2i_ne, mm_K_inr, mm_G_ok, c_skip, rf_n, rf_s, Lc_needTold_1, Lc_needTold_0, Lc_needTold_eq, Lc_needRoom_1, Lc_needRoom_0, Lc_needRoom_eq, Lc_needPlace_1, Lc_needPlace_0, Lc_needPlace_eq, Lc_needThere_1, Lc_needThere_0, Lc_needThere_eq, Lc_needSupported_1, Lc_needSupported_0, Lc_needSupported_eq, qb, Bool.not_true, Bool.not_false, c_obj_at hL, q1]
        rfl
      | true =>
        have q1 := fun Q => Lc_rowIn_ok (X := X) (d := d + 7) (β := β) (M := M) (Q := Q) hW hL hn hr
        have hc : ¬ (bad (nI t) = true ∨ kRow (sK σ n) = false) := by rw [h1, hr]; decide
        cases hs : stale σ n with
        | true =>
          refine opC.no (β' := β) 2 (by decide) (by simp only [sp_over, hn, if_neg hc, hs, if_true]) hS fun Q => ?_
          have q2 := fun Q => Lc_needFresh_no (X := X) (d := d + 7) (β := β) (M := M) (Q := Q) hW hL hS hnl hs
          simp (disch := omega) only [e_34, w_34_0, w_34_1, w_34_4, w_34_7, w_34_8, w_34_9, w_34_12, w_34_13, w_34_14, w_34_17, w_34_18, w_34_19, w_34_22, w_34_23, w_34_26, w_34_27, w_34_28, w_34_31, w_34_32, w_34_33, w_34_36, w_34_37, w_34_38, w_34_39, w_34_40, w_34_43, w_34_46, mm_k_none, mm_k_int, mm_k_ref, mm_k_null, mm_K_inl, mm_tl_some, mm_tl_none, mm_fg_ok, mm_rc_ok, mm_fp_ok, mm_ai_ok, mm_si_ok, mm_az_ok, mm_sz_ok, z01, z11, zb, b2i_t, b2i_f, true_and, and_true, c_g0, c_g1, c_g2, c_g3, c_g4, c_g5, c_g6, c_g7, c_g8, c_g9, c_g10, c_g11, c_g12, c_gl, c_o0, c_o1, c_o2, c_o3, c_ol, c_s0, c_s1, c_s2, c_s3, c_sl, Nat.zero_le, Nat.not_lt_zero, if_true, if_false, m1_lt, m1_ge, mm_inT, pk_mul, nI_add, mm_in_nI, mm_cl_nI, nI_eq, nI_ltI, nI_leI, ↓reduceIte, Nat.add_zero, Nat.reduceLeDiff, oI_some, oI_none, m1_lt, nI_lt0, Rf_fail_eq, Rf_out_eq, eq_self, not_true_eq_false, not_false_eq_true, Nat.reduceEqDiff, Nat.reduceLT, ne_eq, or_true, true_or, or_false, false_or, decide_true, decide_false, Bool.true_eq_false, Bool.false_eq_true, b2i_ne, mm_K_inr, mm_G_ok, c_skip, rf_n, rf_s, Lc_needTold_1, Lc_needTold_0, Lc_needTold_eq, Lc_needRoom_1, Lc_needRoom_0, Lc_needRoom_eq, Lc_needPlace_1, Lc_needPlace_0, Lc_needPlace_eq, Lc_needThere_1, Lc_needThere_0, Lc_needThere_eq, Lc_needSupported_1, Lc_needSupported_0, Lc_needSupported_eq, qb, Bool.not_true, Bool.not_false, c_obj_at hL, q1, q2]
          rfl
        | false =>
          have q2 := fun Q => Lc_needFresh_ok (X := X) (d := d + 7) (β := β) (M := M) (Q := Q) hW hL hS hnl hs
          have hlg := hW.lg hnl
          have hnode := c_node_at (M := M) (β := β) hL hnl
          by_cases hroom : sN σ = 40 ∨ 3 < sL σ n ∨ 6 < sG σ n + 1
          · have qroom := fun Q => Lc_roomN_no (X := X) (d := d + 8) (β := β) (M := M) (Q := Q) hW hL (lv := sL σ n) (hv := sG σ n + 1) (by omega) (by omega) hroom
            refine opC.no (β' := β) 2 (by decide) (by simp only [sp_over, hn, if_neg hc, hs, Bool.false_eq_true, if_false, crt, if_pos hroom]) hS fun Q => ?_
            simp (disch := omega) only [e_34, w_34_0, w_34_1, w_34_4, w_34_7, w_34_8, w_34_9, w_34_12, w_34_13, w_34_14, w_34_17, w_34_18, w_34_19, w_34_22, w_34_23, w_34_26, w_34_27, w_34_28, w_34_31, w_34_32, w_34_33, w_34_36, w_34_37, w_34_38, w_34_39, w_34_40, w_34_43, w_34_46, mm_k_none, mm_k_int, mm_k_ref, mm_k_null, mm_K_inl, mm_tl_some, mm_tl_none, mm_fg_ok, mm_rc_ok, mm_fp_ok, mm_ai_ok, mm_si_ok, mm_az_ok, mm_sz_ok, z01, z11, zb, b2i_t, b2i_f, true_and, and_true, c_g0, c_g1, c_g2, c_g3, c_g4, c_g5, c_g6, c_g7, c_g8, c_g9, c_g10, c_g11, c_g12, c_gl, c_o0, c_o1, c_o2, c_o3, c_ol, c_s0, c_s1, c_s2, c_s3, c_sl, Nat.zero_le, Nat.not_lt_zero, if_true, if_false, m1_lt, m1_ge, mm_inT, pk_mul, nI_add, mm_in_nI, mm_cl_nI, nI_eq, nI_ltI, nI_leI, ↓reduceIte, Nat.add_zero, Nat.reduceLeDiff, oI_some, oI_none, m1_lt, nI_lt0, Rf_fail_eq, Rf_out_eq, eq_self, not_true_eq_false, not_false_eq_true, Nat.reduceEqDiff, Nat.reduceLT, ne_eq, or_true, true_or, or_false, false_or, decide_true, decide_false, Bool.true_eq_false, Bool.false_eq_true, b2i_ne, mm_K_inr, mm_G_ok, c_skip, rf_n, rf_s, Lc_needTold_1, Lc_needTold_0, Lc_needTold_eq, Lc_needRoom_1, Lc_needRoom_0, Lc_needRoom_eq, Lc_needPlace_1, Lc_needPlace_0, Lc_needPlace_eq, Lc_needThere_1, Lc_needThere_0, Lc_needThere_eq, Lc_needSupported_1, Lc_needSupported_0, Lc_needSupported_eq, qb, Bool.not_true, Bool.not_false, c_obj_at hL, q1, q2, hnode, qroom]
            rfl
          · have qroom := fun Q => Lc_roomN_ok (X := X) (d := d + 8) (β := β) (M := M) (Q := Q) hW hL (lv := sL σ n) (hv := sG σ n + 1) (by omega) (by omega) hroom
            have hn40 : sN σ < 40 := by have := hW.n40; omega
            have esp : sp_over σ (nI t) node 3 0 = (0, nI (sN σ + 1), addN σ t 3 n 0 0 0 0 (sL σ n) (sG σ n + 1) []) := by simp only [sp_over, hn, if_neg hc, hs, Bool.false_eq_true, if_false, crt, if_neg hroom, ht1]
            have l0 := hlt _ _ (hL.2.1 0 (by decide))
            have ln := hlt _ _ (hL.2.2 n hnl).1
            have qn := fun Q => Nd_newB1 (X := X) (d := d + 14) (M := mm_C Λ σ β M) (x := nI 3) (Q := Q) (c_node_at hL hnl) (show Λ.1 4 n ≠ (mm_C Λ σ β M).1 by rw [mm_C_1]; omega) c_g1 c_g2
            refine opC.made (k := 3) (a := 1) (g := g1) (f := f1) (s := 13) (β1 := β) (F := fun _ _ => 0) (x' := 0) hL hlt (gf1 rfl rfl) esp (StRel_new hW hS (k := 3) (L := []) rfl rfl rfl rfl rfl (fun _ => rfl) (fun h => absurd h (by decide)) (fun h => absurd h (by decide)) (fun h => absurd h (by decide)) (fun h => absurd h (by decide))) (by decide) (by decide) fun Q => ?_
            simp (disch := first | omega | (simp only [mm_push_1, mm_C_1]; omega)) only [e_34, w_34_0, w_34_1, w_34_4, w_34_7, w_34_8, w_34_9, w_34_12, w_34_13, w_34_14, w_34_17, w_34_18, w_34_19, w_34_22, w_34_23, w_34_26, w_34_27, w_34_28, w_34_31, w_34_32, w_34_33, w_34_36, w_34_37, w_34_38, w_34_39, w_34_40, w_34_43, w_34_46, mm_k_none, mm_k_int, mm_k_ref, mm_k_null, mm_K_inl, mm_tl_some, mm_tl_none, mm_fg_ok, mm_rc_ok, mm_fp_ok, mm_ai_ok, mm_si_ok, mm_az_ok, mm_sz_ok, z01, z11, zb, b2i_t, b2i_f, true_and, and_true, c_g0, c_g1, c_g2, c_g3, c_g4, c_g5, c_g6, c_g7, c_g8, c_g9, c_g10, c_g11, c_g12, c_gl, c_o0, c_o1, c_o2, c_o3, c_ol, c_s0, c_s1, c_s2, c_s3, c_sl, Nat.zero_le, Nat.not_lt_zero, if_true, if_false, m1_lt, m1_ge, mm_inT, pk_mul, nI_add, mm_in_nI, mm_cl_nI, nI_eq, nI_ltI, nI_leI, ↓reduceIte, Nat.add_zero, Nat.reduceLeDiff, oI_some, oI_none, m1_lt, nI_lt0, Rf_fail_eq, Rf_out_eq, eq_self, not_true_eq_false, not_false_eq_true, Nat.reduceEqDiff, Nat.reduceLT, ne_eq, or_true, true_or, or_false, false_or, decide_true, decide_false, Bool.true_eq_false, Bool.false_eq_true, b2i_ne, mm_K_inr, mm_G_ok, c_skip, rf_n, rf_s, Lc_needTold_1, Lc_needTold_0, Lc_needTold_eq, Lc_needRoom_1, Lc_needRoom_0, Lc_needRoom_eq, Lc_needPlace_1, Lc_needPlace_0, Lc_needPlace_eq, Lc_needThere_1, Lc_needThere_0, Lc_needThere_eq, Lc_needSupported_1, Lc_needSupported_0, Lc_needSupported_eq, qb, Bool.not_true, Bool.not_false, c_obj_at hL, q1, q2, hnode, qroom, qn, mm_push_ne]
            rw [Nat.add_comm 1]
            refine (keep1 (F := fun _ _ => 0) (x' := 0) (k := 3) (L := []) hW hL hlt hn40 rfl rfl ht (node_over (v := 0) (Or.inl rfl) (by omega)).symm).trans ?_
            simp (disch := omega) only [w_34_0, w_34_1, w_34_4, w_34_7, w_34_8, w_34_9, w_34_12, w_34_13, w_34_14, w_34_17, w_34_18, w_34_19, w_34_22, w_34_23, w_34_26, w_34_27, w_34_28, w_34_31, w_34_32, w_34_33, w_34_36, w_34_37, w_34_38, w_34_39, w_34_40, w_34_43, w_34_46, mm_k_none, mm_k_int, mm_k_ref, mm_k_null, mm_K_inl, mm_tl_some, mm_tl_none, mm_fg_ok, mm_rc_ok, mm_fp_ok, mm_ai_ok, mm_si_ok, mm_az_ok, mm_sz_ok, z01, z11, zb, b2i_t, b2i_f, true_and, and_true, c_g0, c_g1, c_g2, c_g3, c_g4, c_g5, c_g6, c_g7, c_g8, c_g9, c_g10, c_g11, c_g12, c_gl, c_o0, c_o1, c_o2, c_o3, c_ol, c_s0, c_s1, c_s2, c_s3, c_sl, Nat.zero_le, Nat.not_lt_zero, if_true, if_false, m1_lt, m1_ge, mm_inT, pk_mul, nI_add, mm_in_nI, mm_cl_nI, nI_eq, nI_ltI, nI_leI, ↓reduceIte, Nat.add_zero, Nat.reduceLeDiff, oI_some, oI_none, m1_lt, nI_lt0, Rf_fail_eq, Rf_out_eq, eq_self, not_true_eq_false, not_false_eq_true, Nat.reduceEqDiff, Nat.reduceLT, ne_eq, or_true, true_or, or_false, false_or, decide_true, decide_false, Bool.true_eq_false, Bool.false_eq_true, b2i_ne]
end CL30
