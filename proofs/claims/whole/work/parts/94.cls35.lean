/-! the class: copy -/
section CL36
variable {X : Nat × Nat × (Nat → Int32)} {d T n A k : Nat} {Λ : Lay} {σ σ' : Sg} {β : CS} {M N : mm_M} {Q : mm_Out → mm_M → Prop} {F : Nat → Nat → Int32} {x' : Int32}
theorem srt_le : ∀ (L : List Int32), (srt L).length ≤ L.length := by
  intro L
  unfold srt
  have h : ∀ (L acc : List Int32), (L.foldl (fun acc v => ins1 v acc) acc).length ≤ acc.length + L.length := by
    intro L
    induction L with
    | nil => intro acc; exact Nat.le_refl _
    | cons v L ih =>
      intro acc
      rw [List.foldl_cons, List.length_cons]
      have h1 : ∀ acc : List Int32, (ins1 v acc).length ≤ acc.length + 1 := by
        intro acc
        induction acc with
        | nil => exact Nat.le_refl _
        | cons x xs ih =>
          unfold ins1
          split
          · rw [List.length_cons, List.length_cons]; omega
          · split
            · omega
            · rw [List.length_cons, List.length_cons]; omega
      have := ih (ins1 v acc)
      have := h1 acc
      omega
  have := h L []
  simpa using this
theorem opC_copy (hW : WF T σ) (hL : LK Λ σ) (hlt : ∀ q t, Λ.2 q = some t → q < M.1) (hS : StRel σ β) {to kind node : Int32} : opC X (d + 16) Λ σ β M 21 [.int to, .int kind, .int node] (sp_copy σ to kind node) exA := by
  have qh := fun h Q => Lc_isHandle_eq (X := X) (d := d + 15) (M := mm_C Λ σ β M) (Q := Q) (h := h)
  have no1 : (bad to = true ∨ ¬ (kind = nI 1 ∨ kind = nI 2) ∨ ndo σ node = none) → sp_copy σ to kind node = bade σ 1 := by
    intro z
    simp only [sp_copy]
    cases hn : ndo σ node with
    | none => rfl
    | some n =>
      have : bad to = true ∨ ¬ (kind = nI 1 ∨ kind = nI 2) := by
        rcases z with z | z | z
        · exact Or.inl z
        · exact Or.inr z
        · rw [hn] at z; cases z
      simp only [if_pos this]
  rcases bad_cases to with h1 | ⟨h1, t, ht, rfl⟩
  · have qb := qh to
    rw [h1] at qb
    refine opC.no (β' := β) 1 (by decide) (no1 (Or.inl h1)) hS fun Q => ?_
    simp (disch := omega) only [e_21, w_21_0, w_21_1, w_21_4, w_21_7, w_21_8, w_21_9, w_21_12, w_21_13, w_21_14, w_21_17, w_21_18, w_21_21, w_21_22, w_21_25, w_21_26, w_21_27, w_21_30, w_21_32, w_21_34, w_21_37, w_21_39, w_21_40, w_21_43, w_21_46, w_21_48, w_21_49, w_21_50, w_21_53, w_21_54, w_21_57, w_21_59, w_21_62, w_21_64, w_21_66, w_21_68, w_21_71, w_21_72, w_21_75, w_21_76, w_21_79, w_21_80, w_21_81, w_21_82, w_21_85, w_21_88, w_21_89, w_21_91, w_21_92, w_21_95, w_21_97, w_21_99, w_21_100, w_21_103, w_21_105, w_21_108, w_21_109, w_21_110, w_21_113, w_21_114, w_21_115, w_21_117, w_21_118, w_21_121, w_21_124, mm_k_none, mm_k_int, mm_k_ref, mm_k_null, mm_K_inl, mm_tl_some, mm_tl_none, mm_fg_ok, mm_rc_ok, mm_fp_ok, mm_ai_ok, mm_si_ok, mm_az_ok, mm_sz_ok, z01, z11, zb, b2i_t, b2i_f, true_and, and_true, c_g0, c_g1, c_g2, c_g3, c_g4, c_g5, c_g6, c_g7, c_g8, c_g9, c_g10, c_g11, c_g12, c_gl, c_o0, c_o1, c_o2, c_o3, c_ol, c_s0, c_s1, c_s2, c_s3, c_sl, Nat.zero_le, Nat.not_lt_zero, if_true, if_false, m1_lt, m1_ge, mm_inT, pk_mul, nI_add, mm_in_nI, mm_cl_nI, nI_eq, nI_ltI, nI_leI, ↓reduceIte, Nat.add_zero, Nat.reduceLeDiff, oI_some, oI_none, m1_lt, nI_lt0, Rf_fail_eq, Rf_out_eq, eq_self, not_true_eq_false, not_false_eq_true, Nat.reduceEqDiff, Nat.reduceLT, ne_eq, or_true, true_or, or_false, false_or, decide_true, decide_false, Bool.true_eq_false, Bool.false_eq_true, b2i_ne, mm_K_inr, mm_G_ok, c_skip, rf_n, rf_s, Lc_needTold_1, Lc_needTold_0, Lc_needTold_eq, Lc_needRoom_1, Lc_needRoom_0, Lc_needRoom_eq, Lc_needPlace_1, Lc_needPlace_0, Lc_needPlace_eq, Lc_needThere_1, Lc_needThere_0, Lc_needThere_eq, Lc_needSupported_1, Lc_needSupported_0, Lc_needSupported_eq, qb, Bool.not_true, Bool.not_false]
    rfl
  · have ht1 : (nI t).toNatClampNeg = t := nI_clamp (by omega)
    have qb := qh (nI t)
    rw [h1] at qb
    by_cases hk : kind = nI 1 ∨ kind = nI 2
    · have hc : ¬ (bad (nI t) = true ∨ ¬ (kind = nI 1 ∨ kind = nI 2)) := by
        rintro (z | z)
        · rw [h1] at z; cases z
        · exact z hk
      cases hn : ndo σ node with
      | none =>
        refine opC.no (β' := β) 1 (by decide) (no1 (Or.inr (Or.inr hn))) hS fun Q => ?_
        have q1 := fun Q => Lc_nodeIn_no (X := X) (d := d + 8) (β := β) (M := M) (Q := Q) hL hn
        rcases hk with rfl | rfl
        · simp (disch := omega) only [e_21, w_21_0, w_21_1, w_21_4, w_21_7, w_21_8, w_21_9, w_21_12, w_21_13, w_21_14, w_21_17, w_21_18, w_21_21, w_21_22, w_21_25, w_21_26, w_21_27, w_21_30, w_21_32, w_21_34, w_21_37, w_21_39, w_21_40, w_21_43, w_21_46, w_21_48, w_21_49, w_21_50, w_21_53, w_21_54, w_21_57, w_21_59, w_21_62, w_21_64, w_21_66, w_21_68, w_21_71, w_21_72, w_21_75, w_21_76, w_21_79, w_21_80, w_21_81, w_21_82, w_21_85, w_21_88, w_21_89, w_21_91, w_21_92, w_21_95, w_21_97, w_21_99, w_21_100, w_21_103, w_21_105, w_21_108, w_21_109, w_21_110, w_21_113, w_21_114, w_21_115, w_21_117, w_21_118, w_21_121, w_21_124, mm_k_none, mm_k_int, mm_k_ref, mm_k_null, mm_K_inl, mm_tl_some, mm_tl_none, mm_fg_ok, mm_rc_ok, mm_fp_ok, mm_ai_ok, mm_si_ok, mm_az_ok, mm_sz_ok, z01, z11, zb, b2i_t, b2i_f, true_and, and_true, c_g0, c_g1, c_g2, c_g3, c_g4, c_g5, c_g6, c_g7, c_g8, c_g9, c_g10, c_g11, c_g12, c_gl, c_o0, c_o1, c_o2, c_o3, c_ol, c_s0, c_s1, c_s2, c_s3, c_sl, Nat.zero_le, Nat.not_lt_zero, if_true, if_false, m1_lt, m1_ge, mm_inT, pk_mul, nI_add, mm_in_nI, mm_cl_nI, nI_eq, nI_ltI, nI_leI, ↓reduceIte, Nat.add_zero, Nat.reduceLeDiff, oI_some, oI_none, m1_lt, nI_lt0, Rf_fail_eq, Rf_out_eq, eq_self, not_true_eq_false, not_false_eq_true, Nat.reduceEqDiff, Nat.reduceLT, ne_eq, or_true, true_or, or_false, false_or, decide_true, decide_false, Bool.true_eq_false, Bool.false_eq_true, b2i_ne, mm_K_inr, mm_G_ok, c_skip, rf_n, rf_s, Lc_needTold_1, Lc_needTold_0, Lc_needTold_eq, Lc_needRoom_1, Lc_needRoom_0, Lc_needRoom_eq, Lc_needPlace_1, Lc_needPlace_0, Lc_needPlace_eq, Lc_needThere_1, Lc_needThere_0, Lc_needThere_eq, Lc_needSupported_1, Lc_needSupported_0, Lc_needSupported_eq, qb, Bool.not_true, Bool.not_false, c_obj_at hL, q1]
          rfl
        · simp (disch := omega) only [e_21, w_21_0, w_21_1, w_21_4, w_21_7, w_21_8, w_21_9, w_21_12, w_21_13, w_21_14, w_21_17, w_21_18, w_21_21, w_21_22, w_21_25, w_21_26, w_21_27, w_21_30, w_21_32, w_21_34, w_21_37, w_21_39, w_21_40, w_21_43, w_21_46, w_21_48, w_21_49, w_21_50, w_21_53, w_21_54, w_21_57, w_21_59, w_21_62, w_21_64, w_21_66, w_21_68, w_21_71, w_21_72, w_21_75, w_21_76, w_21_79, w_21_80, w_21_81, w_21_82, w_21_85, w_21_88, w_21_89, w_21_91, w_21_92, w_21_95, w_21_97, w_21_99, w_21_100, w_21_103, w_21_105, w_21_108, w_21_109, w_21_110, w_21_113, w_21_114, w_21_115, w_21_117, w_21_118, w_21_121, w_21_124, mm_k_none, mm_k_int, mm_k_ref, mm_k_null, mm_K_inl, mm_tl_some, mm_tl_none, mm_fg_ok, mm_rc_ok, mm_fp_ok, mm_ai_ok, mm_si_ok, mm_az_ok, mm_sz_ok, z01, z11, zb, b2i_t, b2i_f, true_and, and_true, c_g0, c_g1, c_g2, c_g3, c_g4, c_g5, c_g6, c_g7, c_g8, c_g9, c_g10, c_g11, c_g12, c_gl, c_o0, c_o1, c_o2, c_o3, c_ol, c_s0, c_s1, c_s2, c_s3, c_sl, Nat.zero_le, Nat.not_lt_zero, if_true, if_false, m1_lt, m1_ge, mm_inT, pk_mul, nI_add, mm_in_nI, mm_cl_nI, nI_eq, nI_ltI, nI_leI, ↓reduceIte, Nat.add_zero, Nat.reduceLeDiff, oI_some, oI_none, m1_lt, nI_lt0, Rf_fail_eq, Rf_out_eq, eq_self, not_true_eq_false, not_false_eq_true, Nat.reduceEqDiff, Nat.reduceLT, ne_eq, or_true, true_or, or_false, false_or, decide_true, decide_false, Bool.true_eq_false, Bool.false_eq_true, b2i_ne, mm_K_inr, mm_G_ok, c_skip, rf_n, rf_s, Lc_needTold_1, Lc_needTold_0, Lc_needTold_eq, Lc_needRoom_1, Lc_needRoom_0, Lc_needRoom_eq, Lc_needPlace_1, Lc_needPlace_0, Lc_needPlace_eq, Lc_needThere_1, Lc_needThere_0, Lc_needThere_eq, Lc_needSupported_1, Lc_needSupported_0, Lc_needSupported_eq, qb, Bool.not_true, Bool.not_false, c_obj_at hL, q1]
          rfl
      | some n =>
        have hnl := ndo_lt hW hn
        have h72 := El_72 hW hnl
        have q1 := fun Q => Lc_nodeIn_ok (X := X) (d := d + 8) (β := β) (M := M) (Q := Q) hL hn
        cases hs : stale σ n with
        | true =>
          refine opC.no (β' := β) 2 (by decide) (by simp only [sp_copy, hn, if_neg hc, hs, if_true]) hS fun Q => ?_
          have q2 := fun Q => Lc_needFresh_no (X := X) (d := d + 7) (β := β) (M := M) (Q := Q) hW hL hS hnl hs
          rcases hk with rfl | rfl
          · simp (disch := omega) only [e_21, w_21_0, w_21_1, w_21_4, w_21_7, w_21_8, w_21_9, w_21_12, w_21_13, w_21_14, w_21_17, w_21_18, w_21_21, w_21_22, w_21_25, w_21_26, w_21_27, w_21_30, w_21_32, w_21_34, w_21_37, w_21_39, w_21_40, w_21_43, w_21_46, w_21_48, w_21_49, w_21_50, w_21_53, w_21_54, w_21_57, w_21_59, w_21_62, w_21_64, w_21_66, w_21_68, w_21_71, w_21_72, w_21_75, w_21_76, w_21_79, w_21_80, w_21_81, w_21_82, w_21_85, w_21_88, w_21_89, w_21_91, w_21_92, w_21_95, w_21_97, w_21_99, w_21_100, w_21_103, w_21_105, w_21_108, w_21_109, w_21_110, w_21_113, w_21_114, w_21_115, w_21_117, w_21_118, w_21_121, w_21_124, mm_k_none, mm_k_int, mm_k_ref, mm_k_null, mm_K_inl, mm_tl_some, mm_tl_none, mm_fg_ok, mm_rc_ok, mm_fp_ok, mm_ai_ok, mm_si_ok, mm_az_ok, mm_sz_ok, z01, z11, zb, b2i_t, b2i_f, true_and, and_true, c_g0, c_g1, c_g2, c_g3, c_g4, c_g5, c_g6, c_g7, c_g8, c_g9, c_g10, c_g11, c_g12, c_gl, c_o0, c_o1, c_o2, c_o3, c_ol, c_s0, c_s1, c_s2, c_s3, c_sl, Nat.zero_le, Nat.not_lt_zero, if_true, if_false, m1_lt, m1_ge, mm_inT, pk_mul, nI_add, mm_in_nI, mm_cl_nI, nI_eq, nI_ltI, nI_leI, ↓reduceIte, Nat.add_zero, Nat.reduceLeDiff, oI_some, oI_none, m1_lt, nI_lt0, Rf_fail_eq, Rf_out_eq, eq_self, not_true_eq_false, not_false_eq_true, Nat.reduceEqDiff, Nat.reduceLT, ne_eq, or_true, true_or, or_false, false_or, decide_true, decide_false, Bool.true_eq_false, Bool.false_eq_true, b2i_ne, mm_K_inr, mm_G_ok, c_skip, rf_n, rf_s, Lc_needTold_1, Lc_needTold_0, Lc_needTold_eq, Lc_needRoom_1, Lc_needRoom_0, Lc_needRoom_eq, Lc_needPlace_1, Lc_needPlace_0, Lc_needPlace_eq, Lc_needThere_1, Lc_needThere_0, Lc_needThere_eq, Lc_needSupported_1, Lc_needSupported_0, Lc_needSupported_eq, qb, Bool.not_true, Bool.not_false, c_obj_at hL, q1, q2]
            rfl
          · simp (disch := omega) only [e_21, w_21_0, w_21_1, w_21_4, w_21_7, w_21_8, w_21_9, w_21_12, w_21_13, w_21_14, w_21_17, w_21_18, w_21_21, w_21_22, w_21_25, w_21_26, w_21_27, w_21_30, w_21_32, w_21_34, w_21_37, w_21_39, w_21_40, w_21_43, w_21_46, w_21_48, w_21_49, w_21_50, w_21_53, w_21_54, w_21_57, w_21_59, w_21_62, w_21_64, w_21_66, w_21_68, w_21_71, w_21_72, w_21_75, w_21_76, w_21_79, w_21_80, w_21_81, w_21_82, w_21_85, w_21_88, w_21_89, w_21_91, w_21_92, w_21_95, w_21_97, w_21_99, w_21_100, w_21_103, w_21_105, w_21_108, w_21_109, w_21_110, w_21_113, w_21_114, w_21_115, w_21_117, w_21_118, w_21_121, w_21_124, mm_k_none, mm_k_int, mm_k_ref, mm_k_null, mm_K_inl, mm_tl_some, mm_tl_none, mm_fg_ok, mm_rc_ok, mm_fp_ok, mm_ai_ok, mm_si_ok, mm_az_ok, mm_sz_ok, z01, z11, zb, b2i_t, b2i_f, true_and, and_true, c_g0, c_g1, c_g2, c_g3, c_g4, c_g5, c_g6, c_g7, c_g8, c_g9, c_g10, c_g11, c_g12, c_gl, c_o0, c_o1, c_o2, c_o3, c_ol, c_s0, c_s1, c_s2, c_s3, c_sl, Nat.zero_le, Nat.not_lt_zero, if_true, if_false, m1_lt, m1_ge, mm_inT, pk_mul, nI_add, mm_in_nI, mm_cl_nI, nI_eq, nI_ltI, nI_leI, ↓reduceIte, Nat.add_zero, Nat.reduceLeDiff, oI_some, oI_none, m1_lt, nI_lt0, Rf_fail_eq, Rf_out_eq, eq_self, not_true_eq_false, not_false_eq_true, Nat.reduceEqDiff, Nat.reduceLT, ne_eq, or_true, true_or, or_false, false_or, decide_true, decide_false, Bool.true_eq_false, Bool.false_eq_true, b2i_ne, mm_K_inr, mm_G_ok, c_skip, rf_n, rf_s, Lc_needTold_1, Lc_needTold_0, Lc_needTold_eq, Lc_needRoom_1, Lc_needRoom_0, Lc_needRoom_eq, Lc_needPlace_1, Lc_needPlace_0, Lc_needPlace_eq, Lc_needThere_1, Lc_needThere_0, Lc_needThere_eq, Lc_needSupported_1, Lc_needSupported_0, Lc_needSupported_eq, qb, Bool.not_true, Bool.not_false, c_obj_at hL, q1, q2]
            rfl
        | false =>
          have q2 := fun Q => Lc_needFresh_ok (X := X) (d := d + 7) (β := β) (M := M) (Q := Q) hW hL hS hnl hs
          obtain ⟨β1, o1, s1, b1, q3⟩ := Lc_fill_d (X := X) (d := d + 2) (M := M) hW hL hS hnl hs (c := 2) (Or.inl rfl)
          have hobj := fun β => c_obj_at (β := β) (M := M) hL
          have reach : ∃ (k : Nat) (β2 : CS) (l3 l4 : Option Value), kind = nI k ∧ (k = 1 ∨ k = 2) ∧ StRel σ β2 ∧ bfAt β2 2 0 (cpl kind (El σ n)) ∧ ∀ Q, WPC X (d + 16) 21 [.ref (Λ.1 0 0), .int (nI t), .int kind, .int node] (mm_C Λ σ β M) Q = WP X (d + 16) 21 64 [some (.ref (Λ.1 0 0)), some (.int (nI t)), some (.int (nI k)), l3, l4, some (.int (nI (cpl kind (El σ n)).length)), none] [] (mm_C Λ σ β2 M) Q := by
            rcases hk with rfl | rfl
            · have e : cpl (nI 1) (El σ n) = El σ n := if_pos rfl
              rw [e]
              refine ⟨1, β1, some (.int node), some (.ref (Λ.1 4 n)), rfl, Or.inl rfl, s1, b1, fun Q => ?_⟩
              simp (disch := omega) only [e_21, w_21_0, w_21_1, w_21_4, w_21_7, w_21_8, w_21_9, w_21_12, w_21_13, w_21_14, w_21_17, w_21_18, w_21_21, w_21_22, w_21_25, w_21_26, w_21_27, w_21_30, w_21_32, w_21_34, w_21_37, w_21_39, w_21_40, w_21_43, w_21_46, w_21_48, w_21_49, w_21_50, w_21_53, w_21_54, w_21_57, w_21_59, w_21_62, w_21_66, w_21_68, w_21_71, w_21_72, w_21_75, w_21_76, w_21_79, w_21_80, w_21_81, w_21_82, w_21_85, w_21_88, w_21_89, w_21_91, w_21_92, w_21_95, w_21_97, w_21_99, w_21_100, w_21_103, w_21_105, w_21_108, w_21_109, w_21_110, w_21_113, w_21_114, w_21_115, w_21_117, w_21_118, w_21_121, w_21_124, mm_k_none, mm_k_int, mm_k_ref, mm_k_null, mm_K_inl, mm_tl_some, mm_tl_none, mm_fg_ok, mm_rc_ok, mm_fp_ok, mm_ai_ok, mm_si_ok, mm_az_ok, mm_sz_ok, z01, z11, zb, b2i_t, b2i_f, true_and, and_true, c_g0, c_g1, c_g2, c_g3, c_g4, c_g5, c_g6, c_g7, c_g8, c_g9, c_g10, c_g11, c_g12, c_gl, c_o0, c_o1, c_o2, c_o3, c_ol, c_s0, c_s1, c_s2, c_s3, c_sl, Nat.zero_le, Nat.not_lt_zero, if_true, if_false, m1_lt, m1_ge, mm_inT, pk_mul, nI_add, mm_in_nI, mm_cl_nI, nI_eq, nI_ltI, nI_leI, ↓reduceIte, Nat.add_zero, Nat.reduceLeDiff, oI_some, oI_none, m1_lt, nI_lt0, Rf_fail_eq, Rf_out_eq, eq_self, not_true_eq_false, not_false_eq_true, Nat.reduceEqDiff, Nat.reduceLT, ne_eq, or_true, true_or, or_false, false_or, decide_true, decide_false, Bool.true_eq_false, Bool.false_eq_true, b2i_ne, mm_K_inr, mm_G_ok, c_skip, rf_n, rf_s, Lc_needTold_1, Lc_needTold_0, Lc_needTold_eq, Lc_needRoom_1, Lc_needRoom_0, Lc_needRoom_eq, Lc_needPlace_1, Lc_needPlace_0, Lc_needPlace_eq, Lc_needThere_1, Lc_needThere_0, Lc_needThere_eq, Lc_needSupported_1, Lc_needSupported_0, Lc_needSupported_eq, qb, Bool.not_true, Bool.not_false, hobj, q1, q2, q3]
            · have e : cpl (nI 2) (El σ n) = srt (El σ n) := if_neg (by decide)
              rw [e]
              have hB : isB σ 2 0 := Or.inl ⟨Or.inl rfl, rfl⟩
              obtain ⟨f, fb, q4⟩ := Lc_sortOnce_eq (X := X) (d := d + 14) (M := M) hW hL hB b1 h72
              refine ⟨2, c_put β1 2 0 f, some (.int node), some (.ref (Λ.1 4 n)), rfl, Or.inr rfl, (oth.put (n := n)).st hB s1, fb, fun Q => ?_⟩
              simp (disch := omega) only [e_21, w_21_0, w_21_1, w_21_4, w_21_7, w_21_8, w_21_9, w_21_12, w_21_13, w_21_14, w_21_17, w_21_18, w_21_21, w_21_22, w_21_25, w_21_26, w_21_27, w_21_30, w_21_32, w_21_34, w_21_37, w_21_39, w_21_40, w_21_43, w_21_46, w_21_48, w_21_49, w_21_50, w_21_53, w_21_54, w_21_57, w_21_59, w_21_62, w_21_66, w_21_68, w_21_71, w_21_72, w_21_75, w_21_76, w_21_79, w_21_80, w_21_81, w_21_82, w_21_85, w_21_88, w_21_89, w_21_91, w_21_92, w_21_95, w_21_97, w_21_99, w_21_100, w_21_103, w_21_105, w_21_108, w_21_109, w_21_110, w_21_113, w_21_114, w_21_115, w_21_117, w_21_118, w_21_121, w_21_124, mm_k_none, mm_k_int, mm_k_ref, mm_k_null, mm_K_inl, mm_tl_some, mm_tl_none, mm_fg_ok, mm_rc_ok, mm_fp_ok, mm_ai_ok, mm_si_ok, mm_az_ok, mm_sz_ok, z01, z11, zb, b2i_t, b2i_f, true_and, and_true, c_g0, c_g1, c_g2, c_g3, c_g4, c_g5, c_g6, c_g7, c_g8, c_g9, c_g10, c_g11, c_g12, c_gl, c_o0, c_o1, c_o2, c_o3, c_ol, c_s0, c_s1, c_s2, c_s3, c_sl, Nat.zero_le, Nat.not_lt_zero, if_true, if_false, m1_lt, m1_ge, mm_inT, pk_mul, nI_add, mm_in_nI, mm_cl_nI, nI_eq, nI_ltI, nI_leI, ↓reduceIte, Nat.add_zero, Nat.reduceLeDiff, oI_some, oI_none, m1_lt, nI_lt0, Rf_fail_eq, Rf_out_eq, eq_self, not_true_eq_false, not_false_eq_true, Nat.reduceEqDiff, Nat.reduceLT, ne_eq, or_true, true_or, or_false, false_or, decide_true, decide_false, Bool.true_eq_false, Bool.false_eq_true, b2i_ne, mm_K_inr, mm_G_ok, c_skip, rf_n, rf_s, Lc_needTold_1, Lc_needTold_0, Lc_needTold_eq, Lc_needRoom_1, Lc_needRoom_0, Lc_needRoom_eq, Lc_needPlace_1, Lc_needPlace_0, Lc_needPlace_eq, Lc_needThere_1, Lc_needThere_0, Lc_needThere_eq, Lc_needSupported_1, Lc_needSupported_0, Lc_needSupported_eq, qb, Bool.not_true, Bool.not_false, hobj, q1, q2, q3, q4]
          obtain ⟨k, β2, l3, l4, rfl, hk2, s2, b2, q5⟩ := reach
          have hlen : (cpl (nI k) (El σ n)).length ≤ 72 := by
            unfold cpl
            split
            · exact h72
            · exact Nat.le_trans (srt_le _) h72
          obtain ⟨p1, p2⟩ := copy_end (X := X) (d := d) (M := M) (l3 := l3) (l4 := l4) hW hL hlt s2 ht hk2 b2 hlen
          have hkc : (nI k).toNatClampNeg = k := nI_clamp (by omega)
          by_cases hfull : 24 < (cpl (nI k) (El σ n)).length ∨ sN σ = 40
          · refine opC.no (β' := β2) 2 (by decide) ?_ s2 fun Q => (q5 Q).trans (p1 hfull Q)
            simp only [sp_copy, hn, if_neg hc, hs, Bool.false_eq_true, if_false]
            by_cases h24 : 24 < (cpl (nI k) (El σ n)).length
            · rw [if_pos h24]
            · rw [if_neg h24, crt, if_pos (Or.inl (hfull.resolve_left h24))]
          · obtain ⟨p3, p4⟩ := p2 hfull
            refine opC.made (k := k) (a := 5) (g := g5) (f := f5) (s := 4 + (24 + (24 + (1 + 13)))) (β1 := β2) hL hlt (gf5 (by rcases hk2 with rfl | rfl <;> rfl)) ?_ p3 (by decide) (by decide) fun Q => (q5 Q).trans (p4 Q)
            simp only [sp_copy, hn, if_neg hc, hs, Bool.false_eq_true, if_false]
            rw [if_neg (fun z => hfull (Or.inl z)), crt, if_neg (fun z => hfull (Or.inr (z.resolve_right (by decide)))), ht1, hkc]
    · have k1 : ¬ kind = nI 1 := fun z => hk (Or.inl z)
      have k2 : ¬ kind = nI 2 := fun z => hk (Or.inr z)
      refine opC.no (β' := β) 1 (by decide) (no1 (Or.inr (Or.inl hk))) hS fun Q => ?_
      simp (disch := omega) only [e_21, w_21_0, w_21_1, w_21_4, w_21_7, w_21_8, w_21_9, w_21_12, w_21_13, w_21_14, w_21_17, w_21_18, w_21_21, w_21_22, w_21_25, w_21_26, w_21_27, w_21_30, w_21_32, w_21_34, w_21_37, w_21_39, w_21_40, w_21_43, w_21_46, w_21_48, w_21_49, w_21_50, w_21_53, w_21_54, w_21_57, w_21_59, w_21_62, w_21_64, w_21_66, w_21_68, w_21_71, w_21_72, w_21_75, w_21_76, w_21_79, w_21_80, w_21_81, w_21_82, w_21_85, w_21_88, w_21_89, w_21_91, w_21_92, w_21_95, w_21_97, w_21_99, w_21_100, w_21_103, w_21_105, w_21_108, w_21_109, w_21_110, w_21_113, w_21_114, w_21_115, w_21_117, w_21_118, w_21_121, w_21_124, mm_k_none, mm_k_int, mm_k_ref, mm_k_null, mm_K_inl, mm_tl_some, mm_tl_none, mm_fg_ok, mm_rc_ok, mm_fp_ok, mm_ai_ok, mm_si_ok, mm_az_ok, mm_sz_ok, z01, z11, zb, b2i_t, b2i_f, true_and, and_true, c_g0, c_g1, c_g2, c_g3, c_g4, c_g5, c_g6, c_g7, c_g8, c_g9, c_g10, c_g11, c_g12, c_gl, c_o0, c_o1, c_o2, c_o3, c_ol, c_s0, c_s1, c_s2, c_s3, c_sl, Nat.zero_le, Nat.not_lt_zero, if_true, if_false, m1_lt, m1_ge, mm_inT, pk_mul, nI_add, mm_in_nI, mm_cl_nI, nI_eq, nI_ltI, nI_leI, ↓reduceIte, Nat.add_zero, Nat.reduceLeDiff, oI_some, oI_none, m1_lt, nI_lt0, Rf_fail_eq, Rf_out_eq, eq_self, not_true_eq_false, not_false_eq_true, Nat.reduceEqDiff, Nat.reduceLT, ne_eq, or_true, true_or, or_false, false_or, decide_true, decide_false, Bool.true_eq_false, Bool.false_eq_true, b2i_ne, mm_K_inr, mm_G_ok, c_skip, rf_n, rf_s, Lc_needTold_1, Lc_needTold_0, Lc_needTold_eq, Lc_needRoom_1, Lc_needRoom_0, Lc_needRoom_eq, Lc_needPlace_1, Lc_needPlace_0, Lc_needPlace_eq, Lc_needThere_1, Lc_needThere_0, Lc_needThere_eq, Lc_needSupported_1, Lc_needSupported_0, Lc_needSupported_eq, qb, Bool.not_true, Bool.not_false, k1, k2]
      rfl
end CL36
