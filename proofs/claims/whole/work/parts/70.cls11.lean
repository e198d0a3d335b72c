/-! the class: mean, hold -/
theorem lt_m1 {x : Int32} (h : (-1 : Int32) < x) (h2 : x < nI 0) : False := by
  have a : (-1 : Int32).toInt < x.toInt := Int32.lt_iff_toInt_lt.1 h
  have b : x.toInt < (nI 0).toInt := Int32.lt_iff_toInt_lt.1 h2
  have c : (-1 : Int32).toInt = -1 := by decide
  have e : (nI 0).toInt = 0 := by decide
  omega
section CL12
variable {X : Nat × Nat × (Nat → Int32)} {d T n c m : Nat} {Λ : Lay} {σ : Sg} {β : CS} {M : mm_M}
theorem Lc_mean_lp (hW : WF T σ) (hL : LK Λ σ) {L : List Int32} (hb : bfAt β 2 0 L) (h72 : L.length ≤ 72) (h0 : 0 < L.length) {l1 l2 : Option Value} {Q : mm_Out → mm_M → Prop} : ∀ (j k : Nat) (s : Int64), j + k = L.length → WP X d 60 37 [some (.ref (Λ.1 0 0)), l1, l2, some (.int (nI L.length)), some (.long s), none, some (.int (nI k))] [] (mm_C Λ σ β M) Q = Q (.inl (some (.double (FP.ddiv (FP.l2d ((L.drop k).foldl (fun s v => s + v.toInt64) s)) (FP.i2d (nI L.length)))))) (mm_C Λ σ β M) := by
  intro j
  induction j with
  | zero =>
    intro k s hk
    have e : L.length ≤ k := by omega
    rw [w_60_37, List.drop_eq_nil_of_le e]
    simp (disch := omega) only [w_60_0, w_60_1, w_60_2, w_60_5, w_60_6, w_60_7, w_60_10, w_60_11, w_60_12, w_60_15, w_60_18, w_60_19, w_60_20, w_60_23, w_60_24, w_60_27, w_60_28, w_60_31, w_60_32, w_60_34, w_60_35, w_60_39, w_60_40, w_60_43, w_60_45, w_60_46, w_60_49, w_60_51, w_60_52, w_60_53, w_60_54, w_60_56, w_60_59, w_60_62, w_60_64, w_60_65, w_60_66, w_60_67, w_60_68, mm_k_none, mm_k_int, mm_k_ref, mm_k_null, mm_K_inl, mm_tl_some, mm_tl_none, mm_fg_ok, mm_rc_ok, mm_fp_ok, mm_ai_ok, mm_si_ok, mm_az_ok, mm_sz_ok, z01, z11, zb, b2i_t, b2i_f, true_and, and_true, Nat.zero_le, Nat.not_lt_zero, if_true, if_false, m1_lt, m1_ge, mm_inT, pk_mul, nI_add, mm_in_nI, mm_cl_nI, nI_eq, nI_ltI, nI_leI, ↓reduceIte, Nat.add_zero, Nat.reduceLeDiff, oI_some, oI_none, m1_lt, nI_lt0, Rf_fail_eq, Rf_out_eq, eq_self, not_true_eq_false, not_false_eq_true, Nat.reduceEqDiff, Nat.reduceLT, ne_eq, or_true, true_or, or_false, false_or, decide_true, decide_false, Bool.true_eq_false, Bool.false_eq_true, b2i_ne, e, dd_ok, List.foldl_nil]
  | succ j ih =>
    intro k s hk
    have e : ¬ L.length ≤ k := by omega
    have hkl : k < L.length := by omega
    have hd : L.drop k = L[k] :: L.drop (k + 1) := List.drop_eq_getElem_cons hkl
    rw [w_60_37, hd, List.foldl_cons]
    refine Eq.trans ?_ (ih (k + 1) (s + L[k].toInt64) (by omega))
    simp (disch := omega) only [w_60_0, w_60_1, w_60_2, w_60_5, w_60_6, w_60_7, w_60_10, w_60_11, w_60_12, w_60_15, w_60_18, w_60_19, w_60_20, w_60_23, w_60_24, w_60_27, w_60_28, w_60_31, w_60_32, w_60_34, w_60_35, w_60_39, w_60_40, w_60_43, w_60_45, w_60_46, w_60_49, w_60_51, w_60_52, w_60_53, w_60_54, w_60_56, w_60_59, w_60_62, w_60_64, w_60_65, w_60_66, w_60_67, w_60_68, mm_k_none, mm_k_int, mm_k_ref, mm_k_null, mm_K_inl, mm_tl_some, mm_tl_none, mm_fg_ok, mm_rc_ok, mm_fp_ok, mm_ai_ok, mm_si_ok, mm_az_ok, mm_sz_ok, z01, z11, zb, b2i_t, b2i_f, true_and, and_true, c_g0, c_g1, c_g2, c_g3, c_g4, c_g5, c_g6, c_g7, c_g8, c_g9, c_g10, c_g11, c_g12, c_gl, c_o0, c_o1, c_o2, c_o3, c_ol, c_s0, c_s1, c_s2, c_s3, c_sl, Nat.zero_le, Nat.not_lt_zero, if_true, if_false, m1_lt, m1_ge, mm_inT, pk_mul, nI_add, mm_in_nI, mm_cl_nI, nI_eq, nI_ltI, nI_leI, ↓reduceIte, Nat.add_zero, Nat.reduceLeDiff, oI_some, oI_none, m1_lt, nI_lt0, Rf_fail_eq, Rf_out_eq, eq_self, not_true_eq_false, not_false_eq_true, Nat.reduceEqDiff, Nat.reduceLT, ne_eq, or_true, true_or, or_false, false_or, decide_true, decide_false, Bool.true_eq_false, Bool.false_eq_true, b2i_ne, e, c_obj_at hL, c_row_at hL (Or.inl rfl), hb k hkl]
theorem opC_mean (hW : WF T σ) (hL : LK Λ σ) (hS : StRel σ β) {h : Int32} : ((sp_mean σ h).1 = 0 → ∃ β', StRel σ β' ∧ ∀ Q, WPC X (d + 16) 60 [.ref (Λ.1 0 0), .int h] (mm_C Λ σ β M) Q = Q (.inl (some (.double (sp_mean σ h).2))) (mm_C Λ σ β' M)) ∧ ((sp_mean σ h).1 ≠ 0 → noC X (d + 16) Λ σ β M 60 [.int h] (exF (sp_mean σ h).1)) := by
  cases hn : ndo σ h with
  | none =>
    have e : sp_mean σ h = (1, FP.i2d (nI 0)) := by simp only [sp_mean, hn]
    rw [e]
    refine ⟨fun z => absurd z (by decide), fun _ => ⟨β, hS, fun Q => ?_⟩⟩
    have q1 := fun Q => Lc_nodeIn_no (X := X) (d := d + 8) (β := β) (M := M) (Q := Q) hL hn
    simp (disch := omega) only [e_60, w_60_0, w_60_1, w_60_2, w_60_5, w_60_6, w_60_7, w_60_10, w_60_11, w_60_12, w_60_15, w_60_18, w_60_19, w_60_20, w_60_23, w_60_24, w_60_27, w_60_28, w_60_31, w_60_32, w_60_34, w_60_35, w_60_39, w_60_40, w_60_43, w_60_45, w_60_46, w_60_49, w_60_51, w_60_52, w_60_53, w_60_54, w_60_56, w_60_59, w_60_62, w_60_64, w_60_65, w_60_66, w_60_67, w_60_68, mm_k_none, mm_k_int, mm_k_ref, mm_k_null, mm_K_inl, mm_tl_some, mm_tl_none, mm_fg_ok, mm_rc_ok, mm_fp_ok, mm_ai_ok, mm_si_ok, mm_az_ok, mm_sz_ok, z01, z11, zb, b2i_t, b2i_f, true_and, and_true, c_g0, c_g1, c_g2, c_g3, c_g4, c_g5, c_g6, c_g7, c_g8, c_g9, c_g10, c_g11, c_g12, c_gl, c_o0, c_o1, c_o2, c_o3, c_ol, c_s0, c_s1, c_s2, c_s3, c_sl, Nat.zero_le, Nat.not_lt_zero, if_true, if_false, m1_lt, m1_ge, mm_inT, pk_mul, nI_add, mm_in_nI, mm_cl_nI, nI_eq, nI_ltI, nI_leI, ↓reduceIte, Nat.add_zero, Nat.reduceLeDiff, oI_some, oI_none, m1_lt, nI_lt0, Rf_fail_eq, Rf_out_eq, eq_self, not_true_eq_false, not_false_eq_true, Nat.reduceEqDiff, Nat.reduceLT, ne_eq, or_true, true_or, or_false, false_or, decide_true, decide_false, Bool.true_eq_false, Bool.false_eq_true, b2i_ne, mm_K_inr, mm_G_ok, c_skip, rf_n, rf_s, c_obj_at hL, q1]
    rfl
  | some n =>
    have hlt := ndo_lt hW hn
    have h72 := El_72 hW hlt
    have q1 := fun Q => Lc_nodeIn_ok (X := X) (d := d + 8) (β := β) (M := M) (Q := Q) hL hn
    cases hs : stale σ n with
    | true =>
      have e : sp_mean σ h = (2, FP.i2d (nI 0)) := by simp only [sp_mean, hn, hs, if_true]
      rw [e]
      refine ⟨fun z => absurd z (by decide), fun _ => ⟨β, hS, fun Q => ?_⟩⟩
      have q2 := fun Q => Lc_needFresh_no (X := X) (d := d + 7) (β := β) (M := M) (Q := Q) hW hL hS hlt hs
      simp (disch := omega) only [e_60, w_60_0, w_60_1, w_60_2, w_60_5, w_60_6, w_60_7, w_60_10, w_60_11, w_60_12, w_60_15, w_60_18, w_60_19, w_60_20, w_60_23, w_60_24, w_60_27, w_60_28, w_60_31, w_60_32, w_60_34, w_60_35, w_60_39, w_60_40, w_60_43, w_60_45, w_60_46, w_60_49, w_60_51, w_60_52, w_60_53, w_60_54, w_60_56, w_60_59, w_60_62, w_60_64, w_60_65, w_60_66, w_60_67, w_60_68, mm_k_none, mm_k_int, mm_k_ref, mm_k_null, mm_K_inl, mm_tl_some, mm_tl_none, mm_fg_ok, mm_rc_ok, mm_fp_ok, mm_ai_ok, mm_si_ok, mm_az_ok, mm_sz_ok, z01, z11, zb, b2i_t, b2i_f, true_and, and_true, c_g0, c_g1, c_g2, c_g3, c_g4, c_g5, c_g6, c_g7, c_g8, c_g9, c_g10, c_g11, c_g12, c_gl, c_o0, c_o1, c_o2, c_o3, c_ol, c_s0, c_s1, c_s2, c_s3, c_sl, Nat.zero_le, Nat.not_lt_zero, if_true, if_false, m1_lt, m1_ge, mm_inT, pk_mul, nI_add, mm_in_nI, mm_cl_nI, nI_eq, nI_ltI, nI_leI, ↓reduceIte, Nat.add_zero, Nat.reduceLeDiff, oI_some, oI_none, m1_lt, nI_lt0, Rf_fail_eq, Rf_out_eq, eq_self, not_true_eq_false, not_false_eq_true, Nat.reduceEqDiff, Nat.reduceLT, ne_eq, or_true, true_or, or_false, false_or, decide_true, decide_false, Bool.true_eq_false, Bool.false_eq_true, b2i_ne, mm_K_inr, mm_G_ok, c_skip, rf_n, rf_s, c_obj_at hL, q1, q2]
      rfl
    | false =>
      obtain ⟨β', o1, s1, f1, q3⟩ := Lc_fill_d (X := X) (d := d + 2) (M := M) hW hL hS hlt hs (c := 2) (Or.inl rfl)
      have q2 := fun Q => Lc_needFresh_ok (X := X) (d := d + 7) (β := β) (M := M) (Q := Q) hW hL hS hlt hs
      by_cases hz : (El σ n).length = 0
      · have e : sp_mean σ h = (3, FP.i2d (nI 0)) := by simp only [sp_mean, hn, hs, Bool.false_eq_true, if_false, if_pos hz]
        rw [e]
        refine ⟨fun z => absurd z (by decide), fun _ => ⟨β', s1, fun Q => ?_⟩⟩
        simp (disch := omega) only [e_60, w_60_0, w_60_1, w_60_2, w_60_5, w_60_6, w_60_7, w_60_10, w_60_11, w_60_12, w_60_15, w_60_18, w_60_19, w_60_20, w_60_23, w_60_24, w_60_27, w_60_28, w_60_31, w_60_32, w_60_34, w_60_35, w_60_39, w_60_40, w_60_43, w_60_45, w_60_46, w_60_49, w_60_51, w_60_52, w_60_53, w_60_54, w_60_56, w_60_59, w_60_62, w_60_64, w_60_65, w_60_66, w_60_67, w_60_68, mm_k_none, mm_k_int, mm_k_ref, mm_k_null, mm_K_inl, mm_tl_some, mm_tl_none, mm_fg_ok, mm_rc_ok, mm_fp_ok, mm_ai_ok, mm_si_ok, mm_az_ok, mm_sz_ok, z01, z11, zb, b2i_t, b2i_f, true_and, and_true, c_g0, c_g1, c_g2, c_g3, c_g4, c_g5, c_g6, c_g7, c_g8, c_g9, c_g10, c_g11, c_g12, c_gl, c_o0, c_o1, c_o2, c_o3, c_ol, c_s0, c_s1, c_s2, c_s3, c_sl, Nat.zero_le, Nat.not_lt_zero, if_true, if_false, m1_lt, m1_ge, mm_inT, pk_mul, nI_add, mm_in_nI, mm_cl_nI, nI_eq, nI_ltI, nI_leI, ↓reduceIte, Nat.add_zero, Nat.reduceLeDiff, oI_some, oI_none, m1_lt, nI_lt0, Rf_fail_eq, Rf_out_eq, eq_self, not_true_eq_false, not_false_eq_true, Nat.reduceEqDiff, Nat.reduceLT, ne_eq, or_true, true_or, or_false, false_or, decide_true, decide_false, Bool.true_eq_false, Bool.false_eq_true, b2i_ne, mm_K_inr, mm_G_ok, c_skip, rf_n, rf_s, Lc_needTold_1, Lc_needTold_0, Lc_needTold_eq, Lc_needRoom_1, Lc_needRoom_0, Lc_needRoom_eq, Lc_needPlace_1, Lc_needPlace_0, Lc_needPlace_eq, Lc_needThere_1, Lc_needThere_0, Lc_needThere_eq, Lc_needSupported_1, Lc_needSupported_0, Lc_needSupported_eq, c_obj_at hL, q1, q2, q3, hz, Nat.le_refl]
        rfl
      · have e : sp_mean σ h = (0, avg (El σ n)) := by simp only [sp_mean, hn, hs, Bool.false_eq_true, if_false, if_neg hz]
        rw [e]
        refine ⟨fun _ => ⟨β', s1, fun Q => ?_⟩, fun z => absurd rfl z⟩
        have g : ¬ (El σ n).length ≤ 0 := by omega
        have q4 := fun Q l1 l2 => Lc_mean_lp (X := X) (d := d + 16) (M := M) (Q := Q) (l1 := l1) (l2 := l2) hW hL f1 h72 (by omega) (El σ n).length 0 0 (by omega)
        simp (disch := omega) only [e_60, w_60_0, w_60_1, w_60_2, w_60_5, w_60_6, w_60_7, w_60_10, w_60_11, w_60_12, w_60_15, w_60_18, w_60_19, w_60_20, w_60_23, w_60_24, w_60_27, w_60_28, w_60_31, w_60_32, w_60_34, w_60_35, w_60_39, w_60_40, w_60_43, w_60_45, w_60_46, w_60_49, w_60_51, w_60_52, w_60_53, w_60_54, w_60_56, w_60_59, w_60_62, w_60_64, w_60_65, w_60_66, w_60_67, w_60_68, mm_k_none, mm_k_int, mm_k_ref, mm_k_null, mm_K_inl, mm_tl_some, mm_tl_none, mm_fg_ok, mm_rc_ok, mm_fp_ok, mm_ai_ok, mm_si_ok, mm_az_ok, mm_sz_ok, z01, z11, zb, b2i_t, b2i_f, true_and, and_true, c_g0, c_g1, c_g2, c_g3, c_g4, c_g5, c_g6, c_g7, c_g8, c_g9, c_g10, c_g11, c_g12, c_gl, c_o0, c_o1, c_o2, c_o3, c_ol, c_s0, c_s1, c_s2, c_s3, c_sl, Nat.zero_le, Nat.not_lt_zero, if_true, if_false, m1_lt, m1_ge, mm_inT, pk_mul, nI_add, mm_in_nI, mm_cl_nI, nI_eq, nI_ltI, nI_leI, ↓reduceIte, Nat.add_zero, Nat.reduceLeDiff, oI_some, oI_none, m1_lt, nI_lt0, Rf_fail_eq, Rf_out_eq, eq_self, not_true_eq_false, not_false_eq_true, Nat.reduceEqDiff, Nat.reduceLT, ne_eq, or_true, true_or, or_false, false_or, decide_true, decide_false, Bool.true_eq_false, Bool.false_eq_true, b2i_ne, mm_K_inr, mm_G_ok, c_skip, rf_n, rf_s, Lc_needTold_1, Lc_needTold_0, Lc_needTold_eq, Lc_needRoom_1, Lc_needRoom_0, Lc_needRoom_eq, Lc_needPlace_1, Lc_needPlace_0, Lc_needPlace_eq, Lc_needThere_1, Lc_needThere_0, Lc_needThere_eq, Lc_needSupported_1, Lc_needSupported_0, Lc_needSupported_eq, c_obj_at hL, q1, q2, q3, g]
        rw [q4, List.drop_zero]
        rfl
theorem set_hand (hL : LK Λ σ) {t : Nat} (ht : t < 10) {o : Option Nat} : mm_set (mm_C Λ σ β M) (Λ.1 1 0) (.inl (2, 10, .inr (.inr (.inr (.inr (va_up (c_hand Λ σ) t (o.map (Λ.1 4)))))))) = mm_C Λ (setH σ t o) β M := by
  refine c_setT hL (hL.2.1 1 (by decide)) ?_ fun c' n' h4 hne => ?_
  · have e : c_hand Λ (setH σ t o) = va_up (c_hand Λ σ) t (o.map (Λ.1 4)) := by
      funext q
      show (if q < 10 then (ud (sH σ) t o q).map (Λ.1 4) else none) = if q = t then o.map (Λ.1 4) else (if q < 10 then (sH σ q).map (Λ.1 4) else none)
      by_cases z : q = t
      · rw [if_pos z, z, ud_at, if_pos ht]
      · rw [if_neg z, ud_ne z]
    show (.inl (2, 10, .inr (.inr (.inr (.inr (c_hand Λ (setH σ t o)))))) : mm_O) = _
    rw [e]
  · have hc : c' ≠ 1 := by
      intro z
      subst z
      exact hne (by rw [h4 (by decide)])
    unfold c_cell
    rw [if_neg hc, if_neg hc]
    rfl
theorem opC_hold (hW : WF T σ) (hL : LK Λ σ) (hS : StRel σ β) {to src : Int32} : opC X (d + 16) Λ σ β M 43 [.int to, .int src] (sp_hold σ to src) exA := by
  have qh := fun h Q => Lc_isHandle_eq (X := X) (d := d + 15) (M := mm_C Λ σ β M) (Q := Q) (h := h)
  rcases bad_cases to with h1 | ⟨h1, t, ht, rfl⟩
  · have qb := qh to
    rw [h1] at qb
    refine opC.no (β' := β) 1 (by decide) (by simp only [sp_hold, h1, true_or, if_true]) hS fun Q => ?_
    simp (disch := omega) only [e_43, w_43_0, w_43_1, w_43_4, w_43_7, w_43_8, w_43_9, w_43_12, w_43_13, w_43_16, w_43_19, w_43_20, w_43_23, w_43_24, w_43_27, w_43_28, w_43_31, w_43_32, w_43_33, w_43_34, w_43_37, w_43_38, w_43_41, w_43_42, w_43_45, w_43_46, w_43_47, w_43_47n, w_43_48, w_43_49, w_43_52, w_43_53, w_43_54, w_43_54n, w_43_57, w_43_58, w_43_61, w_43_62, w_43_65, w_43_66, w_43_67, w_43_70, mm_k_none, mm_k_int, mm_k_ref, mm_k_null, mm_K_inl, mm_tl_some, mm_tl_none, mm_fg_ok, mm_rc_ok, mm_fp_ok, mm_ai_ok, mm_si_ok, mm_az_ok, mm_sz_ok, z01, z11, zb, b2i_t, b2i_f, true_and, and_true, c_g0, c_g1, c_g2, c_g3, c_g4, c_g5, c_g6, c_g7, c_g8, c_g9, c_g10, c_g11, c_g12, c_gl, c_o0, c_o1, c_o2, c_o3, c_ol, c_s0, c_s1, c_s2, c_s3, c_sl, Nat.zero_le, Nat.not_lt_zero, if_true, if_false, m1_lt, m1_ge, mm_inT, pk_mul, nI_add, mm_in_nI, mm_cl_nI, nI_eq, nI_ltI, nI_leI, ↓reduceIte, Nat.add_zero, Nat.reduceLeDiff, oI_some, oI_none, m1_lt, nI_lt0, Rf_fail_eq, Rf_out_eq, eq_self, not_true_eq_false, not_false_eq_true, Nat.reduceEqDiff, Nat.reduceLT, ne_eq, or_true, true_or, or_false, false_or, decide_true, decide_false, Bool.true_eq_false, Bool.false_eq_true, b2i_ne, mm_K_inr, mm_G_ok, c_skip, rf_n, rf_s, Lc_needTold_1, Lc_needTold_0, Lc_needTold_eq, Lc_needRoom_1, Lc_needRoom_0, Lc_needRoom_eq, Lc_needPlace_1, Lc_needPlace_0, Lc_needPlace_eq, Lc_needThere_1, Lc_needThere_0, Lc_needThere_eq, Lc_needSupported_1, Lc_needSupported_0, Lc_needSupported_eq, qb, Bool.not_true, Bool.not_false]
    rfl
  · have ht1 : (nI t).toNatClampNeg = t := nI_clamp (by omega)
    have qb := qh (nI t)
    rw [h1] at qb
    by_cases hm1 : src = -1
    · subst hm1
      have hc : ¬ (bad (nI t) = true ∨ (-1 : Int32) < -1 ∨ ¬ (-1 : Int32) ≤ nI 9) := by
        rintro (z | z | z)
        · rw [h1] at z; cases z
        · exact absurd z (by decide)
        · exact z (by decide)
      have hn : ndo σ (-1) = none := rfl
      have esp : sp_hold σ (nI t) (-1) = (0, -1, setH σ t none) := by simp only [sp_hold, if_neg hc, hn, ht1]
      rw [esp]
      refine ⟨fun _ => ⟨Λ, β, 0, 0, hL, hS, rfl, fun q t h => Or.inl h, by omega, by omega, fun Q => ?_⟩, fun z => absurd rfl z⟩
      have e2 : c_hand Λ (setH σ t none) t = none := by
        show (if t < 10 then (ud (sH σ) t none t).map (Λ.1 4) else none) = none
        rw [if_pos ht, ud_at]; rfl
      have sh := set_hand (β := β) (M := M) hL ht (o := none)
      simp only [Option.map_none] at sh
      have hL2 : LK Λ (setH σ t none) := hL
      simp (disch := omega) only [e_43, w_43_0, w_43_1, w_43_4, w_43_7, w_43_8, w_43_9, w_43_12, w_43_13, w_43_16, w_43_19, w_43_20, w_43_23, w_43_24, w_43_27, w_43_28, w_43_31, w_43_32, w_43_33, w_43_34, w_43_37, w_43_38, w_43_41, w_43_42, w_43_45, w_43_46, w_43_47, w_43_47n, w_43_48, w_43_49, w_43_52, w_43_53, w_43_54, w_43_54n, w_43_57, w_43_58, w_43_61, w_43_62, w_43_65, w_43_66, w_43_67, w_43_70, mm_k_none, mm_k_int, mm_k_ref, mm_k_null, mm_K_inl, mm_tl_some, mm_tl_none, mm_fg_ok, mm_rc_ok, mm_fp_ok, mm_ai_ok, mm_si_ok, mm_az_ok, mm_sz_ok, z01, z11, zb, b2i_t, b2i_f, true_and, and_true, c_g0, c_g1, c_g2, c_g3, c_g4, c_g5, c_g6, c_g7, c_g8, c_g9, c_g10, c_g11, c_g12, c_gl, c_o0, c_o1, c_o2, c_o3, c_ol, c_s0, c_s1, c_s2, c_s3, c_sl, Nat.zero_le, Nat.not_lt_zero, if_true, if_false, m1_lt, m1_ge, mm_inT, pk_mul, nI_add, mm_in_nI, mm_cl_nI, nI_eq, nI_ltI, nI_leI, ↓reduceIte, Nat.add_zero, Nat.reduceLeDiff, oI_some, oI_none, m1_lt, nI_lt0, Rf_fail_eq, Rf_out_eq, eq_self, not_true_eq_false, not_false_eq_true, Nat.reduceEqDiff, Nat.reduceLT, ne_eq, or_true, true_or, or_false, false_or, decide_true, decide_false, Bool.true_eq_false, Bool.false_eq_true, b2i_ne, mm_K_inr, mm_G_ok, c_skip, rf_n, rf_s, Lc_needTold_1, Lc_needTold_0, Lc_needTold_eq, Lc_needRoom_1, Lc_needRoom_0, Lc_needRoom_eq, Lc_needPlace_1, Lc_needPlace_0, Lc_needPlace_eq, Lc_needThere_1, Lc_needThere_0, Lc_needThere_eq, Lc_needSupported_1, Lc_needSupported_0, Lc_needSupported_eq, qb, Bool.not_true, Bool.not_false, c_obj_at hL, c_held_at hL, mm_sn_ok, sh, c_obj_at hL2, c_held_at hL2, mm_aa_ok, e2]
    · have qs := qh src
      cases hb2 : bad src with
      | true =>
        have hc : bad (nI t) = true ∨ src < -1 ∨ ¬ src ≤ nI 9 := by
          right
          simp only [bad, decide_eq_true_eq] at hb2
          rcases hb2 with z | z
          · left
            exact (Int32.lt_or_lt_of_ne hm1).elim id (fun y => (lt_m1 y z).elim)
          · right
            intro y
            exact z (Int32.lt_of_le_of_lt y (by decide))
        rw [hb2] at qs
        refine opC.no (β' := β) 1 (by decide) (by simp only [sp_hold, if_pos hc]) hS fun Q => ?_
        simp (disch := omega) only [e_43, w_43_0, w_43_1, w_43_4, w_43_7, w_43_8, w_43_9, w_43_12, w_43_13, w_43_16, w_43_19, w_43_20, w_43_23, w_43_24, w_43_27, w_43_28, w_43_31, w_43_32, w_43_33, w_43_34, w_43_37, w_43_38, w_43_41, w_43_42, w_43_45, w_43_46, w_43_47, w_43_47n, w_43_48, w_43_49, w_43_52, w_43_53, w_43_54, w_43_54n, w_43_57, w_43_58, w_43_61, w_43_62, w_43_65, w_43_66, w_43_67, w_43_70, mm_k_none, mm_k_int, mm_k_ref, mm_k_null, mm_K_inl, mm_tl_some, mm_tl_none, mm_fg_ok, mm_rc_ok, mm_fp_ok, mm_ai_ok, mm_si_ok, mm_az_ok, mm_sz_ok, z01, z11, zb, b2i_t, b2i_f, true_and, and_true, c_g0, c_g1, c_g2, c_g3, c_g4, c_g5, c_g6, c_g7, c_g8, c_g9, c_g10, c_g11, c_g12, c_gl, c_o0, c_o1, c_o2, c_o3, c_ol, c_s0, c_s1, c_s2, c_s3, c_sl, Nat.zero_le, Nat.not_lt_zero, if_true, if_false, m1_lt, m1_ge, mm_inT, pk_mul, nI_add, mm_in_nI, mm_cl_nI, nI_eq, nI_ltI, nI_leI, ↓reduceIte, Nat.add_zero, Nat.reduceLeDiff, oI_some, oI_none, m1_lt, nI_lt0, Rf_fail_eq, Rf_out_eq, eq_self, not_true_eq_false, not_false_eq_true, Nat.reduceEqDiff, Nat.reduceLT, ne_eq, or_true, true_or, or_false, false_or, decide_true, decide_false, Bool.true_eq_false, Bool.false_eq_true, b2i_ne, mm_K_inr, mm_G_ok, c_skip, rf_n, rf_s, Lc_needTold_1, Lc_needTold_0, Lc_needTold_eq, Lc_needRoom_1, Lc_needRoom_0, Lc_needRoom_eq, Lc_needPlace_1, Lc_needPlace_0, Lc_needPlace_eq, Lc_needThere_1, Lc_needThere_0, Lc_needThere_eq, Lc_needSupported_1, Lc_needSupported_0, Lc_needSupported_eq, qb, qs, Bool.not_true, Bool.not_false, hm1]
        rfl
      | false =>
        rw [hb2] at qs
        rcases bad_cases src with z | ⟨-, s, hs, rfl⟩
        · rw [z] at hb2; cases hb2
        · have hc : ¬ (bad (nI t) = true ∨ nI s < -1 ∨ ¬ nI s ≤ nI 9) := by
            rintro (z | z | z)
            · rw [h1] at z; cases z
            · exact nI_lt00 (show s < 2147483648 by omega) (Int32.lt_trans z (by decide))
            · exact z (nI_le (by omega) (by decide))
          have hn : ndo σ (nI s) = sH σ s := by
            rcases ndo_cases σ (nI s) with ⟨g1, g2⟩ | ⟨g1, j, hj, e, g2⟩
            · rw [hb2] at g1; cases g1
            · rw [g2, (nI_eq (show s < 2 ^ 31 by omega) (by omega)).1 e]
          cases hh : sH σ s with
          | none =>
            have esp : sp_hold σ (nI t) (nI s) = (0, -1, setH σ t none) := by simp only [sp_hold, if_neg hc, hn, hh, ht1]
            rw [esp]
            refine ⟨fun _ => ⟨Λ, β, 0, 0, hL, hS, rfl, fun q t h => Or.inl h, by omega, by omega, fun Q => ?_⟩, fun z => absurd rfl z⟩
            have e2 : c_hand Λ (setH σ t none) t = none := by
              show (if t < 10 then (ud (sH σ) t none t).map (Λ.1 4) else none) = none
              rw [if_pos ht, ud_at]; rfl
            have e3 : c_hand Λ σ s = none := by unfold c_hand; rw [if_pos hs, hh]; rfl
            have sh := set_hand (β := β) (M := M) hL ht (o := none)
            simp only [Option.map_none] at sh
            have hL2 : LK Λ (setH σ t none) := hL
            simp (disch := omega) only [e_43, w_43_0, w_43_1, w_43_4, w_43_7, w_43_8, w_43_9, w_43_12, w_43_13, w_43_16, w_43_19, w_43_20, w_43_23, w_43_24, w_43_27, w_43_28, w_43_31, w_43_32, w_43_33, w_43_34, w_43_37, w_43_38, w_43_41, w_43_42, w_43_45, w_43_46, w_43_47, w_43_47n, w_43_48, w_43_49, w_43_52, w_43_53, w_43_54, w_43_54n, w_43_57, w_43_58, w_43_61, w_43_62, w_43_65, w_43_66, w_43_67, w_43_70, mm_k_none, mm_k_int, mm_k_ref, mm_k_null, mm_K_inl, mm_tl_some, mm_tl_none, mm_fg_ok, mm_rc_ok, mm_fp_ok, mm_ai_ok, mm_si_ok, mm_az_ok, mm_sz_ok, z01, z11, zb, b2i_t, b2i_f, true_and, and_true, c_g0, c_g1, c_g2, c_g3, c_g4, c_g5, c_g6, c_g7, c_g8, c_g9, c_g10, c_g11, c_g12, c_gl, c_o0, c_o1, c_o2, c_o3, c_ol, c_s0, c_s1, c_s2, c_s3, c_sl, Nat.zero_le, Nat.not_lt_zero, if_true, if_false, m1_lt, m1_ge, mm_inT, pk_mul, nI_add, mm_in_nI, mm_cl_nI, nI_eq, nI_ltI, nI_leI, ↓reduceIte, Nat.add_zero, Nat.reduceLeDiff, oI_some, oI_none, m1_lt, nI_lt0, Rf_fail_eq, Rf_out_eq, eq_self, not_true_eq_false, not_false_eq_true, Nat.reduceEqDiff, Nat.reduceLT, ne_eq, or_true, true_or, or_false, false_or, decide_true, decide_false, Bool.true_eq_false, Bool.false_eq_true, b2i_ne, mm_K_inr, mm_G_ok, c_skip, rf_n, rf_s, Lc_needTold_1, Lc_needTold_0, Lc_needTold_eq, Lc_needRoom_1, Lc_needRoom_0, Lc_needRoom_eq, Lc_needPlace_1, Lc_needPlace_0, Lc_needPlace_eq, Lc_needThere_1, Lc_needThere_0, Lc_needThere_eq, Lc_needSupported_1, Lc_needSupported_0, Lc_needSupported_eq, qb, qs, Bool.not_true, Bool.not_false, hm1, c_obj_at hL, c_held_at hL, mm_aa_ok, e3, mm_sn_ok, sh, c_obj_at hL2, c_held_at hL2, e2]
          | some n =>
            have hlt := hW.2.2.1 s n hs hh
            have h12 := hW.k12 hlt
            have esp : sp_hold σ (nI t) (nI s) = (0, nI (sK σ n), setH σ t (some n)) := by simp only [sp_hold, if_neg hc, hn, hh, ht1]
            rw [esp]
            refine ⟨fun _ => ⟨Λ, β, 0, 0, hL, hS, rfl, fun q t h => Or.inl h, by omega, by omega, fun Q => ?_⟩, fun z => absurd rfl z⟩
            have e2 : c_hand Λ (setH σ t (some n)) t = some (Λ.1 4 n) := by
              show (if t < 10 then (ud (sH σ) t (some n) t).map (Λ.1 4) else none) = some (Λ.1 4 n)
              rw [if_pos ht, ud_at]; rfl
            have e3 : c_hand Λ σ s = some (Λ.1 4 n) := by unfold c_hand; rw [if_pos hs, hh]; rfl
            have sh := set_hand (β := β) (M := M) hL ht (o := some n)
            simp only [Option.map_some] at sh
            have hL2 : LK Λ (setH σ t (some n)) := hL
            have hn2 := c_node_at (M := M) (β := β) hL2 (show n < sN (setH σ t (some n)) from hlt)
            have hn1 := c_node_at (M := M) (β := β) hL hlt
            simp (disch := omega) only [e_43, w_43_0, w_43_1, w_43_4, w_43_7, w_43_8, w_43_9, w_43_12, w_43_13, w_43_16, w_43_19, w_43_20, w_43_23, w_43_24, w_43_27, w_43_28, w_43_31, w_43_32, w_43_33, w_43_34, w_43_37, w_43_38, w_43_41, w_43_42, w_43_45, w_43_46, w_43_47, w_43_47n, w_43_48, w_43_49, w_43_52, w_43_53, w_43_54, w_43_54n, w_43_57, w_43_58, w_43_61, w_43_62, w_43_65, w_43_66, w_43_67, w_43_70, mm_k_none, mm_k_int, mm_k_ref, mm_k_null, mm_K_inl, mm_tl_some, mm_tl_none, mm_fg_ok, mm_rc_ok, mm_fp_ok, mm_ai_ok, mm_si_ok, mm_az_ok, mm_sz_ok, z01, z11, zb, b2i_t, b2i_f, true_and, and_true, c_g0, c_g1, c_g2, c_g3, c_g4, c_g5, c_g6, c_g7, c_g8, c_g9, c_g10, c_g11, c_g12, c_gl, c_o0, c_o1, c_o2, c_o3, c_ol, c_s0, c_s1, c_s2, c_s3, c_sl, Nat.zero_le, Nat.not_lt_zero, if_true, if_false, m1_lt, m1_ge, mm_inT, pk_mul, nI_add, mm_in_nI, mm_cl_nI, nI_eq, nI_ltI, nI_leI, ↓reduceIte, Nat.add_zero, Nat.reduceLeDiff, oI_some, oI_none, m1_lt, nI_lt0, Rf_fail_eq, Rf_out_eq, eq_self, not_true_eq_false, not_false_eq_true, Nat.reduceEqDiff, Nat.reduceLT, ne_eq, or_true, true_or, or_false, false_or, decide_true, decide_false, Bool.true_eq_false, Bool.false_eq_true, b2i_ne, mm_K_inr, mm_G_ok, c_skip, rf_n, rf_s, Lc_needTold_1, Lc_needTold_0, Lc_needTold_eq, Lc_needRoom_1, Lc_needRoom_0, Lc_needRoom_eq, Lc_needPlace_1, Lc_needPlace_0, Lc_needPlace_eq, Lc_needThere_1, Lc_needThere_0, Lc_needThere_eq, Lc_needSupported_1, Lc_needSupported_0, Lc_needSupported_eq, qb, qs, Bool.not_true, Bool.not_false, hm1, c_obj_at hL, c_held_at hL, mm_aa_ok, e3, hn1, mm_sa_ok, sh, c_obj_at hL2, c_held_at hL2, e2, hn2]
            rfl
end CL12
