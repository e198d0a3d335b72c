/-! the class: keep -/
def mm_pus (M : mm_M) (L : List (Nat × mm_O)) : mm_M := L.foldl (fun M p => mm_push M p.1 p.2) M
theorem mm_pus_ok : ∀ (L : List (Nat × mm_O)) (M : mm_M), (mm_pus M L).1 = M.1 + L.length ∧ (mm_pus M L).2.1 = M.2.1 + (L.map (·.1)).sum ∧ (∀ j (h : j < L.length), (mm_pus M L).2.2 (M.1 + j) = some L[j].2) ∧ ∀ q, ¬ (M.1 ≤ q ∧ q < M.1 + L.length) → (mm_pus M L).2.2 q = M.2.2 q
  | [], M => ⟨rfl, rfl, fun j h => absurd h (Nat.not_lt_zero j), fun _ _ => rfl⟩
  | p :: L, M => by
    obtain ⟨a1, a2, a3, a4⟩ := mm_pus_ok L (mm_push M p.1 p.2)
    have e : mm_pus M (p :: L) = mm_pus (mm_push M p.1 p.2) L := rfl
    have e1 : (mm_push M p.1 p.2).1 = M.1 + 1 := rfl
    have e2 : (mm_push M p.1 p.2).2.1 = M.2.1 + p.1 := rfl
    rw [e, a1, a2, e1, e2]
    rw [e1] at a3 a4
    refine ⟨by rw [List.length_cons]; omega, by rw [List.map_cons, List.sum_cons]; omega, fun j h => ?_, fun q h => ?_⟩
    · cases j with
      | zero =>
        rw [Nat.add_zero, a4 M.1 (by omega)]
        exact mm_push_at
      | succ j =>
        rw [List.length_cons] at h
        have := a3 j (by omega)
        rw [show M.1 + (j + 1) = M.1 + 1 + j by omega, this]
        rfl
    · rw [List.length_cons] at h
      rw [a4 q (by omega)]
      exact mm_push_ne (by omega)
section CL28
variable {X : Nat × Nat × (Nat → Int32)} {d T n A a k : Nat} {g f : Nat → Nat} {Λ : Lay} {σ σ' : Sg} {β : CS} {M N : mm_M} {Q : mm_Out → mm_M → Prop}
theorem ob_ne (hL : LK Λ σ) : Λ.1 0 0 ≠ Λ.1 1 0 := by
  intro z
  have k0 := hL.2.1 0 (by decide)
  have k1 := hL.2.1 1 (by decide)
  rw [z, k1] at k0
  cases k0
theorem Lc_keep_eq (hn : sN σ < 40) {to : Nat} {fs : List Value} (hto : to < 10) (h0 : N.2.2 (Λ.1 0 0) = some (.inr (2, c_obj Λ σ))) (h1 : N.2.2 (Λ.1 1 0) = some (.inl (2, 10, .inr (.inr (.inr (.inr (c_hand Λ σ))))))) (h4 : N.2.2 A = some (.inr (0, fs))) (hne : Λ.1 0 0 ≠ Λ.1 1 0) : WPC X d 20 [.ref (Λ.1 0 0), .int (nI to), .ref A] N Q = Q (.inl (some (.int (nI (sN σ + 1))))) (mm_set (mm_set N (Λ.1 1 0) (.inl (2, 10, .inr (.inr (.inr (.inr (va_up (c_hand Λ σ) to (some A)))))))) (Λ.1 0 0) (.inr (2, (c_obj Λ σ).set 1 (.int (nI (sN σ + 1)))))) := by
  have hc : ∀ v : Value, ((c_obj Λ σ).set 1 v)[1]? = some v := fun _ => rfl
  simp (disch := omega) only [e_20, w_20_0, w_20_1, w_20_4, w_20_5, w_20_6, w_20_7, w_20_8, w_20_9, w_20_12, w_20_13, w_20_14, w_20_17, w_20_18, w_20_21, mm_k_none, mm_k_int, mm_k_ref, mm_k_null, mm_K_inl, mm_tl_some, mm_tl_none, mm_fg_ok, mm_rc_ok, mm_fp_ok, mm_ai_ok, mm_si_ok, mm_az_ok, mm_sz_ok, z01, z11, zb, b2i_t, b2i_f, true_and, and_true, c_g0, c_g1, c_g2, c_g3, c_g4, c_g5, c_g6, c_g7, c_g8, c_g9, c_g10, c_g11, c_g12, c_gl, c_o0, c_o1, c_o2, c_o3, c_ol, c_s0, c_s1, c_s2, c_s3, c_sl, Nat.zero_le, Nat.not_lt_zero, if_true, if_false, m1_lt, m1_ge, mm_inT, pk_mul, nI_add, mm_in_nI, mm_cl_nI, nI_eq, nI_ltI, nI_leI, ↓reduceIte, Nat.add_zero, Nat.reduceLeDiff, oI_some, oI_none, m1_lt, nI_lt0, Rf_fail_eq, Rf_out_eq, eq_self, not_true_eq_false, not_false_eq_true, Nat.reduceEqDiff, Nat.reduceLT, ne_eq, or_true, true_or, or_false, false_or, decide_true, decide_false, Bool.true_eq_false, Bool.false_eq_true, b2i_ne, h0, h1, h4, mm_sa_ok, mm_set_at, mm_set_ne hne, hc]
theorem keep_fin (hW : WF T σ) (hL : LK Λ σ) (hlt : ∀ q t, Λ.2 q = some t → q < M.1) (hn : sN σ < 40) (hg : gfOK k a g f) {x y p dd lv gv to : Nat} (hto : to < 10) {v x' : Int32} {L : List Int32} {F : Nat → Nat → Int32} {Ls : List (Nat × mm_O)} (hlen : Ls.length = a) (hA : A = M.1 + g 4) (hcell : ∀ j (h : j < Ls.length), Ls[j].2 = c_cell (layN Λ (sN σ) M.1 a g f) (addN σ to k x y v p dd lv gv L) (newB β (sN σ) F x') (f j) (sN σ)) : WPC X d 20 [.ref (Λ.1 0 0), .int (nI to), .ref A] (mm_pus (mm_C Λ σ β M) Ls) Q = Q (.inl (some (.int (nI (sN σ + 1))))) (mm_C (layN Λ (sN σ) M.1 a g f) (addN σ to k x y v p dd lv gv L) (newB β (sN σ) F x') (M.1 + a, M.2.1 + (Ls.map (·.1)).sum, M.2.2)) := by
  obtain ⟨a1, a2, a3, a4⟩ := mm_pus_ok Ls (mm_C Λ σ β M)
  rw [hlen] at a1 a4
  rw [mm_C_1] at a1 a3 a4
  have k0 := hL.2.1 0 (by decide)
  have k1 := hL.2.1 1 (by decide)
  have l0 := hlt _ _ k0
  have l1 := hlt _ _ k1
  have hg4 := hg.2.1
  have hnode : (mm_pus (mm_C Λ σ β M) Ls).2.2 A = some (.inr (0, c_node (layN Λ (sN σ) M.1 a g f) (addN σ to k x y v p dd lv gv L) (sN σ))) := by
    rw [hA, a3 (g 4) (by omega), hcell (g 4) (by omega), hg4.2]
    rfl
  rw [Lc_keep_eq hn hto ((a4 _ (by omega)).trans (c_obj_at hL)) ((a4 _ (by omega)).trans (c_held_at hL)) hnode (ob_ne hL), hA]
  have hnew := mm_newN (Λ := Λ) (β := β) (M := M) (N := mm_pus (mm_C Λ σ β M) Ls) (k := k) (a := a) (g := g) (f := f) (x := x) (y := y) (p := p) (dd := dd) (lv := lv) (gv := gv) (v := v) (x' := x') (L := L) (F := F) hW hL hlt hto a1 (fun q hq => a4 q hq) (fun j hj => by
    rw [a3 j (by omega)]
    rw [hcell j (by omega)])
  rw [hnew, a2]
  rfl
theorem St_new {most kc : Nat} (h1 : most ≤ 24) (h2 : kc ≤ 8) : WPC X (d + 1) 2 [.ref M.1, .int (nI most), .int (nI kc)] (mm_push M 4 (.inr (1, [.null, .null, .null, .int 0]))) Q = Q (.inl none) (mm_push (mm_push (mm_push (mm_push M 4 (.inr (1, [.ref (M.1 + 1), .ref (M.1 + 1 + 1), .ref (M.1 + 1 + 1 + 1), .int 0]))) most (zArr most)) most (zArr most)) kc (zArr kc)) := by
  rw [St_init_eq (M := mm_push M 4 (.inr (1, [.null, .null, .null, .int 0]))) mm_push_at (Nat.lt_succ_self _) h1 h2, mm_set_top]
  rfl
theorem Nd_newS {st : Nat} {x y : Int32} : WPC X (d + 1) 0 [.ref M.1, .int x, .ref st, .int y] (mm_push M 13 (.inr (0, [.int 0, .int 0, .int 0, .null, .int 0, .null, .null, .null, .null, .int 0, .int 0, .int 0, .int 0]))) Q = Q (.inl none) (mm_push M 13 (.inr (0, [.int x, .int (nI 1), .int (nI 1), .ref st, .int y, .null, .null, .null, .null, .int 0, .int 0, .int 0, .int 0]))) := by
  rw [Nd_initS_eq (M := (mm_push M 13 (.inr (0, [.int 0, .int 0, .int 0, .null, .int 0, .null, .null, .null, .null, .int 0, .int 0, .int 0, .int 0])))) mm_push_at, mm_set_top]
theorem Nd_newB1 {b : Nat} {x : Int32} {fb : List Value} {lb gb : Nat} (hb : M.2.2 b = some (.inr (0, fb))) (hne : b ≠ M.1) (h1 : fb[1]? = some (.int (nI lb))) (h2 : fb[2]? = some (.int (nI gb))) : WPC X (d + 1) 1 [.ref M.1, .int x, .ref b, .null] (mm_push M 13 (.inr (0, [.int 0, .int 0, .int 0, .null, .int 0, .null, .null, .null, .null, .int 0, .int 0, .int 0, .int 0]))) Q = Q (.inl none) (mm_push M 13 (.inr (0, [.int x, .int (nI lb), .int (nI (1 + gb)), .null, .int (nI 0), .ref b, .null, .null, .null, .int 0, .int 0, .int 0, .int 0]))) := by
  rw [Nd_initB_one (M := (mm_push M 13 (.inr (0, [.int 0, .int 0, .int 0, .null, .int 0, .null, .null, .null, .null, .int 0, .int 0, .int 0, .int 0])))) mm_push_at ((mm_push_ne hne).trans hb) hne h1 h2, mm_set_top]
theorem Nd_newB2 {b c : Nat} {x : Int32} {fb fc : List Value} {lb gb lc gc : Nat} (hb : M.2.2 b = some (.inr (0, fb))) (hc : M.2.2 c = some (.inr (0, fc))) (hba : b < M.1) (hca : c < M.1) (h1 : fb[1]? = some (.int (nI lb))) (h2 : fb[2]? = some (.int (nI gb))) (h3 : fc[1]? = some (.int (nI lc))) (h4 : fc[2]? = some (.int (nI gc))) (l1 : lb ≤ 3) (l2 : lc ≤ 3) (l3 : gb ≤ 6) (l4 : gc ≤ 6) : WPC X (d + 1) 1 [.ref M.1, .int x, .ref b, .ref c] (mm_push M 13 (.inr (0, [.int 0, .int 0, .int 0, .null, .int 0, .null, .null, .null, .null, .int 0, .int 0, .int 0, .int 0]))) Q = Q (.inl none) (mm_push (mm_push (mm_push M 13 (.inr (0, [.int x, .int (nI (lb + lc)), .int (nI (1 + max gb gc)), .null, .int (nI 0), .ref b, .ref c, .ref (M.1 + 1), .ref (M.1 + 1 + 1), .int 0, .int 0, .int 0, .int 0]))) (lb * 24) (zArr (lb * 24))) (lc * 24) (zArr (lc * 24))) := by
  rw [Nd_initB_two (M := mm_push M 13 (.inr (0, [.int 0, .int 0, .int 0, .null, .int 0, .null, .null, .null, .null, .int 0, .int 0, .int 0, .int 0]))) mm_push_at ((mm_push_ne (by omega)).trans hb) ((mm_push_ne (by omega)).trans hc) hba hca (Nat.lt_succ_self _) h1 h2 h3 h4 l1 l2 l3 l4, mm_set_top]
  rfl
theorem Lc_roomN_eq (hW : WF T σ) (hL : LK Λ σ) {lv hv : Nat} (h1 : lv ≤ 6) (h2 : hv ≤ 7) : WPC X (d + 7) 18 [.ref (Λ.1 0 0), .int (nI lv), .int (nI hv)] (mm_C Λ σ β M) Q = if sN σ = 40 ∨ 3 < lv ∨ 6 < hv then Q (.inr 1) (mm_C Λ σ β (mm_skip M 6)) else Q (.inl none) (mm_C Λ σ β M) := by
  have h40 := hW.n40
  have hobj := c_obj_at (β := β) (M := M) hL
  by_cases c1 : sN σ = 40
  · rw [if_pos (Or.inl c1)]
    have g1 : ¬ sN σ < 40 := by omega
    have g2 : 40 ≤ sN σ := by omega
    simp (disch := omega) only [e_18, w_18_0, w_18_1, w_18_4, w_18_6, w_18_9, w_18_10, w_18_11, w_18_14, w_18_15, w_18_17, w_18_20, w_18_21, w_18_24, w_18_25, w_18_28, mm_k_none, mm_k_int, mm_k_ref, mm_k_null, mm_K_inl, mm_tl_some, mm_tl_none, mm_fg_ok, mm_rc_ok, mm_fp_ok, mm_ai_ok, mm_si_ok, mm_az_ok, mm_sz_ok, z01, z11, zb, b2i_t, b2i_f, true_and, and_true, c_g0, c_g1, c_g2, c_g3, c_g4, c_g5, c_g6, c_g7, c_g8, c_g9, c_g10, c_g11, c_g12, c_gl, c_o0, c_o1, c_o2, c_o3, c_ol, c_s0, c_s1, c_s2, c_s3, c_sl, Nat.zero_le, Nat.not_lt_zero, if_true, if_false, m1_lt, m1_ge, mm_inT, pk_mul, nI_add, mm_in_nI, mm_cl_nI, nI_eq, nI_ltI, nI_leI, ↓reduceIte, Nat.add_zero, Nat.reduceLeDiff, oI_some, oI_none, m1_lt, nI_lt0, Rf_fail_eq, Rf_out_eq, eq_self, not_true_eq_false, not_false_eq_true, Nat.reduceEqDiff, Nat.reduceLT, ne_eq, or_true, true_or, or_false, false_or, decide_true, decide_false, Bool.true_eq_false, Bool.false_eq_true, b2i_ne, mm_K_inr, mm_G_ok, c_skip, rf_n, rf_s, Lc_needTold_1, Lc_needTold_0, Lc_needTold_eq, Lc_needRoom_1, Lc_needRoom_0, Lc_needRoom_eq, Lc_needPlace_1, Lc_needPlace_0, Lc_needPlace_eq, Lc_needThere_1, Lc_needThere_0, Lc_needThere_eq, Lc_needSupported_1, Lc_needSupported_0, Lc_needSupported_eq, hobj, g1, g2]
  · have g1 : sN σ < 40 := by omega
    have g2 : ¬ 40 ≤ sN σ := by omega
    by_cases c2 : 3 < lv
    · rw [if_pos (Or.inr (Or.inl c2))]
      have g3 : ¬ lv ≤ 3 := by omega
      simp (disch := omega) only [e_18, w_18_0, w_18_1, w_18_4, w_18_6, w_18_9, w_18_10, w_18_11, w_18_14, w_18_15, w_18_17, w_18_20, w_18_21, w_18_24, w_18_25, w_18_28, mm_k_none, mm_k_int, mm_k_ref, mm_k_null, mm_K_inl, mm_tl_some, mm_tl_none, mm_fg_ok, mm_rc_ok, mm_fp_ok, mm_ai_ok, mm_si_ok, mm_az_ok, mm_sz_ok, z01, z11, zb, b2i_t, b2i_f, true_and, and_true, c_g0, c_g1, c_g2, c_g3, c_g4, c_g5, c_g6, c_g7, c_g8, c_g9, c_g10, c_g11, c_g12, c_gl, c_o0, c_o1, c_o2, c_o3, c_ol, c_s0, c_s1, c_s2, c_s3, c_sl, Nat.zero_le, Nat.not_lt_zero, if_true, if_false, m1_lt, m1_ge, mm_inT, pk_mul, nI_add, mm_in_nI, mm_cl_nI, nI_eq, nI_ltI, nI_leI, ↓reduceIte, Nat.add_zero, Nat.reduceLeDiff, oI_some, oI_none, m1_lt, nI_lt0, Rf_fail_eq, Rf_out_eq, eq_self, not_true_eq_false, not_false_eq_true, Nat.reduceEqDiff, Nat.reduceLT, ne_eq, or_true, true_or, or_false, false_or, decide_true, decide_false, Bool.true_eq_false, Bool.false_eq_true, b2i_ne, mm_K_inr, mm_G_ok, c_skip, rf_n, rf_s, Lc_needTold_1, Lc_needTold_0, Lc_needTold_eq, Lc_needRoom_1, Lc_needRoom_0, Lc_needRoom_eq, Lc_needPlace_1, Lc_needPlace_0, Lc_needPlace_eq, Lc_needThere_1, Lc_needThere_0, Lc_needThere_eq, Lc_needSupported_1, Lc_needSupported_0, Lc_needSupported_eq, hobj, g1, g2, c2, g3]
    · have g3 : lv ≤ 3 := by omega
      by_cases c3 : 6 < hv
      · rw [if_pos (Or.inr (Or.inr c3))]
        have g4 : ¬ hv ≤ 6 := by omega
        simp (disch := omega) only [e_18, w_18_0, w_18_1, w_18_4, w_18_6, w_18_9, w_18_10, w_18_11, w_18_14, w_18_15, w_18_17, w_18_20, w_18_21, w_18_24, w_18_25, w_18_28, mm_k_none, mm_k_int, mm_k_ref, mm_k_null, mm_K_inl, mm_tl_some, mm_tl_none, mm_fg_ok, mm_rc_ok, mm_fp_ok, mm_ai_ok, mm_si_ok, mm_az_ok, mm_sz_ok, z01, z11, zb, b2i_t, b2i_f, true_and, and_true, c_g0, c_g1, c_g2, c_g3, c_g4, c_g5, c_g6, c_g7, c_g8, c_g9, c_g10, c_g11, c_g12, c_gl, c_o0, c_o1, c_o2, c_o3, c_ol, c_s0, c_s1, c_s2, c_s3, c_sl, Nat.zero_le, Nat.not_lt_zero, if_true, if_false, m1_lt, m1_ge, mm_inT, pk_mul, nI_add, mm_in_nI, mm_cl_nI, nI_eq, nI_ltI, nI_leI, ↓reduceIte, Nat.add_zero, Nat.reduceLeDiff, oI_some, oI_none, m1_lt, nI_lt0, Rf_fail_eq, Rf_out_eq, eq_self, not_true_eq_false, not_false_eq_true, Nat.reduceEqDiff, Nat.reduceLT, ne_eq, or_true, true_or, or_false, false_or, decide_true, decide_false, Bool.true_eq_false, Bool.false_eq_true, b2i_ne, mm_K_inr, mm_G_ok, c_skip, rf_n, rf_s, Lc_needTold_1, Lc_needTold_0, Lc_needTold_eq, Lc_needRoom_1, Lc_needRoom_0, Lc_needRoom_eq, Lc_needPlace_1, Lc_needPlace_0, Lc_needPlace_eq, Lc_needThere_1, Lc_needThere_0, Lc_needThere_eq, Lc_needSupported_1, Lc_needSupported_0, Lc_needSupported_eq, hobj, g1, g2, c2, g3, c3, g4]
      · have g4 : hv ≤ 6 := by omega
        rw [if_neg (by omega)]
        simp (disch := omega) only [e_18, w_18_0, w_18_1, w_18_4, w_18_6, w_18_9, w_18_10, w_18_11, w_18_14, w_18_15, w_18_17, w_18_20, w_18_21, w_18_24, w_18_25, w_18_28, mm_k_none, mm_k_int, mm_k_ref, mm_k_null, mm_K_inl, mm_tl_some, mm_tl_none, mm_fg_ok, mm_rc_ok, mm_fp_ok, mm_ai_ok, mm_si_ok, mm_az_ok, mm_sz_ok, z01, z11, zb, b2i_t, b2i_f, true_and, and_true, c_g0, c_g1, c_g2, c_g3, c_g4, c_g5, c_g6, c_g7, c_g8, c_g9, c_g10, c_g11, c_g12, c_gl, c_o0, c_o1, c_o2, c_o3, c_ol, c_s0, c_s1, c_s2, c_s3, c_sl, Nat.zero_le, Nat.not_lt_zero, if_true, if_false, m1_lt, m1_ge, mm_inT, pk_mul, nI_add, mm_in_nI, mm_cl_nI, nI_eq, nI_ltI, nI_leI, ↓reduceIte, Nat.add_zero, Nat.reduceLeDiff, oI_some, oI_none, m1_lt, nI_lt0, Rf_fail_eq, Rf_out_eq, eq_self, not_true_eq_false, not_false_eq_true, Nat.reduceEqDiff, Nat.reduceLT, ne_eq, or_true, true_or, or_false, false_or, decide_true, decide_false, Bool.true_eq_false, Bool.false_eq_true, b2i_ne, mm_K_inr, mm_G_ok, c_skip, rf_n, rf_s, Lc_needTold_1, Lc_needTold_0, Lc_needTold_eq, Lc_needRoom_1, Lc_needRoom_0, Lc_needRoom_eq, Lc_needPlace_1, Lc_needPlace_0, Lc_needPlace_eq, Lc_needThere_1, Lc_needThere_0, Lc_needThere_eq, Lc_needSupported_1, Lc_needSupported_0, Lc_needSupported_eq, hobj, g1, g2, c2, g3, c3, g4]
theorem Lc_roomN_ok (hW : WF T σ) (hL : LK Λ σ) {lv hv : Nat} (h1 : lv ≤ 6) (h2 : hv ≤ 7) (hr : ¬ (sN σ = 40 ∨ 3 < lv ∨ 6 < hv)) : WPC X (d + 7) 18 [.ref (Λ.1 0 0), .int (nI lv), .int (nI hv)] (mm_C Λ σ β M) Q = Q (.inl none) (mm_C Λ σ β M) := by
  rw [Lc_roomN_eq hW hL h1 h2, if_neg hr]
theorem Lc_roomN_no (hW : WF T σ) (hL : LK Λ σ) {lv hv : Nat} (h1 : lv ≤ 6) (h2 : hv ≤ 7) (hr : sN σ = 40 ∨ 3 < lv ∨ 6 < hv) : WPC X (d + 7) 18 [.ref (Λ.1 0 0), .int (nI lv), .int (nI hv)] (mm_C Λ σ β M) Q = Q (.inr 1) (mm_C Λ σ β (mm_skip M 6)) := by
  rw [Lc_roomN_eq hW hL h1 h2, if_pos hr]
end CL28
