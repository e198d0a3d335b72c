/-! the class: the calls that look -/
/-- the call answers b and leaves σ' -/
def okC (X : Nat × Nat × (Nat → Int32)) (d : Nat) (Λ : Lay) (σ : Sg) (β : CS) (M : mm_M) (k : Nat) (args : List Value) (b : Int32) (σ' : Sg) : Prop := ∃ Λ' β' a s, LK Λ' σ' ∧ StRel σ' β' ∧ Λ'.1 0 0 = Λ.1 0 0 ∧ (∀ q t, Λ'.2 q = some t → Λ.2 q = some t ∨ (M.1 ≤ q ∧ q < M.1 + a)) ∧ a ≤ 10 ∧ s ≤ 400 ∧ ∀ Q, WPC X d k (.ref (Λ.1 0 0) :: args) (mm_C Λ σ β M) Q = Q (.inl (some (.int b))) (mm_C Λ' σ' β' (M.1 + a, M.2.1 + s, M.2.2))
/-- the call throws -/
def noC (X : Nat × Nat × (Nat → Int32)) (d : Nat) (Λ : Lay) (σ : Sg) (β : CS) (M : mm_M) (k : Nat) (args : List Value) (x : Nat) : Prop := ∃ β', StRel σ β' ∧ ∀ Q, WPC X d k (.ref (Λ.1 0 0) :: args) (mm_C Λ σ β M) Q = Q (.inr x) (mm_C Λ σ β' (mm_skip M 6))
def opC (X : Nat × Nat × (Nat → Int32)) (d : Nat) (Λ : Lay) (σ : Sg) (β : CS) (M : mm_M) (k : Nat) (args : List Value) (o : Out) (ex : Nat → Nat) : Prop := (o.1 = 0 → okC X d Λ σ β M k args o.2.1 o.2.2) ∧ (o.1 ≠ 0 → noC X d Λ σ β M k args (ex o.1))
/-- 1 told, 2 fresh or room, 3 a place -/
def exA (c : Nat) : Nat := c - 1
/-- 3: nothing there -/
def exF (c : Nat) : Nat := if c = 3 then 3 else c - 1
/-- 2 not supported, 3 stale or full, 4 a place -/
def exI (c : Nat) : Nat := if c = 2 then 4 else if c = 3 then 1 else if c = 4 then 2 else 0
/-- 4: nothing there -/
def exR (c : Nat) : Nat := if c = 2 then 4 else if c = 3 then 1 else if c = 4 then 3 else 0
section CL10
variable {X : Nat × Nat × (Nat → Int32)} {d T n c m : Nat} {Λ : Lay} {σ : Sg} {β : CS} {M : mm_M}
theorem opC.no {k : Nat} {args : List Value} {o : Out} {ex : Nat → Nat} {β' : CS} (c : Nat) (hc : c ≠ 0) (e : o = bade σ c) (hS : StRel σ β') (q : ∀ Q, WPC X d k (.ref (Λ.1 0 0) :: args) (mm_C Λ σ β M) Q = Q (.inr (ex c)) (mm_C Λ σ β' (mm_skip M 6))) : opC X d Λ σ β M k args o ex := by
  subst e
  exact ⟨fun z => absurd z hc, fun _ => ⟨β', hS, q⟩⟩
theorem opC.look {k : Nat} {args : List Value} {o : Out} {ex : Nat → Nat} {β' : CS} {b : Int32} (e : o = (0, b, σ)) (hL : LK Λ σ) (hS : StRel σ β') (q : ∀ Q, WPC X d k (.ref (Λ.1 0 0) :: args) (mm_C Λ σ β M) Q = Q (.inl (some (.int b))) (mm_C Λ σ β' M)) : opC X d Λ σ β M k args o ex := by
  subst e
  exact ⟨fun _ => ⟨Λ, β', 0, 0, hL, hS, rfl, fun q t h => Or.inl h, by omega, by omega, q⟩, fun z => absurd rfl z⟩
theorem fresh_d (hW : WF T σ) (hn : n < sN σ) : ∃ e, e + sG σ n + 1 = 7 := by
  have := (hW.lg hn).2.2.2
  exact ⟨6 - sG σ n, by omega⟩
theorem Lc_isStale_d (hW : WF T σ) (hL : LK Λ σ) (hS : StRel σ β) (hn : n < sN σ) {Q : mm_Out → mm_M → Prop} : WPC X (d + 7) 24 [.ref (Λ.1 4 n)] (mm_C Λ σ β M) Q = Q (.inl (some (.int (b2i (stale σ n))))) (mm_C Λ σ β M) := by
  have := (hW.lg hn).2.2.2
  rw [show d + 7 = (d + (6 - sG σ n)) + sG σ n + 1 by omega]
  exact Lc_isStale_eq hW hL hS n hn _ Q
theorem Lc_needFresh_no (hW : WF T σ) (hL : LK Λ σ) (hS : StRel σ β) (hn : n < sN σ) (hs : stale σ n = true) {Q : mm_Out → mm_M → Prop} : WPC X (d + 8) 23 [.ref (Λ.1 4 n)] (mm_C Λ σ β M) Q = Q (.inr 1) (mm_C Λ σ β (mm_skip M 6)) := by
  have h := fun Q => Lc_isStale_d (X := X) (d := d) (M := M) (Q := Q) hW hL hS hn
  rw [hs] at h
  simp (disch := omega) only [e_23, w_23_0, w_23_1, w_23_4, w_23_7, w_23_15, mm_k_none, mm_k_int, mm_k_ref, mm_k_null, mm_K_inl, mm_tl_some, mm_tl_none, mm_fg_ok, mm_rc_ok, mm_fp_ok, mm_ai_ok, mm_si_ok, mm_az_ok, mm_sz_ok, z01, z11, zb, b2i_t, b2i_f, true_and, and_true, c_g0, c_g1, c_g2, c_g3, c_g4, c_g5, c_g6, c_g7, c_g8, c_g9, c_g10, c_g11, c_g12, c_gl, c_o0, c_o1, c_o2, c_o3, c_ol, c_s0, c_s1, c_s2, c_s3, c_sl, Nat.zero_le, Nat.not_lt_zero, if_true, if_false, m1_lt, m1_ge, mm_inT, pk_mul, nI_add, mm_in_nI, mm_cl_nI, nI_eq, nI_ltI, nI_leI, ↓reduceIte, Nat.add_zero, Nat.reduceLeDiff, oI_some, oI_none, m1_lt, nI_lt0, Rf_fail_eq, Rf_out_eq, eq_self, not_true_eq_false, not_false_eq_true, Nat.reduceEqDiff, Nat.reduceLT, ne_eq, or_true, true_or, or_false, false_or, decide_true, decide_false, Bool.true_eq_false, Bool.false_eq_true, b2i_ne, h, c_skip]
theorem Lc_needFresh_ok (hW : WF T σ) (hL : LK Λ σ) (hS : StRel σ β) (hn : n < sN σ) (hs : stale σ n = false) {Q : mm_Out → mm_M → Prop} : WPC X (d + 8) 23 [.ref (Λ.1 4 n)] (mm_C Λ σ β M) Q = Q (.inl none) (mm_C Λ σ β M) := by
  have h := fun Q => Lc_isStale_d (X := X) (d := d) (M := M) (Q := Q) hW hL hS hn
  rw [hs] at h
  simp (disch := omega) only [e_23, w_23_0, w_23_1, w_23_4, w_23_7, w_23_15, mm_k_none, mm_k_int, mm_k_ref, mm_k_null, mm_K_inl, mm_tl_some, mm_tl_none, mm_fg_ok, mm_rc_ok, mm_fp_ok, mm_ai_ok, mm_si_ok, mm_az_ok, mm_sz_ok, z01, z11, zb, b2i_t, b2i_f, true_and, and_true, c_g0, c_g1, c_g2, c_g3, c_g4, c_g5, c_g6, c_g7, c_g8, c_g9, c_g10, c_g11, c_g12, c_gl, c_o0, c_o1, c_o2, c_o3, c_ol, c_s0, c_s1, c_s2, c_s3, c_sl, Nat.zero_le, Nat.not_lt_zero, if_true, if_false, m1_lt, m1_ge, mm_inT, pk_mul, nI_add, mm_in_nI, mm_cl_nI, nI_eq, nI_ltI, nI_leI, ↓reduceIte, Nat.add_zero, Nat.reduceLeDiff, oI_some, oI_none, m1_lt, nI_lt0, Rf_fail_eq, Rf_out_eq, eq_self, not_true_eq_false, not_false_eq_true, Nat.reduceEqDiff, Nat.reduceLT, ne_eq, or_true, true_or, or_false, false_or, decide_true, decide_false, Bool.true_eq_false, Bool.false_eq_true, b2i_ne, h]
/-- fill of row or otherRow -/
theorem Lc_fill_d (hW : WF T σ) (hL : LK Λ σ) (hS : StRel σ β) (hn : n < sN σ) (hs : stale σ n = false) {c : Nat} (hc : c = 2 ∨ c = 3) : ∃ β', oth n c 0 β β' ∧ StRel σ β' ∧ bfAt β' c 0 (El σ n) ∧ ∀ Q, WPC X (d + 13) 27 [.ref (Λ.1 4 n), .ref (Λ.1 c 0)] (mm_C Λ σ β M) Q = Q (.inl (some (.int (nI (El σ n).length)))) (mm_C Λ σ β' M) := by
  have hlg := hW.lg hn
  have hB : isB σ c 0 := Or.inl ⟨hc, rfl⟩
  have hlen : c_len σ c 0 = 72 := by rcases hc with z | z <;> rw [z] <;> rfl
  obtain ⟨β', o1, f1, q1⟩ := Lc_fill_ok (X := X) (M := M) hW hL n hn hs (d + 2 * (6 - sG σ n)) β c 0 hB (by omega) (by omega) hS
  rw [show d + 2 * (6 - sG σ n) + 2 * sG σ n + 1 = d + 13 by omega] at q1
  exact ⟨β', o1, o1.st hB hS, f1, q1⟩
theorem opC_size (hW : WF T σ) (hL : LK Λ σ) (hS : StRel σ β) {h : Int32} : opC X (d + 16) Λ σ β M 44 [.int h] (sp_size σ h) exA := by
  cases hn : ndo σ h with
  | none =>
    refine opC.no (β' := β) 1 (by decide) (by simp only [sp_size, hn]) hS fun Q => ?_
    have q1 := fun Q => Lc_nodeIn_no (X := X) (d := d + 8) (β := β) (M := M) (Q := Q) hL hn
    simp (disch := omega) only [e_44, w_44_0, w_44_1, w_44_2, w_44_5, w_44_6, w_44_7, w_44_10, w_44_11, w_44_12, w_44_15, w_44_18, mm_k_none, mm_k_int, mm_k_ref, mm_k_null, mm_K_inl, mm_tl_some, mm_tl_none, mm_fg_ok, mm_rc_ok, mm_fp_ok, mm_ai_ok, mm_si_ok, mm_az_ok, mm_sz_ok, z01, z11, zb, b2i_t, b2i_f, true_and, and_true, c_g0, c_g1, c_g2, c_g3, c_g4, c_g5, c_g6, c_g7, c_g8, c_g9, c_g10, c_g11, c_g12, c_gl, c_o0, c_o1, c_o2, c_o3, c_ol, c_s0, c_s1, c_s2, c_s3, c_sl, Nat.zero_le, Nat.not_lt_zero, if_true, if_false, m1_lt, m1_ge, mm_inT, pk_mul, nI_add, mm_in_nI, mm_cl_nI, nI_eq, nI_ltI, nI_leI, ↓reduceIte, Nat.add_zero, Nat.reduceLeDiff, oI_some, oI_none, m1_lt, nI_lt0, Rf_fail_eq, Rf_out_eq, eq_self, not_true_eq_false, not_false_eq_true, Nat.reduceEqDiff, Nat.reduceLT, ne_eq, or_true, true_or, or_false, false_or, decide_true, decide_false, Bool.true_eq_false, Bool.false_eq_true, b2i_ne, mm_K_inr, mm_G_ok, c_skip, rf_n, rf_s, c_obj_at hL, q1]
    rfl
  | some n =>
    have hlt := ndo_lt hW hn
    have q1 := fun Q => Lc_nodeIn_ok (X := X) (d := d + 8) (β := β) (M := M) (Q := Q) hL hn
    cases hs : stale σ n with
    | true =>
      refine opC.no (β' := β) 2 (by decide) (by simp only [sp_size, hn, hs, if_true]) hS fun Q => ?_
      have q2 := fun Q => Lc_needFresh_no (X := X) (d := d + 7) (β := β) (M := M) (Q := Q) hW hL hS hlt hs
      simp (disch := omega) only [e_44, w_44_0, w_44_1, w_44_2, w_44_5, w_44_6, w_44_7, w_44_10, w_44_11, w_44_12, w_44_15, w_44_18, mm_k_none, mm_k_int, mm_k_ref, mm_k_null, mm_K_inl, mm_tl_some, mm_tl_none, mm_fg_ok, mm_rc_ok, mm_fp_ok, mm_ai_ok, mm_si_ok, mm_az_ok, mm_sz_ok, z01, z11, zb, b2i_t, b2i_f, true_and, and_true, c_g0, c_g1, c_g2, c_g3, c_g4, c_g5, c_g6, c_g7, c_g8, c_g9, c_g10, c_g11, c_g12, c_gl, c_o0, c_o1, c_o2, c_o3, c_ol, c_s0, c_s1, c_s2, c_s3, c_sl, Nat.zero_le, Nat.not_lt_zero, if_true, if_false, m1_lt, m1_ge, mm_inT, pk_mul, nI_add, mm_in_nI, mm_cl_nI, nI_eq, nI_ltI, nI_leI, ↓reduceIte, Nat.add_zero, Nat.reduceLeDiff, oI_some, oI_none, m1_lt, nI_lt0, Rf_fail_eq, Rf_out_eq, eq_self, not_true_eq_false, not_false_eq_true, Nat.reduceEqDiff, Nat.reduceLT, ne_eq, or_true, true_or, or_false, false_or, decide_true, decide_false, Bool.true_eq_false, Bool.false_eq_true, b2i_ne, mm_K_inr, mm_G_ok, c_skip, rf_n, rf_s, c_obj_at hL, q1, q2]
      rfl
    | false =>
      obtain ⟨β', o1, s1, f1, q3⟩ := Lc_fill_d (X := X) (d := d + 2) (M := M) hW hL hS hlt hs (c := 2) (Or.inl rfl)
      have q2 := fun Q => Lc_needFresh_ok (X := X) (d := d + 7) (β := β) (M := M) (Q := Q) hW hL hS hlt hs
      refine opC.look (β' := β') (by simp only [sp_size, hn, hs, Bool.false_eq_true, if_false]; rfl) hL s1 fun Q => ?_
      simp (disch := omega) only [e_44, w_44_0, w_44_1, w_44_2, w_44_5, w_44_6, w_44_7, w_44_10, w_44_11, w_44_12, w_44_15, w_44_18, mm_k_none, mm_k_int, mm_k_ref, mm_k_null, mm_K_inl, mm_tl_some, mm_tl_none, mm_fg_ok, mm_rc_ok, mm_fp_ok, mm_ai_ok, mm_si_ok, mm_az_ok, mm_sz_ok, z01, z11, zb, b2i_t, b2i_f, true_and, and_true, c_g0, c_g1, c_g2, c_g3, c_g4, c_g5, c_g6, c_g7, c_g8, c_g9, c_g10, c_g11, c_g12, c_gl, c_o0, c_o1, c_o2, c_o3, c_ol, c_s0, c_s1, c_s2, c_s3, c_sl, Nat.zero_le, Nat.not_lt_zero, if_true, if_false, m1_lt, m1_ge, mm_inT, pk_mul, nI_add, mm_in_nI, mm_cl_nI, nI_eq, nI_ltI, nI_leI, ↓reduceIte, Nat.add_zero, Nat.reduceLeDiff, oI_some, oI_none, m1_lt, nI_lt0, Rf_fail_eq, Rf_out_eq, eq_self, not_true_eq_false, not_false_eq_true, Nat.reduceEqDiff, Nat.reduceLT, ne_eq, or_true, true_or, or_false, false_or, decide_true, decide_false, Bool.true_eq_false, Bool.false_eq_true, b2i_ne, mm_K_inr, mm_G_ok, c_skip, rf_n, rf_s, c_obj_at hL, q1, q2, q3]
theorem opC_at (hW : WF T σ) (hL : LK Λ σ) (hS : StRel σ β) {h i : Int32} : opC X (d + 16) Λ σ β M 45 [.int h, .int i] (sp_at σ h i) exA := by
  cases hn : ndo σ h with
  | none =>
    refine opC.no (β' := β) 1 (by decide) (by simp only [sp_at, hn]) hS fun Q => ?_
    have q1 := fun Q => Lc_nodeIn_no (X := X) (d := d + 8) (β := β) (M := M) (Q := Q) hL hn
    simp (disch := omega) only [e_45, w_45_0, w_45_1, w_45_2, w_45_5, w_45_6, w_45_7, w_45_10, w_45_11, w_45_12, w_45_15, w_45_18, w_45_20, w_45_21, w_45_22, w_45_25, w_45_26, w_45_28, w_45_31, w_45_32, w_45_35, w_45_36, w_45_39, w_45_40, w_45_43, w_45_44, w_45_45, mm_k_none, mm_k_int, mm_k_ref, mm_k_null, mm_K_inl, mm_tl_some, mm_tl_none, mm_fg_ok, mm_rc_ok, mm_fp_ok, mm_ai_ok, mm_si_ok, mm_az_ok, mm_sz_ok, z01, z11, zb, b2i_t, b2i_f, true_and, and_true, c_g0, c_g1, c_g2, c_g3, c_g4, c_g5, c_g6, c_g7, c_g8, c_g9, c_g10, c_g11, c_g12, c_gl, c_o0, c_o1, c_o2, c_o3, c_ol, c_s0, c_s1, c_s2, c_s3, c_sl, Nat.zero_le, Nat.not_lt_zero, if_true, if_false, m1_lt, m1_ge, mm_inT, pk_mul, nI_add, mm_in_nI, mm_cl_nI, nI_eq, nI_ltI, nI_leI, ↓reduceIte, Nat.add_zero, Nat.reduceLeDiff, oI_some, oI_none, m1_lt, nI_lt0, Rf_fail_eq, Rf_out_eq, eq_self, not_true_eq_false, not_false_eq_true, Nat.reduceEqDiff, Nat.reduceLT, ne_eq, or_true, true_or, or_false, false_or, decide_true, decide_false, Bool.true_eq_false, Bool.false_eq_true, b2i_ne, mm_K_inr, mm_G_ok, c_skip, rf_n, rf_s, c_obj_at hL, q1]
    rfl
  | some n =>
    have hlt := ndo_lt hW hn
    have h72 := El_72 hW hlt
    have q1 := fun Q => Lc_nodeIn_ok (X := X) (d := d + 8) (β := β) (M := M) (Q := Q) hL hn
    cases hs : stale σ n with
    | true =>
      refine opC.no (β' := β) 2 (by decide) (by simp only [sp_at, hn, hs, if_true]) hS fun Q => ?_
      have q2 := fun Q => Lc_needFresh_no (X := X) (d := d + 7) (β := β) (M := M) (Q := Q) hW hL hS hlt hs
      simp (disch := omega) only [e_45, w_45_0, w_45_1, w_45_2, w_45_5, w_45_6, w_45_7, w_45_10, w_45_11, w_45_12, w_45_15, w_45_18, w_45_20, w_45_21, w_45_22, w_45_25, w_45_26, w_45_28, w_45_31, w_45_32, w_45_35, w_45_36, w_45_39, w_45_40, w_45_43, w_45_44, w_45_45, mm_k_none, mm_k_int, mm_k_ref, mm_k_null, mm_K_inl, mm_tl_some, mm_tl_none, mm_fg_ok, mm_rc_ok, mm_fp_ok, mm_ai_ok, mm_si_ok, mm_az_ok, mm_sz_ok, z01, z11, zb, b2i_t, b2i_f, true_and, and_true, c_g0, c_g1, c_g2, c_g3, c_g4, c_g5, c_g6, c_g7, c_g8, c_g9, c_g10, c_g11, c_g12, c_gl, c_o0, c_o1, c_o2, c_o3, c_ol, c_s0, c_s1, c_s2, c_s3, c_sl, Nat.zero_le, Nat.not_lt_zero, if_true, if_false, m1_lt, m1_ge, mm_inT, pk_mul, nI_add, mm_in_nI, mm_cl_nI, nI_eq, nI_ltI, nI_leI, ↓reduceIte, Nat.add_zero, Nat.reduceLeDiff, oI_some, oI_none, m1_lt, nI_lt0, Rf_fail_eq, Rf_out_eq, eq_self, not_true_eq_false, not_false_eq_true, Nat.reduceEqDiff, Nat.reduceLT, ne_eq, or_true, true_or, or_false, false_or, decide_true, decide_false, Bool.true_eq_false, Bool.false_eq_true, b2i_ne, mm_K_inr, mm_G_ok, c_skip, rf_n, rf_s, c_obj_at hL, q1, q2]
      rfl
    | false =>
      obtain ⟨β', o1, s1, f1, q3⟩ := Lc_fill_d (X := X) (d := d + 2) (M := M) hW hL hS hlt hs (c := 2) (Or.inl rfl)
      have q2 := fun Q => Lc_needFresh_ok (X := X) (d := d + 7) (β := β) (M := M) (Q := Q) hW hL hS hlt hs
      by_cases hi : i < nI 0 ∨ ¬ i < nI (El σ n).length
      · refine opC.no (β' := β') 3 (by decide) (by simp only [sp_at, hn, hs, Bool.false_eq_true, if_false, if_pos hi]) s1 fun Q => ?_
        by_cases c1 : i < nI 0
        · have g : ¬ nI 0 ≤ i := Int32.not_le.2 c1
          simp (disch := omega) only [e_45, w_45_0, w_45_1, w_45_2, w_45_5, w_45_6, w_45_7, w_45_10, w_45_11, w_45_12, w_45_15, w_45_18, w_45_20, w_45_21, w_45_22, w_45_25, w_45_26, w_45_28, w_45_31, w_45_32, w_45_35, w_45_36, w_45_39, w_45_40, w_45_43, w_45_44, w_45_45, mm_k_none, mm_k_int, mm_k_ref, mm_k_null, mm_K_inl, mm_tl_some, mm_tl_none, mm_fg_ok, mm_rc_ok, mm_fp_ok, mm_ai_ok, mm_si_ok, mm_az_ok, mm_sz_ok, z01, z11, zb, b2i_t, b2i_f, true_and, and_true, c_g0, c_g1, c_g2, c_g3, c_g4, c_g5, c_g6, c_g7, c_g8, c_g9, c_g10, c_g11, c_g12, c_gl, c_o0, c_o1, c_o2, c_o3, c_ol, c_s0, c_s1, c_s2, c_s3, c_sl, Nat.zero_le, Nat.not_lt_zero, if_true, if_false, m1_lt, m1_ge, mm_inT, pk_mul, nI_add, mm_in_nI, mm_cl_nI, nI_eq, nI_ltI, nI_leI, ↓reduceIte, Nat.add_zero, Nat.reduceLeDiff, oI_some, oI_none, m1_lt, nI_lt0, Rf_fail_eq, Rf_out_eq, eq_self, not_true_eq_false, not_false_eq_true, Nat.reduceEqDiff, Nat.reduceLT, ne_eq, or_true, true_or, or_false, false_or, decide_true, decide_false, Bool.true_eq_false, Bool.false_eq_true, b2i_ne, mm_K_inr, mm_G_ok, c_skip, rf_n, rf_s, Lc_needTold_1, Lc_needTold_0, Lc_needTold_eq, Lc_needRoom_1, Lc_needRoom_0, Lc_needRoom_eq, Lc_needPlace_1, Lc_needPlace_0, Lc_needPlace_eq, Lc_needThere_1, Lc_needThere_0, Lc_needThere_eq, Lc_needSupported_1, Lc_needSupported_0, Lc_needSupported_eq, c_obj_at hL, q1, q2, q3, c1, g]
          rfl
        · have g : nI 0 ≤ i := Int32.not_lt.1 c1
          have c2 : ¬ i < nI (El σ n).length := by
            rcases hi with z | z
            · exact absurd z c1
            · exact z
          have g2 : nI (El σ n).length ≤ i := Int32.not_lt.1 c2
          simp (disch := omega) only [e_45, w_45_0, w_45_1, w_45_2, w_45_5, w_45_6, w_45_7, w_45_10, w_45_11, w_45_12, w_45_15, w_45_18, w_45_20, w_45_21, w_45_22, w_45_25, w_45_26, w_45_28, w_45_31, w_45_32, w_45_35, w_45_36, w_45_39, w_45_40, w_45_43, w_45_44, w_45_45, mm_k_none, mm_k_int, mm_k_ref, mm_k_null, mm_K_inl, mm_tl_some, mm_tl_none, mm_fg_ok, mm_rc_ok, mm_fp_ok, mm_ai_ok, mm_si_ok, mm_az_ok, mm_sz_ok, z01, z11, zb, b2i_t, b2i_f, true_and, and_true, c_g0, c_g1, c_g2, c_g3, c_g4, c_g5, c_g6, c_g7, c_g8, c_g9, c_g10, c_g11, c_g12, c_gl, c_o0, c_o1, c_o2, c_o3, c_ol, c_s0, c_s1, c_s2, c_s3, c_sl, Nat.zero_le, Nat.not_lt_zero, if_true, if_false, m1_lt, m1_ge, mm_inT, pk_mul, nI_add, mm_in_nI, mm_cl_nI, nI_eq, nI_ltI, nI_leI, ↓reduceIte, Nat.add_zero, Nat.reduceLeDiff, oI_some, oI_none, m1_lt, nI_lt0, Rf_fail_eq, Rf_out_eq, eq_self, not_true_eq_false, not_false_eq_true, Nat.reduceEqDiff, Nat.reduceLT, ne_eq, or_true, true_or, or_false, false_or, decide_true, decide_false, Bool.true_eq_false, Bool.false_eq_true, b2i_ne, mm_K_inr, mm_G_ok, c_skip, rf_n, rf_s, Lc_needTold_1, Lc_needTold_0, Lc_needTold_eq, Lc_needRoom_1, Lc_needRoom_0, Lc_needRoom_eq, Lc_needPlace_1, Lc_needPlace_0, Lc_needPlace_eq, Lc_needThere_1, Lc_needThere_0, Lc_needThere_eq, Lc_needSupported_1, Lc_needSupported_0, Lc_needSupported_eq, c_obj_at hL, q1, q2, q3, c1, g, c2, g2]
          rfl
      · obtain ⟨j, hj, rfl⟩ := nI_of' (fun z => hi (Or.inl z))
        have hjl : j < (El σ n).length := by
          refine Nat.lt_of_not_le fun z => hi (Or.inr (nI_nlt z hj))
        have e : (El σ n).getD (nI j).toNatClampNeg 0 = (El σ n)[j] := by rw [nI_clamp hj]; simp [hjl]
        have g2 : ¬ (El σ n).length ≤ j := by omega
        refine opC.look (β' := β') (b := (El σ n)[j]) (by simp only [sp_at, hn, hs, Bool.false_eq_true, if_false, if_neg hi]; rw [e]) hL s1 fun Q => ?_
        simp (disch := omega) only [e_45, w_45_0, w_45_1, w_45_2, w_45_5, w_45_6, w_45_7, w_45_10, w_45_11, w_45_12, w_45_15, w_45_18, w_45_20, w_45_21, w_45_22, w_45_25, w_45_26, w_45_28, w_45_31, w_45_32, w_45_35, w_45_36, w_45_39, w_45_40, w_45_43, w_45_44, w_45_45, mm_k_none, mm_k_int, mm_k_ref, mm_k_null, mm_K_inl, mm_tl_some, mm_tl_none, mm_fg_ok, mm_rc_ok, mm_fp_ok, mm_ai_ok, mm_si_ok, mm_az_ok, mm_sz_ok, z01, z11, zb, b2i_t, b2i_f, true_and, and_true, c_g0, c_g1, c_g2, c_g3, c_g4, c_g5, c_g6, c_g7, c_g8, c_g9, c_g10, c_g11, c_g12, c_gl, c_o0, c_o1, c_o2, c_o3, c_ol, c_s0, c_s1, c_s2, c_s3, c_sl, Nat.zero_le, Nat.not_lt_zero, if_true, if_false, m1_lt, m1_ge, mm_inT, pk_mul, nI_add, mm_in_nI, mm_cl_nI, nI_eq, nI_ltI, nI_leI, ↓reduceIte, Nat.add_zero, Nat.reduceLeDiff, oI_some, oI_none, m1_lt, nI_lt0, Rf_fail_eq, Rf_out_eq, eq_self, not_true_eq_false, not_false_eq_true, Nat.reduceEqDiff, Nat.reduceLT, ne_eq, or_true, true_or, or_false, false_or, decide_true, decide_false, Bool.true_eq_false, Bool.false_eq_true, b2i_ne, mm_K_inr, mm_G_ok, c_skip, rf_n, rf_s, Lc_needTold_1, Lc_needTold_0, Lc_needTold_eq, Lc_needRoom_1, Lc_needRoom_0, Lc_needRoom_eq, Lc_needPlace_1, Lc_needPlace_0, Lc_needPlace_eq, Lc_needThere_1, Lc_needThere_0, Lc_needThere_eq, Lc_needSupported_1, Lc_needSupported_0, Lc_needSupported_eq, c_obj_at hL, q1, q2, q3, hjl, g2, c_row_at hL (Or.inl rfl), f1 j hjl]
theorem opC_find (hW : WF T σ) (hL : LK Λ σ) (hS : StRel σ β) {h v : Int32} : opC X (d + 16) Λ σ β M 46 [.int h, .int v] (sp_find σ h v) exF := by
  cases hn : ndo σ h with
  | none =>
    refine opC.no (β' := β) 1 (by decide) (by simp only [sp_find, hn]) hS fun Q => ?_
    have q1 := fun Q => Lc_nodeIn_no (X := X) (d := d + 8) (β := β) (M := M) (Q := Q) hL hn
    simp (disch := omega) only [e_46, w_46_0, w_46_1, w_46_2, w_46_5, w_46_6, w_46_7, w_46_10, w_46_11, w_46_14, w_46_15, w_46_16, w_46_19, w_46_22, w_46_23, w_46_26, w_46_28, w_46_30, w_46_33, w_46_34, w_46_37, w_46_38, w_46_41, w_46_43, mm_k_none, mm_k_int, mm_k_ref, mm_k_null, mm_K_inl, mm_tl_some, mm_tl_none, mm_fg_ok, mm_rc_ok, mm_fp_ok, mm_ai_ok, mm_si_ok, mm_az_ok, mm_sz_ok, z01, z11, zb, b2i_t, b2i_f, true_and, and_true, c_g0, c_g1, c_g2, c_g3, c_g4, c_g5, c_g6, c_g7, c_g8, c_g9, c_g10, c_g11, c_g12, c_gl, c_o0, c_o1, c_o2, c_o3, c_ol, c_s0, c_s1, c_s2, c_s3, c_sl, Nat.zero_le, Nat.not_lt_zero, if_true, if_false, m1_lt, m1_ge, mm_inT, pk_mul, nI_add, mm_in_nI, mm_cl_nI, nI_eq, nI_ltI, nI_leI, ↓reduceIte, Nat.add_zero, Nat.reduceLeDiff, oI_some, oI_none, m1_lt, nI_lt0, Rf_fail_eq, Rf_out_eq, eq_self, not_true_eq_false, not_false_eq_true, Nat.reduceEqDiff, Nat.reduceLT, ne_eq, or_true, true_or, or_false, false_or, decide_true, decide_false, Bool.true_eq_false, Bool.false_eq_true, b2i_ne, mm_K_inr, mm_G_ok, c_skip, rf_n, rf_s, c_obj_at hL, q1]
    rfl
  | some n =>
    have hlt := ndo_lt hW hn
    have h72 := El_72 hW hlt
    have q1 := fun Q => Lc_nodeIn_ok (X := X) (d := d + 8) (β := β) (M := M) (Q := Q) hL hn
    cases hs : stale σ n with
    | true =>
      refine opC.no (β' := β) 2 (by decide) (by simp only [sp_find, hn, hs, if_true]) hS fun Q => ?_
      have q2 := fun Q => Lc_needFresh_no (X := X) (d := d + 7) (β := β) (M := M) (Q := Q) hW hL hS hlt hs
      simp (disch := omega) only [e_46, w_46_0, w_46_1, w_46_2, w_46_5, w_46_6, w_46_7, w_46_10, w_46_11, w_46_14, w_46_15, w_46_16, w_46_19, w_46_22, w_46_23, w_46_26, w_46_28, w_46_30, w_46_33, w_46_34, w_46_37, w_46_38, w_46_41, w_46_43, mm_k_none, mm_k_int, mm_k_ref, mm_k_null, mm_K_inl, mm_tl_some, mm_tl_none, mm_fg_ok, mm_rc_ok, mm_fp_ok, mm_ai_ok, mm_si_ok, mm_az_ok, mm_sz_ok, z01, z11, zb, b2i_t, b2i_f, true_and, and_true, c_g0, c_g1, c_g2, c_g3, c_g4, c_g5, c_g6, c_g7, c_g8, c_g9, c_g10, c_g11, c_g12, c_gl, c_o0, c_o1, c_o2, c_o3, c_ol, c_s0, c_s1, c_s2, c_s3, c_sl, Nat.zero_le, Nat.not_lt_zero, if_true, if_false, m1_lt, m1_ge, mm_inT, pk_mul, nI_add, mm_in_nI, mm_cl_nI, nI_eq, nI_ltI, nI_leI, ↓reduceIte, Nat.add_zero, Nat.reduceLeDiff, oI_some, oI_none, m1_lt, nI_lt0, Rf_fail_eq, Rf_out_eq, eq_self, not_true_eq_false, not_false_eq_true, Nat.reduceEqDiff, Nat.reduceLT, ne_eq, or_true, true_or, or_false, false_or, decide_true, decide_false, Bool.true_eq_false, Bool.false_eq_true, b2i_ne, mm_K_inr, mm_G_ok, c_skip, rf_n, rf_s, c_obj_at hL, q1, q2]
      rfl
    | false =>
      obtain ⟨β', o1, s1, f1, q3⟩ := Lc_fill_d (X := X) (d := d + 2) (M := M) hW hL hS hlt hs (c := 2) (Or.inl rfl)
      have q2 := fun Q => Lc_needFresh_ok (X := X) (d := d + 7) (β := β) (M := M) (Q := Q) hW hL hS hlt hs
      have q4 := fun Q => Lc_placeOf_eq (X := X) (d := d + 15) (M := M) (Q := Q) hW hL (c := 2) (m := 0) (Or.inl ⟨Or.inl rfl, rfl⟩) f1 h72 (v := v)
      cases hf : fst1 v (El σ n) with
      | none =>
        refine opC.no (β' := β') 3 (by decide) (by simp only [sp_find, hn, hs, Bool.false_eq_true, if_false, hf]) s1 fun Q => ?_
        simp (disch := omega) only [e_46, w_46_0, w_46_1, w_46_2, w_46_5, w_46_6, w_46_7, w_46_10, w_46_11, w_46_14, w_46_15, w_46_16, w_46_19, w_46_22, w_46_23, w_46_26, w_46_28, w_46_30, w_46_33, w_46_34, w_46_37, w_46_38, w_46_41, w_46_43, mm_k_none, mm_k_int, mm_k_ref, mm_k_null, mm_K_inl, mm_tl_some, mm_tl_none, mm_fg_ok, mm_rc_ok, mm_fp_ok, mm_ai_ok, mm_si_ok, mm_az_ok, mm_sz_ok, z01, z11, zb, b2i_t, b2i_f, true_and, and_true, c_g0, c_g1, c_g2, c_g3, c_g4, c_g5, c_g6, c_g7, c_g8, c_g9, c_g10, c_g11, c_g12, c_gl, c_o0, c_o1, c_o2, c_o3, c_ol, c_s0, c_s1, c_s2, c_s3, c_sl, Nat.zero_le, Nat.not_lt_zero, if_true, if_false, m1_lt, m1_ge, mm_inT, pk_mul, nI_add, mm_in_nI, mm_cl_nI, nI_eq, nI_ltI, nI_leI, ↓reduceIte, Nat.add_zero, Nat.reduceLeDiff, oI_some, oI_none, m1_lt, nI_lt0, Rf_fail_eq, Rf_out_eq, eq_self, not_true_eq_false, not_false_eq_true, Nat.reduceEqDiff, Nat.reduceLT, ne_eq, or_true, true_or, or_false, false_or, decide_true, decide_false, Bool.true_eq_false, Bool.false_eq_true, b2i_ne, mm_K_inr, mm_G_ok, c_skip, rf_n, rf_s, Lc_needTold_1, Lc_needTold_0, Lc_needTold_eq, Lc_needRoom_1, Lc_needRoom_0, Lc_needRoom_eq, Lc_needPlace_1, Lc_needPlace_0, Lc_needPlace_eq, Lc_needThere_1, Lc_needThere_0, Lc_needThere_eq, Lc_needSupported_1, Lc_needSupported_0, Lc_needSupported_eq, c_obj_at hL, q1, q2, q3, q4, hf]
        rfl
      | some k =>
        have hk := fst1_lt hf
        refine opC.look (β' := β') (b := nI k) (by simp only [sp_find, hn, hs, Bool.false_eq_true, if_false, hf]) hL s1 fun Q => ?_
        simp (disch := omega) only [e_46, w_46_0, w_46_1, w_46_2, w_46_5, w_46_6, w_46_7, w_46_10, w_46_11, w_46_14, w_46_15, w_46_16, w_46_19, w_46_22, w_46_23, w_46_26, w_46_28, w_46_30, w_46_33, w_46_34, w_46_37, w_46_38, w_46_41, w_46_43, mm_k_none, mm_k_int, mm_k_ref, mm_k_null, mm_K_inl, mm_tl_some, mm_tl_none, mm_fg_ok, mm_rc_ok, mm_fp_ok, mm_ai_ok, mm_si_ok, mm_az_ok, mm_sz_ok, z01, z11, zb, b2i_t, b2i_f, true_and, and_true, c_g0, c_g1, c_g2, c_g3, c_g4, c_g5, c_g6, c_g7, c_g8, c_g9, c_g10, c_g11, c_g12, c_gl, c_o0, c_o1, c_o2, c_o3, c_ol, c_s0, c_s1, c_s2, c_s3, c_sl, Nat.zero_le, Nat.not_lt_zero, if_true, if_false, m1_lt, m1_ge, mm_inT, pk_mul, nI_add, mm_in_nI, mm_cl_nI, nI_eq, nI_ltI, nI_leI, ↓reduceIte, Nat.add_zero, Nat.reduceLeDiff, oI_some, oI_none, m1_lt, nI_lt0, Rf_fail_eq, Rf_out_eq, eq_self, not_true_eq_false, not_false_eq_true, Nat.reduceEqDiff, Nat.reduceLT, ne_eq, or_true, true_or, or_false, false_or, decide_true, decide_false, Bool.true_eq_false, Bool.false_eq_true, b2i_ne, mm_K_inr, mm_G_ok, c_skip, rf_n, rf_s, Lc_needTold_1, Lc_needTold_0, Lc_needTold_eq, Lc_needRoom_1, Lc_needRoom_0, Lc_needRoom_eq, Lc_needPlace_1, Lc_needPlace_0, Lc_needPlace_eq, Lc_needThere_1, Lc_needThere_0, Lc_needThere_eq, Lc_needSupported_1, Lc_needSupported_0, Lc_needSupported_eq, c_obj_at hL, q1, q2, q3, q4, hf]
end CL10
