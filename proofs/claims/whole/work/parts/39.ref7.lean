/-! the reference: show -/
/-- the rows of all that n stands on hold their ELEMENTS -/
def shown (σ : Sg) (ρ : RS) (n : Nat) : Prop := ∀ k, rc σ n k = true → elAt ρ k (El σ k)
section RF8
variable {X : Nat × Nat × (Nat → Int32)} {d rm T n m a b : Nat} {σ : Sg} {M : mm_M}
theorem Rf_show_lp (hW : WF T σ) (hn : n < sN σ) (hs : stale σ n = false) : ∀ (j k : Nat) (ρ : RS), j + k = n + 1 → RRel σ ρ → ndB (rc σ n) (ρ.2.2 15) → (∀ p, p < k → rc σ n p = true → elAt ρ p (El σ p)) → ∃ ρ', sameP ρ ρ' ∧ (∀ p, rc σ n p = true → elAt ρ' p (El σ p)) ∧ (∀ p, elAt ρ p (El σ p) → elAt ρ' p (El σ p)) ∧ ∀ Q, WP X (d + 5) 71 12 [some (.ref rm), some (.int (nI n)), some (.int (nI k))] [] (mm_R rm ρ M) Q = Q (.inl (some (.int (nI 1)))) (mm_R rm ρ' M) := by
  have h40 := hW.n40
  intro j
  induction j with
  | zero =>
    intro k ρ hk hR hnd h
    refine ⟨ρ, sameP.refl ρ, fun p hp => h p (by have := (rc_two hW n hn hp).1; omega) hp, fun p hp => hp, fun Q => ?_⟩
    rw [w_71_12]
    have e : n < k := by omega
    simp (disch := omega) only [w_71_0, w_71_1, w_71_2, w_71_5, w_71_8, w_71_9, w_71_10, w_71_11, w_71_13, w_71_14, w_71_17, w_71_18, w_71_21, w_71_22, w_71_23, w_71_26, w_71_27, w_71_28, w_71_31, w_71_34, w_71_37, w_71_38, mm_k_none, mm_k_int, mm_k_ref, mm_k_null, mm_K_inl, mm_tl_some, mm_tl_none, mm_fg_ok, mm_rc_ok, mm_fp_ok, mm_ai_ok, mm_si_ok, mm_az_ok, mm_sz_ok, z01, z11, zb, b2i_t, b2i_f, true_and, and_true, r_at, r_at_1, r_at_2, r_at_3, r_at_4, r_at_5, r_at_6, r_at_7, r_at_8, r_at_9, r_at_10, r_at_11, r_at_12, r_at_13, r_at_14, r_at_15, r_at_16, r_at_17, r_set_1, r_set_2, r_set_3, r_set_4, r_set_5, r_set_6, r_set_7, r_set_8, r_set_9, r_set_10, r_set_11, r_set_12, r_set_13, r_set_14, r_set_15, r_set_16, r_set_17, r_set_f, r_set_n, r_g_0, r_g_1, r_g_2, r_g_3, r_g_4, r_g_5, r_g_6, r_g_7, r_g_8, r_g_9, r_g_10, r_g_11, r_g_12, r_g_13, r_g_14, r_g_15, r_g_16, r_g_17, r_g_18, r_olen, Nat.zero_le, Nat.not_lt_zero, if_true, if_false, m1_lt, m1_ge, mm_inT, pk_mul, nI_add, mm_in_nI, mm_cl_nI, nI_eq, nI_ltI, nI_leI, e]
  | succ j ih =>
    intro k ρ hk hR hnd h
    have e : ¬ n < k := by omega
    have hnk := hnd k (by omega)
    cases hr : rc σ n k with
    | false =>
      obtain ⟨ρ', h1, h2, h3, hq⟩ := ih (k + 1) ρ (by omega) hR hnd (fun p hp hp2 => by
        by_cases hpk : p = k
        · rw [hpk, hr] at hp2; cases hp2
        · exact h p (by omega) hp2)
      refine ⟨ρ', h1, h2, h3, fun Q => Eq.trans ?_ (hq Q)⟩
      rw [hr] at hnk
      rw [w_71_12]
      simp (disch := omega) only [w_71_0, w_71_1, w_71_2, w_71_5, w_71_8, w_71_9, w_71_10, w_71_11, w_71_13, w_71_14, w_71_17, w_71_18, w_71_21, w_71_22, w_71_23, w_71_26, w_71_27, w_71_28, w_71_31, w_71_34, w_71_37, w_71_38, mm_k_none, mm_k_int, mm_k_ref, mm_k_null, mm_K_inl, mm_tl_some, mm_tl_none, mm_fg_ok, mm_rc_ok, mm_fp_ok, mm_ai_ok, mm_si_ok, mm_az_ok, mm_sz_ok, z01, z11, zb, b2i_t, b2i_f, true_and, and_true, r_at, r_at_1, r_at_2, r_at_3, r_at_4, r_at_5, r_at_6, r_at_7, r_at_8, r_at_9, r_at_10, r_at_11, r_at_12, r_at_13, r_at_14, r_at_15, r_at_16, r_at_17, r_set_1, r_set_2, r_set_3, r_set_4, r_set_5, r_set_6, r_set_7, r_set_8, r_set_9, r_set_10, r_set_11, r_set_12, r_set_13, r_set_14, r_set_15, r_set_16, r_set_17, r_set_f, r_set_n, r_g_0, r_g_1, r_g_2, r_g_3, r_g_4, r_g_5, r_g_6, r_g_7, r_g_8, r_g_9, r_g_10, r_g_11, r_g_12, r_g_13, r_g_14, r_g_15, r_g_16, r_g_17, r_g_18, r_olen, Nat.zero_le, Nat.not_lt_zero, if_true, if_false, m1_lt, m1_ge, mm_inT, pk_mul, nI_add, mm_in_nI, mm_cl_nI, nI_eq, nI_ltI, nI_leI, e, hnk]
    | true =>
      have hrk := rc_two hW n hn hr
      have hsk := hrk.2.2.2 hs
      obtain ⟨ρ1, s1, hq1⟩ := Rf_work_eq (X := X) (d := d + 2) (rm := rm) (M := M) hW hR (show k < sN σ by omega) hsk (fun z _ => h _ (hW.o (by omega) z) (hrk.2.1 z)) (fun z => h _ (hW.t (by omega) z) (hrk.2.2.1 z))
      obtain ⟨ρ', h1, h2, h3, hq⟩ := ih (k + 1) ρ1 (by omega) (hR.same s1.1) (by rw [s1.2.1]; exact hnd) (fun p hp hp2 => by
        by_cases hpk : p = k
        · rw [hpk]; exact s1.2.2.1
        · exact s1.2.2.2 _ _ hpk (h p (by omega) hp2))
      refine ⟨ρ', s1.1.trans h1, h2, fun p hp => ?_, fun Q => Eq.trans ?_ (hq Q)⟩
      · apply h3
        by_cases hpk : p = k
        · rw [hpk]; exact s1.2.2.1
        · exact s1.2.2.2 _ _ hpk hp
      · have hq1' : ∀ Q, WPC X (d + 4) 77 [.ref rm, .int (nI k)] (mm_R rm ρ M) Q = Q (.inl none) (mm_R rm ρ1 M) := hq1
        rw [hr] at hnk
        rw [w_71_12]
        simp (disch := omega) only [w_71_0, w_71_1, w_71_2, w_71_5, w_71_8, w_71_9, w_71_10, w_71_11, w_71_13, w_71_14, w_71_17, w_71_18, w_71_21, w_71_22, w_71_23, w_71_26, w_71_27, w_71_28, w_71_31, w_71_34, w_71_37, w_71_38, mm_k_none, mm_k_int, mm_k_ref, mm_k_null, mm_K_inl, mm_tl_some, mm_tl_none, mm_fg_ok, mm_rc_ok, mm_fp_ok, mm_ai_ok, mm_si_ok, mm_az_ok, mm_sz_ok, z01, z11, zb, b2i_t, b2i_f, true_and, and_true, r_at, r_at_1, r_at_2, r_at_3, r_at_4, r_at_5, r_at_6, r_at_7, r_at_8, r_at_9, r_at_10, r_at_11, r_at_12, r_at_13, r_at_14, r_at_15, r_at_16, r_at_17, r_set_1, r_set_2, r_set_3, r_set_4, r_set_5, r_set_6, r_set_7, r_set_8, r_set_9, r_set_10, r_set_11, r_set_12, r_set_13, r_set_14, r_set_15, r_set_16, r_set_17, r_set_f, r_set_n, r_g_0, r_g_1, r_g_2, r_g_3, r_g_4, r_g_5, r_g_6, r_g_7, r_g_8, r_g_9, r_g_10, r_g_11, r_g_12, r_g_13, r_g_14, r_g_15, r_g_16, r_g_17, r_g_18, r_olen, Nat.zero_le, Nat.not_lt_zero, if_true, if_false, m1_lt, m1_ge, mm_inT, pk_mul, nI_add, mm_in_nI, mm_cl_nI, nI_eq, nI_ltI, nI_leI, e, hnk, hq1', nI_eq, Nat.reduceEqDiff]
theorem Rf_show_no (hW : WF T σ) {ρ : RS} (hR : RRel σ ρ) (hn : n < sN σ) (hs : stale σ n = true) : ∃ f, ∀ Q, WPC X (d + 5) 71 [.ref rm, .int (nI n)] (mm_R rm ρ M) Q = Q (.inl (some (.int (nI 0)))) (mm_R rm (r_put ρ 15 f) M) := by
  obtain ⟨f, hf, hq⟩ := Rf_mark_eq (X := X) (d := d) (rm := rm) (M := M) hW hR hn
  refine ⟨f, fun Q => ?_⟩
  simp (disch := omega) only [e_71, w_71_0, w_71_1, w_71_2, w_71_5, w_71_8, w_71_9, w_71_10, w_71_11, w_71_13, w_71_14, w_71_17, w_71_18, w_71_21, w_71_22, w_71_23, w_71_26, w_71_27, w_71_28, w_71_31, w_71_34, w_71_37, w_71_38, mm_k_none, mm_k_int, mm_k_ref, mm_k_null, mm_K_inl, mm_tl_some, mm_tl_none, mm_fg_ok, mm_rc_ok, mm_fp_ok, mm_ai_ok, mm_si_ok, mm_az_ok, mm_sz_ok, z01, z11, zb, b2i_t, b2i_f, true_and, and_true, r_at, r_at_1, r_at_2, r_at_3, r_at_4, r_at_5, r_at_6, r_at_7, r_at_8, r_at_9, r_at_10, r_at_11, r_at_12, r_at_13, r_at_14, r_at_15, r_at_16, r_at_17, r_set_1, r_set_2, r_set_3, r_set_4, r_set_5, r_set_6, r_set_7, r_set_8, r_set_9, r_set_10, r_set_11, r_set_12, r_set_13, r_set_14, r_set_15, r_set_16, r_set_17, r_set_f, r_set_n, r_g_0, r_g_1, r_g_2, r_g_3, r_g_4, r_g_5, r_g_6, r_g_7, r_g_8, r_g_9, r_g_10, r_g_11, r_g_12, r_g_13, r_g_14, r_g_15, r_g_16, r_g_17, r_g_18, r_olen, Nat.zero_le, Nat.not_lt_zero, if_true, if_false, m1_lt, m1_ge, mm_inT, pk_mul, nI_add, mm_in_nI, mm_cl_nI, nI_eq, nI_ltI, nI_leI, hq, hs, nI_eq, Nat.reduceEqDiff]
theorem Rf_show_yes (hW : WF T σ) {ρ : RS} (hR : RRel σ ρ) (hn : n < sN σ) (hs : stale σ n = false) : ∃ ρ', sameP ρ ρ' ∧ shown σ ρ' n ∧ (∀ p, elAt ρ p (El σ p) → elAt ρ' p (El σ p)) ∧ ∀ Q, WPC X (d + 5) 71 [.ref rm, .int (nI n)] (mm_R rm ρ M) Q = Q (.inl (some (.int (nI 1)))) (mm_R rm ρ' M) := by
  obtain ⟨f, hf, hq⟩ := Rf_mark_eq (X := X) (d := d) (rm := rm) (M := M) hW hR hn
  obtain ⟨ρ', h1, h2, h3, hq2⟩ := Rf_show_lp (X := X) (d := d) (rm := rm) (M := M) hW hn hs (n + 1) 0 (r_put ρ 15 f) (by omega) (hR.same (sameP.put (by decide))) (by rw [r_put_at]; exact hf) (fun p hp => absurd hp (by omega))
  refine ⟨ρ', (sameP.put (by decide)).trans h1, h2, fun p hp => h3 p ?_, fun Q => ?_⟩
  · exact ⟨hp.1, by rw [r_put_ne (by decide)]; exact hp.2.1, fun i hi => by rw [r_put_ne (by decide)]; exact hp.2.2 i hi⟩
  · refine Eq.trans ?_ (hq2 Q)
    simp (disch := omega) only [e_71, w_71_0, w_71_1, w_71_2, w_71_5, w_71_8, w_71_9, w_71_10, w_71_11, w_71_13, w_71_14, w_71_17, w_71_18, w_71_21, w_71_22, w_71_23, w_71_26, w_71_27, w_71_28, w_71_31, w_71_34, w_71_37, w_71_38, mm_k_none, mm_k_int, mm_k_ref, mm_k_null, mm_K_inl, mm_tl_some, mm_tl_none, mm_fg_ok, mm_rc_ok, mm_fp_ok, mm_ai_ok, mm_si_ok, mm_az_ok, mm_sz_ok, z01, z11, zb, b2i_t, b2i_f, true_and, and_true, r_at, r_at_1, r_at_2, r_at_3, r_at_4, r_at_5, r_at_6, r_at_7, r_at_8, r_at_9, r_at_10, r_at_11, r_at_12, r_at_13, r_at_14, r_at_15, r_at_16, r_at_17, r_set_1, r_set_2, r_set_3, r_set_4, r_set_5, r_set_6, r_set_7, r_set_8, r_set_9, r_set_10, r_set_11, r_set_12, r_set_13, r_set_14, r_set_15, r_set_16, r_set_17, r_set_f, r_set_n, r_g_0, r_g_1, r_g_2, r_g_3, r_g_4, r_g_5, r_g_6, r_g_7, r_g_8, r_g_9, r_g_10, r_g_11, r_g_12, r_g_13, r_g_14, r_g_15, r_g_16, r_g_17, r_g_18, r_olen, Nat.zero_le, Nat.not_lt_zero, if_true, if_false, m1_lt, m1_ge, mm_inT, pk_mul, nI_add, mm_in_nI, mm_cl_nI, nI_eq, nI_ltI, nI_leI, hq, hs]
end RF8
