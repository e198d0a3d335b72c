/-! the reference: insertInto, takeFrom -/
/-- list l holds L -/
def lsAt (g : Nat → Int32) (l : Nat) (L : List Int32) : Prop := ∀ i (hi : i < L.length), g (24 * l + i) = L[i]
def outs (g g0 : Nat → Int32) (l : Nat) : Prop := ∀ q, q < 24 * l ∨ 24 * l + 24 ≤ q → g q = g0 q
section RF18
variable {X : Nat × Nat × (Nat → Int32)} {d rm T n m a b N to : Nat} {σ : Sg} {ρ : RS} {M : mm_M} {Q : mm_Out → mm_M → Prop}
theorem RRel_setL (hR : RRel σ ρ) {l c : Nat} {L : List Int32} {ρ' : RS} (e0 : ρ'.2.1 = ρ.2.1) (ej : ∀ j, j < 10 → ρ'.2.2 j = ρ.2.2 j) (e10 : lsAt (ρ'.2.2 10) l L) (e10' : outs (ρ'.2.2 10) (ρ.2.2 10) l) (e11 : ρ'.2.2 11 = upd (ρ.2.2 11) l (nI L.length)) (e12 : ρ'.2.2 12 = upd (ρ.2.2 12) l (nI (sC σ l + c))) (eo : ∀ q, q < 8 * (l / 8) ∨ 8 * (l / 8) + 8 ≤ q → ρ'.2.2 13 q = ρ.2.2 13 q) (eo2 : ∀ q, q ≠ l / 8 → ρ'.2.2 14 q = ρ.2.2 14 q) (e14 : repO (ρ'.2.2 13) (ρ'.2.2 14) (l / 8) (if sK σ (l / 8) = 6 then ordR (sR σ (l / 8)) (l % 8) L else sR σ (l / 8))) (h24 : ∀ q, (sS σ q).length ≤ 24) (h8 : ∀ q, (sR σ q).length ≤ 8) : RRel (setL σ l L c) ρ' := by
  refine ⟨e0.trans hR.1, fun h hh => ?_, fun n hn => ?_, fun q hq => ?_, fun n hn => ?_⟩
  · rw [ej 1 (by decide)]; exact hR.2.1 h hh
  · rw [ej 2 (by decide), ej 3 (by decide), ej 4 (by decide), ej 5 (by decide), ej 6 (by decide), ej 7 (by decide), ej 8 (by decide), ej 9 (by decide)]
    exact hR.2.2.1 n hn
  · show ρ'.2.2 11 q = nI (ud (sS σ) l L q).length ∧ ρ'.2.2 12 q = nI (ud (sC σ) l (sC σ l + c) q) ∧ ∀ i (hi : i < (ud (sS σ) l L q).length), ρ'.2.2 10 (24 * q + i) = (ud (sS σ) l L q)[i]
    rw [e11, e12]
    by_cases e : q = l
    · subst e
      refine ⟨by rw [up_at, ud_at], by rw [up_at, ud_at], fun i hi => ?_⟩
      simp only [ud_at] at hi ⊢
      exact e10 i hi
    · refine ⟨by rw [up_ne e, ud_ne e]; exact hR.c hq, by rw [up_ne e, ud_ne e]; exact (hR.2.2.2.1 q hq).2.1, fun i hi => ?_⟩
      simp only [ud_ne e] at hi ⊢
      have := h24 q
      rw [e10' _ (by omega)]
      exact hR.i hq hi
  · show ρ'.2.2 14 n = nI ((if sK σ (l / 8) = 6 then ud (sR σ) (l / 8) (ordR (sR σ (l / 8)) (l % 8) L) else sR σ) n).length ∧ ∀ i (hi : i < ((if sK σ (l / 8) = 6 then ud (sR σ) (l / 8) (ordR (sR σ (l / 8)) (l % 8) L) else sR σ) n).length), ρ'.2.2 13 (8 * n + i) = nI ((if sK σ (l / 8) = 6 then ud (sR σ) (l / 8) (ordR (sR σ (l / 8)) (l % 8) L) else sR σ) n)[i]
    by_cases e : n = l / 8
    · subst e
      have ee : (if sK σ (l / 8) = 6 then ud (sR σ) (l / 8) (ordR (sR σ (l / 8)) (l % 8) L) else sR σ) (l / 8) = (if sK σ (l / 8) = 6 then ordR (sR σ (l / 8)) (l % 8) L else sR σ (l / 8)) := by
        by_cases z : sK σ (l / 8) = 6
        · rw [if_pos z, if_pos z, ud_at]
        · rw [if_neg z, if_neg z]
      simp only [ee]
      exact e14
    · have ee : (if sK σ (l / 8) = 6 then ud (sR σ) (l / 8) (ordR (sR σ (l / 8)) (l % 8) L) else sR σ) n = sR σ n := by
        by_cases z : sK σ (l / 8) = 6
        · rw [if_pos z, ud_ne e]
        · rw [if_neg z]
      simp only [ee]
      rw [eo2 n e]
      refine ⟨hR.rl hn, fun i hi => ?_⟩
      have := h8 n
      rw [eo _ (by omega)]
      exact hR.ri hn hi
theorem Rf_ins_lp {l i : Nat} {L : List Int32} (hl : l < 320) (hi : i ≤ L.length) (hL : L.length < 24) {v : Int32} {g0 : Nat → Int32} : ∀ (j k : Nat) (g : Nat → Int32), j + i = k → k ≤ L.length → (∀ q (h : q < L.length), q < k → g (24 * l + q) = L[q]) → (∀ q (h : q < L.length), k ≤ q → g (24 * l + (q + 1)) = L[q]) → outs g g0 l → ∃ g', lsAt (upd g' (24 * l + i) v) l (insAt L i v) ∧ outs g' g0 l ∧ ∀ Q, WP X d 101 8 [some (.ref rm), some (.int (nI l)), some (.int (nI i)), some (.int v), some (.int (nI k))] [] (mm_R rm (r_put ρ 10 g) M) Q = WP X d 101 46 [some (.ref rm), some (.int (nI l)), some (.int (nI i)), some (.int v), some (.int (nI i))] [] (mm_R rm (r_put ρ 10 g') M) Q := by
  intro j
  induction j with
  | zero =>
    intro k g hk hkL h1 h2 h3
    have hki : k = i := by omega
    subst hki
    refine ⟨g, fun q hq => ?_, h3, fun Q => ?_⟩
    · have hl2 := insAt_len (v := v) hi
      by_cases z : q < k
      · rw [up_ne (by omega), insAt_lt hi z]
        exact h1 q (by omega) z
      · by_cases z2 : q = k
        · subst z2
          rw [up_at, insAt_eq hi]
        · rw [up_ne (by omega), insAt_gt hi (by omega)]
          obtain ⟨q', rfl⟩ : ∃ q', q = q' + 1 := ⟨q - 1, by omega⟩
          exact h2 q' (by omega) (by omega)
    · rw [w_101_8]
      simp (disch := omega) only [w_101_0, w_101_1, w_101_4, w_101_5, w_101_6, w_101_10, w_101_11, w_101_14, w_101_15, w_101_18, w_101_20, w_101_21, w_101_22, w_101_24, w_101_25, w_101_26, w_101_29, w_101_31, w_101_32, w_101_33, w_101_35, w_101_36, w_101_37, w_101_38, w_101_39, w_101_40, w_101_43, w_101_47, w_101_50, w_101_52, w_101_53, w_101_54, w_101_55, w_101_56, w_101_57, w_101_58, w_101_59, w_101_62, w_101_63, w_101_64, w_101_65, w_101_66, w_101_67, w_101_68, w_101_69, w_101_70, w_101_73, mm_k_none, mm_k_int, mm_k_ref, mm_k_null, mm_K_inl, mm_tl_some, mm_tl_none, mm_fg_ok, mm_rc_ok, mm_fp_ok, mm_ai_ok, mm_si_ok, mm_az_ok, mm_sz_ok, z01, z11, zb, b2i_t, b2i_f, true_and, and_true, r_at, r_at_1, r_at_2, r_at_3, r_at_4, r_at_5, r_at_6, r_at_7, r_at_8, r_at_9, r_at_10, r_at_11, r_at_12, r_at_13, r_at_14, r_at_15, r_at_16, r_at_17, r_set_1, r_set_2, r_set_3, r_set_4, r_set_5, r_set_6, r_set_7, r_set_8, r_set_9, r_set_10, r_set_11, r_set_12, r_set_13, r_set_14, r_set_15, r_set_16, r_set_17, r_set_f, r_set_n, r_g_0, r_g_1, r_g_2, r_g_3, r_g_4, r_g_5, r_g_6, r_g_7, r_g_8, r_g_9, r_g_10, r_g_11, r_g_12, r_g_13, r_g_14, r_g_15, r_g_16, r_g_17, r_g_18, r_olen, Nat.zero_le, Nat.not_lt_zero, if_true, if_false, m1_lt, m1_ge, mm_inT, pk_mul, nI_add, mm_in_nI, mm_cl_nI, nI_eq, nI_ltI, nI_leI, ↓reduceIte, Nat.add_zero, Nat.reduceLeDiff, oI_some, oI_none, m1_lt, nI_lt0, Rf_fail_eq, Rf_out_eq, eq_self, not_true_eq_false, not_false_eq_true, Nat.reduceEqDiff, Nat.reduceLT, ne_eq, or_true, true_or, or_false, false_or, decide_true, decide_false, Bool.true_eq_false, Bool.false_eq_true, b2i_ne, Nat.le_refl]
  | succ j ih =>
    intro k g hk hkL h1 h2 h3
    obtain ⟨k', rfl⟩ : ∃ k', k = k' + 1 := ⟨k - 1, by omega⟩
    obtain ⟨g', a1, a2, hq⟩ := ih k' (upd g (24 * l + (k' + 1)) (g (24 * l + k'))) (by omega) (by omega) (fun q h hq => by
      rw [up_ne (by omega)]; exact h1 q h (by omega)) (fun q h hq => by
      by_cases z : q = k'
      · subst z
        rw [up_at]; exact h1 q h (by omega)
      · rw [up_ne (by omega)]; exact h2 q h (by omega)) (fun q hq => by rw [up_ne (by omega)]; exact h3 q hq)
    refine ⟨g', a1, a2, fun Q => Eq.trans ?_ (hq Q)⟩
    have e : ¬ k' + 1 ≤ i := by omega
    have e2 : 24 * l + (k' + 1) - 1 = 24 * l + k' := by omega
    rw [w_101_8]
    simp (disch := omega) only [w_101_0, w_101_1, w_101_4, w_101_5, w_101_6, w_101_10, w_101_11, w_101_14, w_101_15, w_101_18, w_101_20, w_101_21, w_101_22, w_101_24, w_101_25, w_101_26, w_101_29, w_101_31, w_101_32, w_101_33, w_101_35, w_101_36, w_101_37, w_101_38, w_101_39, w_101_40, w_101_43, w_101_47, w_101_50, w_101_52, w_101_53, w_101_54, w_101_55, w_101_56, w_101_57, w_101_58, w_101_59, w_101_62, w_101_63, w_101_64, w_101_65, w_101_66, w_101_67, w_101_68, w_101_69, w_101_70, w_101_73, mm_k_none, mm_k_int, mm_k_ref, mm_k_null, mm_K_inl, mm_tl_some, mm_tl_none, mm_fg_ok, mm_rc_ok, mm_fp_ok, mm_ai_ok, mm_si_ok, mm_az_ok, mm_sz_ok, z01, z11, zb, b2i_t, b2i_f, true_and, and_true, r_at, r_at_1, r_at_2, r_at_3, r_at_4, r_at_5, r_at_6, r_at_7, r_at_8, r_at_9, r_at_10, r_at_11, r_at_12, r_at_13, r_at_14, r_at_15, r_at_16, r_at_17, r_set_1, r_set_2, r_set_3, r_set_4, r_set_5, r_set_6, r_set_7, r_set_8, r_set_9, r_set_10, r_set_11, r_set_12, r_set_13, r_set_14, r_set_15, r_set_16, r_set_17, r_set_f, r_set_n, r_g_0, r_g_1, r_g_2, r_g_3, r_g_4, r_g_5, r_g_6, r_g_7, r_g_8, r_g_9, r_g_10, r_g_11, r_g_12, r_g_13, r_g_14, r_g_15, r_g_16, r_g_17, r_g_18, r_olen, Nat.zero_le, Nat.not_lt_zero, if_true, if_false, m1_lt, m1_ge, mm_inT, pk_mul, nI_add, mm_in_nI, mm_cl_nI, nI_eq, nI_ltI, nI_leI, ↓reduceIte, Nat.add_zero, Nat.reduceLeDiff, oI_some, oI_none, m1_lt, nI_lt0, Rf_fail_eq, Rf_out_eq, eq_self, not_true_eq_false, not_false_eq_true, Nat.reduceEqDiff, Nat.reduceLT, ne_eq, or_true, true_or, or_false, false_or, decide_true, decide_false, Bool.true_eq_false, Bool.false_eq_true, b2i_ne, e, r_put_at, r_putput, nI_m, e2, nI_dI, dI_s]
theorem Rf_del_lp {l i : Nat} {L : List Int32} (hl : l < 320) (hi : i < L.length) (hL : L.length ≤ 24) (h11 : ρ.2.2 11 l = nI (L.length - 1)) {g0 : Nat → Int32} {x2 : Int32} : ∀ (j k : Nat) (g : Nat → Int32), j + k = L.length - 1 → i ≤ k → (∀ q (h : q < L.length), q < i ∨ k ≤ q → g (24 * l + q) = L[q]) → (∀ q (h : q + 1 < L.length), i ≤ q → q < k → g (24 * l + q) = L[q + 1]) → outs g g0 l → ∃ g', lsAt g' l (delAt L i) ∧ outs g' g0 l ∧ ∀ Q, WP X d 108 12 [some (.ref rm), some (.int (nI l)), some (.int x2), some (.int (nI k))] [] (mm_R rm (r_put ρ 10 g) M) Q = WP X d 108 52 [some (.ref rm), some (.int (nI l)), some (.int x2), some (.int (nI (L.length - 1)))] [] (mm_R rm (r_put ρ 10 g') M) Q := by
  intro j
  induction j with
  | zero =>
    intro k g hk hik h1 h2 h3
    have hkL : k = L.length - 1 := by omega
    subst hkL
    refine ⟨g, fun q hq => ?_, h3, fun Q => ?_⟩
    · have hl2 := delAt_len hi
      by_cases z : q < i
      · rw [delAt_lt hi z]
        exact h1 q (by omega) (Or.inl z)
      · rw [delAt_ge hi (by omega)]
        exact h2 q (by omega) (by omega) (by omega)
    · rw [w_108_12]
      simp (disch := omega) only [w_108_0, w_108_1, w_108_4, w_108_5, w_108_6, w_108_7, w_108_8, w_108_9, w_108_10, w_108_11, w_108_13, w_108_14, w_108_17, w_108_18, w_108_19, w_108_22, w_108_23, w_108_26, w_108_28, w_108_29, w_108_30, w_108_31, w_108_32, w_108_33, w_108_36, w_108_38, w_108_39, w_108_40, w_108_41, w_108_42, w_108_43, w_108_44, w_108_45, w_108_46, w_108_49, w_108_53, w_108_54, w_108_57, mm_k_none, mm_k_int, mm_k_ref, mm_k_null, mm_K_inl, mm_tl_some, mm_tl_none, mm_fg_ok, mm_rc_ok, mm_fp_ok, mm_ai_ok, mm_si_ok, mm_az_ok, mm_sz_ok, z01, z11, zb, b2i_t, b2i_f, true_and, and_true, r_at, r_at_1, r_at_2, r_at_3, r_at_4, r_at_5, r_at_6, r_at_7, r_at_8, r_at_9, r_at_10, r_at_11, r_at_12, r_at_13, r_at_14, r_at_15, r_at_16, r_at_17, r_set_1, r_set_2, r_set_3, r_set_4, r_set_5, r_set_6, r_set_7, r_set_8, r_set_9, r_set_10, r_set_11, r_set_12, r_set_13, r_set_14, r_set_15, r_set_16, r_set_17, r_set_f, r_set_n, r_g_0, r_g_1, r_g_2, r_g_3, r_g_4, r_g_5, r_g_6, r_g_7, r_g_8, r_g_9, r_g_10, r_g_11, r_g_12, r_g_13, r_g_14, r_g_15, r_g_16, r_g_17, r_g_18, r_olen, Nat.zero_le, Nat.not_lt_zero, if_true, if_false, m1_lt, m1_ge, mm_inT, pk_mul, nI_add, mm_in_nI, mm_cl_nI, nI_eq, nI_ltI, nI_leI, ↓reduceIte, Nat.add_zero, Nat.reduceLeDiff, oI_some, oI_none, m1_lt, nI_lt0, Rf_fail_eq, Rf_out_eq, eq_self, not_true_eq_false, not_false_eq_true, Nat.reduceEqDiff, Nat.reduceLT, ne_eq, or_true, true_or, or_false, false_or, decide_true, decide_false, Bool.true_eq_false, Bool.false_eq_true, b2i_ne, r_put_ne, h11, Nat.le_refl]
  | succ j ih =>
    intro k g hk hik h1 h2 h3
    obtain ⟨g', a1, a2, hq⟩ := ih (k + 1) (upd g (24 * l + k) (g (24 * l + (k + 1)))) (by omega) (by omega) (fun q h hq => by
      rw [up_ne (by omega)]; exact h1 q h (by omega)) (fun q h hq hq2 => by
      by_cases z : q = k
      · subst z
        rw [up_at]; exact h1 (q + 1) h (by omega)
      · rw [up_ne (by omega)]; exact h2 q h hq (by omega)) (fun q hq => by rw [up_ne (by omega)]; exact h3 q hq)
    refine ⟨g', a1, a2, fun Q => Eq.trans ?_ (hq Q)⟩
    have e : ¬ L.length - 1 ≤ k := by omega
    rw [w_108_12]
    simp (disch := omega) only [w_108_0, w_108_1, w_108_4, w_108_5, w_108_6, w_108_7, w_108_8, w_108_9, w_108_10, w_108_11, w_108_13, w_108_14, w_108_17, w_108_18, w_108_19, w_108_22, w_108_23, w_108_26, w_108_28, w_108_29, w_108_30, w_108_31, w_108_32, w_108_33, w_108_36, w_108_38, w_108_39, w_108_40, w_108_41, w_108_42, w_108_43, w_108_44, w_108_45, w_108_46, w_108_49, w_108_53, w_108_54, w_108_57, mm_k_none, mm_k_int, mm_k_ref, mm_k_null, mm_K_inl, mm_tl_some, mm_tl_none, mm_fg_ok, mm_rc_ok, mm_fp_ok, mm_ai_ok, mm_si_ok, mm_az_ok, mm_sz_ok, z01, z11, zb, b2i_t, b2i_f, true_and, and_true, r_at, r_at_1, r_at_2, r_at_3, r_at_4, r_at_5, r_at_6, r_at_7, r_at_8, r_at_9, r_at_10, r_at_11, r_at_12, r_at_13, r_at_14, r_at_15, r_at_16, r_at_17, r_set_1, r_set_2, r_set_3, r_set_4, r_set_5, r_set_6, r_set_7, r_set_8, r_set_9, r_set_10, r_set_11, r_set_12, r_set_13, r_set_14, r_set_15, r_set_16, r_set_17, r_set_f, r_set_n, r_g_0, r_g_1, r_g_2, r_g_3, r_g_4, r_g_5, r_g_6, r_g_7, r_g_8, r_g_9, r_g_10, r_g_11, r_g_12, r_g_13, r_g_14, r_g_15, r_g_16, r_g_17, r_g_18, r_olen, Nat.zero_le, Nat.not_lt_zero, if_true, if_false, m1_lt, m1_ge, mm_inT, pk_mul, nI_add, mm_in_nI, mm_cl_nI, nI_eq, nI_ltI, nI_leI, ↓reduceIte, Nat.add_zero, Nat.reduceLeDiff, oI_some, oI_none, m1_lt, nI_lt0, Rf_fail_eq, Rf_out_eq, eq_self, not_true_eq_false, not_false_eq_true, Nat.reduceEqDiff, Nat.reduceLT, ne_eq, or_true, true_or, or_false, false_or, decide_true, decide_false, Bool.true_eq_false, Bool.false_eq_true, b2i_ne, e, r_put_ne, h11, r_put_at, r_putput, Nat.add_assoc]
theorem WF.c (hW : WF T σ) (l : Nat) : sC σ l ≤ T ∧ T < 1000000 := ⟨hW.2.2.2.2.1 l, hW.2.1⟩
/-- what a change of a list needs to know -/
theorem chg_pre (hW : WF T σ) (hR : RRel σ ρ) {l : Nat} (hl : l < 8 * sN σ) : repO (ρ.2.2 13) (ρ.2.2 14) (l / 8) (sR σ (l / 8)) ∧ (sK σ (l / 8) = 6 → (sR σ (l / 8)).Nodup ∧ ∀ k, k ∈ sR σ (l / 8) → k < 8) := by
  have h40 := hW.n40
  refine ⟨⟨hR.rl (by omega), fun i hi => hR.ri (by omega) hi⟩, fun h6 => ?_⟩
  obtain ⟨-, h1, h2⟩ := hW.rk (show l / 8 < sN σ by omega) h6
  exact ⟨h1, fun k hk => ((h2 k).1 hk).1⟩
theorem Rf_insertInto_eq (hW : WF T σ) (hR : RRel σ ρ) {l i : Nat} {v : Int32} (hl : l < 8 * sN σ) (hL : (sS σ l).length < 24) (hi : i ≤ (sS σ l).length) : ∃ ρ', RRel (setL σ l (insAt (sS σ l) i v) 1) ρ' ∧ ρ'.1 = ρ.1 ∧ (∀ j, 15 ≤ j → ρ'.2.2 j = ρ.2.2 j) ∧ ∀ Q, WPC X (d + 2) 101 [.ref rm, .int (nI l), .int (nI i), .int v] (mm_R rm ρ M) Q = Q (.inl none) (mm_R rm ρ' M) := by
  have h40 := hW.n40
  have hl320 : l < 320 := by omega
  have hn : l / 8 < sN σ := by omega
  have hC := hW.c l
  obtain ⟨hO, h6⟩ := chg_pre hW hR hl
  obtain ⟨g', a1, a2, hq1⟩ := Rf_ins_lp (X := X) (d := d + 2) (rm := rm) (M := M) (ρ := ρ) (v := v) hl320 hi hL (g0 := ρ.2.2 10) ((sS σ l).length - i) (sS σ l).length (ρ.2.2 10) (by omega) (Nat.le_refl _) (fun q h _ => hR.i hl320 h) (fun q h h2 => by omega) (fun q _ => rfl)
  rw [r_put_self] at hq1
  have hl2 := insAt_len (v := v) hi
  obtain ⟨f13, f14, b1, b2, b3, hq2⟩ := Rf_changed_eq (X := X) (d := d) (rm := rm) (M := M) (ρ := r_put (r_put ρ 10 (upd g' (24 * l + i) v)) 11 (upd (ρ.2.2 11) l (nI ((sS σ l).length + 1)))) (l := l) (κ := sK σ (l / 8)) (c := sC σ l) (m := (sS σ l).length + 1) (R := sR σ (l / 8)) hl320 (by rw [r_put_ne (by decide), r_put_ne (by decide)]; exact hR.k hn) (hW.k12 hn) (by rw [r_put_ne (by decide), r_put_ne (by decide)]; exact (hR.2.2.2.1 l hl320).2.1) (by rw [r_put_at, up_at]) (by omega) (by rw [r_put_ne (by decide), r_put_ne (by decide), r_put_ne (by decide), r_put_ne (by decide)]; exact hO) h6
  have e12 : (r_put (r_put ρ 10 (upd g' (24 * l + i) v)) 11 (upd (ρ.2.2 11) l (nI ((sS σ l).length + 1)))).2.2 12 = ρ.2.2 12 := by rw [r_put_ne (by decide), r_put_ne (by decide)]
  have e13 : (r_put (r_put ρ 10 (upd g' (24 * l + i) v)) 11 (upd (ρ.2.2 11) l (nI ((sS σ l).length + 1)))).2.2 13 = ρ.2.2 13 := by rw [r_put_ne (by decide), r_put_ne (by decide)]
  have e14 : (r_put (r_put ρ 10 (upd g' (24 * l + i) v)) 11 (upd (ρ.2.2 11) l (nI ((sS σ l).length + 1)))).2.2 14 = ρ.2.2 14 := by rw [r_put_ne (by decide), r_put_ne (by decide)]
  rw [e12] at hq2
  rw [e13] at b2
  rw [e14] at b3
  refine ⟨r_put (r_put (r_put (r_put (r_put ρ 10 (upd g' (24 * l + i) v)) 11 (upd (ρ.2.2 11) l (nI ((sS σ l).length + 1)))) 12 (upd (ρ.2.2 12) l (nI (sC σ l + 1)))) 13 f13) 14 f14, ?_, rfl, fun j hj => by rw [r_put_ne (by omega), r_put_ne (by omega), r_put_ne (by omega), r_put_ne (by omega), r_put_ne (by omega)], fun Q => ?_⟩
  · refine RRel_setL hR rfl (fun j hj => by rw [r_put_ne (by omega), r_put_ne (by omega), r_put_ne (by omega), r_put_ne (by omega), r_put_ne (by omega)]) ?_ ?_ ?_ ?_ ?_ ?_ ?_ hW.s24 hW.r8
    · rw [r_put_ne (by decide), r_put_ne (by decide), r_put_ne (by decide), r_put_ne (by decide), r_put_at]; exact a1
    · rw [r_put_ne (by decide), r_put_ne (by decide), r_put_ne (by decide), r_put_ne (by decide), r_put_at]
      exact fun q hq => by rw [up_ne (by omega)]; exact a2 q hq
    · rw [r_put_ne (by decide), r_put_ne (by decide), r_put_ne (by decide), r_put_at, hl2]
    · rw [r_put_ne (by decide), r_put_ne (by decide), r_put_at]
    · rw [r_put_ne (by decide), r_put_at]; exact b2
    · rw [r_put_at]; exact b3
    · rw [r_put_ne (by decide), r_put_at, r_put_at, ordR_M, hl2]; exact b1
  · simp (disch := omega) only [e_101, w_101_0, w_101_1, w_101_4, w_101_5, w_101_6, w_101_10, w_101_11, w_101_14, w_101_15, w_101_18, w_101_20, w_101_21, w_101_22, w_101_24, w_101_25, w_101_26, w_101_29, w_101_31, w_101_32, w_101_33, w_101_35, w_101_36, w_101_37, w_101_38, w_101_39, w_101_40, w_101_43, w_101_47, w_101_50, w_101_52, w_101_53, w_101_54, w_101_55, w_101_56, w_101_57, w_101_58, w_101_59, w_101_62, w_101_63, w_101_64, w_101_65, w_101_66, w_101_67, w_101_68, w_101_69, w_101_70, w_101_73, mm_k_none, mm_k_int, mm_k_ref, mm_k_null, mm_K_inl, mm_tl_some, mm_tl_none, mm_fg_ok, mm_rc_ok, mm_fp_ok, mm_ai_ok, mm_si_ok, mm_az_ok, mm_sz_ok, z01, z11, zb, b2i_t, b2i_f, true_and, and_true, r_at, r_at_1, r_at_2, r_at_3, r_at_4, r_at_5, r_at_6, r_at_7, r_at_8, r_at_9, r_at_10, r_at_11, r_at_12, r_at_13, r_at_14, r_at_15, r_at_16, r_at_17, r_set_1, r_set_2, r_set_3, r_set_4, r_set_5, r_set_6, r_set_7, r_set_8, r_set_9, r_set_10, r_set_11, r_set_12, r_set_13, r_set_14, r_set_15, r_set_16, r_set_17, r_set_f, r_set_n, r_g_0, r_g_1, r_g_2, r_g_3, r_g_4, r_g_5, r_g_6, r_g_7, r_g_8, r_g_9, r_g_10, r_g_11, r_g_12, r_g_13, r_g_14, r_g_15, r_g_16, r_g_17, r_g_18, r_olen, Nat.zero_le, Nat.not_lt_zero, if_true, if_false, m1_lt, m1_ge, mm_inT, pk_mul, nI_add, mm_in_nI, mm_cl_nI, nI_eq, nI_ltI, nI_leI, ↓reduceIte, Nat.add_zero, Nat.reduceLeDiff, oI_some, oI_none, m1_lt, nI_lt0, Rf_fail_eq, Rf_out_eq, eq_self, not_true_eq_false, not_false_eq_true, Nat.reduceEqDiff, Nat.reduceLT, ne_eq, or_true, true_or, or_false, false_or, decide_true, decide_false, Bool.true_eq_false, Bool.false_eq_true, b2i_ne, hR.c hl320]
    rw [hq1]
    simp (disch := omega) only [w_101_0, w_101_1, w_101_4, w_101_5, w_101_6, w_101_10, w_101_11, w_101_14, w_101_15, w_101_18, w_101_20, w_101_21, w_101_22, w_101_24, w_101_25, w_101_26, w_101_29, w_101_31, w_101_32, w_101_33, w_101_35, w_101_36, w_101_37, w_101_38, w_101_39, w_101_40, w_101_43, w_101_46, w_101_47, w_101_50, w_101_52, w_101_53, w_101_54, w_101_55, w_101_56, w_101_57, w_101_58, w_101_59, w_101_62, w_101_63, w_101_64, w_101_65, w_101_66, w_101_67, w_101_68, w_101_69, w_101_70, w_101_73, mm_k_none, mm_k_int, mm_k_ref, mm_k_null, mm_K_inl, mm_tl_some, mm_tl_none, mm_fg_ok, mm_rc_ok, mm_fp_ok, mm_ai_ok, mm_si_ok, mm_az_ok, mm_sz_ok, z01, z11, zb, b2i_t, b2i_f, true_and, and_true, r_at, r_at_1, r_at_2, r_at_3, r_at_4, r_at_5, r_at_6, r_at_7, r_at_8, r_at_9, r_at_10, r_at_11, r_at_12, r_at_13, r_at_14, r_at_15, r_at_16, r_at_17, r_set_1, r_set_2, r_set_3, r_set_4, r_set_5, r_set_6, r_set_7, r_set_8, r_set_9, r_set_10, r_set_11, r_set_12, r_set_13, r_set_14, r_set_15, r_set_16, r_set_17, r_set_f, r_set_n, r_g_0, r_g_1, r_g_2, r_g_3, r_g_4, r_g_5, r_g_6, r_g_7, r_g_8, r_g_9, r_g_10, r_g_11, r_g_12, r_g_13, r_g_14, r_g_15, r_g_16, r_g_17, r_g_18, r_olen, Nat.zero_le, Nat.not_lt_zero, if_true, if_false, m1_lt, m1_ge, mm_inT, pk_mul, nI_add, mm_in_nI, mm_cl_nI, nI_eq, nI_ltI, nI_leI, ↓reduceIte, Nat.add_zero, Nat.reduceLeDiff, oI_some, oI_none, m1_lt, nI_lt0, Rf_fail_eq, Rf_out_eq, eq_self, not_true_eq_false, not_false_eq_true, Nat.reduceEqDiff, Nat.reduceLT, ne_eq, or_true, true_or, or_false, false_or, decide_true, decide_false, Bool.true_eq_false, Bool.false_eq_true, b2i_ne, r_put_at, r_putput, r_put_ne, hR.c hl320, hq2]
theorem Rf_takeFrom_eq (hW : WF T σ) (hR : RRel σ ρ) {l i : Nat} (hl : l < 8 * sN σ) (hi : i < (sS σ l).length) : ∃ ρ', RRel (setL σ l (delAt (sS σ l) i) 1) ρ' ∧ ρ'.1 = ρ.1 ∧ (∀ j, 15 ≤ j → ρ'.2.2 j = ρ.2.2 j) ∧ ∀ Q, WPC X (d + 2) 108 [.ref rm, .int (nI l), .int (nI i)] (mm_R rm ρ M) Q = Q (.inl none) (mm_R rm ρ' M) := by
  have h40 := hW.n40
  have hl320 : l < 320 := by omega
  have hn : l / 8 < sN σ := by omega
  have hC := hW.c l
  have h24 := hW.s24 l
  obtain ⟨hO, h6⟩ := chg_pre hW hR hl
  obtain ⟨g', a1, a2, hq1⟩ := Rf_del_lp (X := X) (d := d + 2) (rm := rm) (M := M) (ρ := r_put ρ 11 (upd (ρ.2.2 11) l (nI ((sS σ l).length - 1)))) (x2 := nI i) hl320 hi h24 (by rw [r_put_at, up_at]) (g0 := ρ.2.2 10) ((sS σ l).length - 1 - i) i (ρ.2.2 10) (by omega) (Nat.le_refl _) (fun q h _ => hR.i hl320 h) (fun q h h2 h3 => by omega) (fun q _ => rfl)
  have e10 : r_put (r_put ρ 11 (upd (ρ.2.2 11) l (nI ((sS σ l).length - 1)))) 10 (ρ.2.2 10) = r_put ρ 11 (upd (ρ.2.2 11) l (nI ((sS σ l).length - 1))) := by
    rw [r_put_comm (by decide), r_put_self]
  rw [e10] at hq1
  have hl2 := delAt_len hi
  obtain ⟨f13, f14, b1, b2, b3, hq2⟩ := Rf_changed_eq (X := X) (d := d) (rm := rm) (M := M) (ρ := r_put (r_put ρ 11 (upd (ρ.2.2 11) l (nI ((sS σ l).length - 1)))) 10 g') (l := l) (κ := sK σ (l / 8)) (c := sC σ l) (m := (sS σ l).length - 1) (R := sR σ (l / 8)) hl320 (by rw [r_put_ne (by decide), r_put_ne (by decide)]; exact hR.k hn) (hW.k12 hn) (by rw [r_put_ne (by decide), r_put_ne (by decide)]; exact (hR.2.2.2.1 l hl320).2.1) (by rw [r_put_ne (by decide), r_put_at, up_at]) (by omega) (by rw [r_put_ne (by decide), r_put_ne (by decide), r_put_ne (by decide), r_put_ne (by decide)]; exact hO) h6
  have e12 : (r_put (r_put ρ 11 (upd (ρ.2.2 11) l (nI ((sS σ l).length - 1)))) 10 g').2.2 12 = ρ.2.2 12 := by rw [r_put_ne (by decide), r_put_ne (by decide)]
  have e13 : (r_put (r_put ρ 11 (upd (ρ.2.2 11) l (nI ((sS σ l).length - 1)))) 10 g').2.2 13 = ρ.2.2 13 := by rw [r_put_ne (by decide), r_put_ne (by decide)]
  have e14 : (r_put (r_put ρ 11 (upd (ρ.2.2 11) l (nI ((sS σ l).length - 1)))) 10 g').2.2 14 = ρ.2.2 14 := by rw [r_put_ne (by decide), r_put_ne (by decide)]
  rw [e12] at hq2
  rw [e13] at b2
  rw [e14] at b3
  refine ⟨r_put (r_put (r_put (r_put (r_put ρ 11 (upd (ρ.2.2 11) l (nI ((sS σ l).length - 1)))) 10 g') 12 (upd (ρ.2.2 12) l (nI (sC σ l + 1)))) 13 f13) 14 f14, ?_, rfl, fun j hj => by rw [r_put_ne (by omega), r_put_ne (by omega), r_put_ne (by omega), r_put_ne (by omega), r_put_ne (by omega)], fun Q => ?_⟩
  · refine RRel_setL hR rfl (fun j hj => by rw [r_put_ne (by omega), r_put_ne (by omega), r_put_ne (by omega), r_put_ne (by omega), r_put_ne (by omega)]) ?_ ?_ ?_ ?_ ?_ ?_ ?_ hW.s24 hW.r8
    · rw [r_put_ne (by decide), r_put_ne (by decide), r_put_ne (by decide), r_put_at]; exact a1
    · rw [r_put_ne (by decide), r_put_ne (by decide), r_put_ne (by decide), r_put_at]; exact a2
    · rw [r_put_ne (by decide), r_put_ne (by decide), r_put_ne (by decide), r_put_ne (by decide), r_put_at, hl2]
    · rw [r_put_ne (by decide), r_put_ne (by decide), r_put_at]
    · rw [r_put_ne (by decide), r_put_at]; exact b2
    · rw [r_put_at]; exact b3
    · rw [r_put_ne (by decide), r_put_at, r_put_at, ordR_M, hl2]; exact b1
  · simp (disch := omega) only [e_108, w_108_0, w_108_1, w_108_4, w_108_5, w_108_6, w_108_7, w_108_8, w_108_9, w_108_10, w_108_11, w_108_13, w_108_14, w_108_17, w_108_18, w_108_19, w_108_22, w_108_23, w_108_26, w_108_28, w_108_29, w_108_30, w_108_31, w_108_32, w_108_33, w_108_36, w_108_38, w_108_39, w_108_40, w_108_41, w_108_42, w_108_43, w_108_44, w_108_45, w_108_46, w_108_49, w_108_53, w_108_54, w_108_57, mm_k_none, mm_k_int, mm_k_ref, mm_k_null, mm_K_inl, mm_tl_some, mm_tl_none, mm_fg_ok, mm_rc_ok, mm_fp_ok, mm_ai_ok, mm_si_ok, mm_az_ok, mm_sz_ok, z01, z11, zb, b2i_t, b2i_f, true_and, and_true, r_at, r_at_1, r_at_2, r_at_3, r_at_4, r_at_5, r_at_6, r_at_7, r_at_8, r_at_9, r_at_10, r_at_11, r_at_12, r_at_13, r_at_14, r_at_15, r_at_16, r_at_17, r_set_1, r_set_2, r_set_3, r_set_4, r_set_5, r_set_6, r_set_7, r_set_8, r_set_9, r_set_10, r_set_11, r_set_12, r_set_13, r_set_14, r_set_15, r_set_16, r_set_17, r_set_f, r_set_n, r_g_0, r_g_1, r_g_2, r_g_3, r_g_4, r_g_5, r_g_6, r_g_7, r_g_8, r_g_9, r_g_10, r_g_11, r_g_12, r_g_13, r_g_14, r_g_15, r_g_16, r_g_17, r_g_18, r_olen, Nat.zero_le, Nat.not_lt_zero, if_true, if_false, m1_lt, m1_ge, mm_inT, pk_mul, nI_add, mm_in_nI, mm_cl_nI, nI_eq, nI_ltI, nI_leI, ↓reduceIte, Nat.add_zero, Nat.reduceLeDiff, oI_some, oI_none, m1_lt, nI_lt0, Rf_fail_eq, Rf_out_eq, eq_self, not_true_eq_false, not_false_eq_true, Nat.reduceEqDiff, Nat.reduceLT, ne_eq, or_true, true_or, or_false, false_or, decide_true, decide_false, Bool.true_eq_false, Bool.false_eq_true, b2i_ne, hR.c hl320, nI_m]
    rw [hq1]
    simp (disch := omega) only [w_108_0, w_108_1, w_108_4, w_108_5, w_108_6, w_108_7, w_108_8, w_108_9, w_108_10, w_108_11, w_108_13, w_108_14, w_108_17, w_108_18, w_108_19, w_108_22, w_108_23, w_108_26, w_108_28, w_108_29, w_108_30, w_108_31, w_108_32, w_108_33, w_108_36, w_108_38, w_108_39, w_108_40, w_108_41, w_108_42, w_108_43, w_108_44, w_108_45, w_108_46, w_108_49, w_108_52, w_108_53, w_108_54, w_108_57, mm_k_none, mm_k_int, mm_k_ref, mm_k_null, mm_K_inl, mm_tl_some, mm_tl_none, mm_fg_ok, mm_rc_ok, mm_fp_ok, mm_ai_ok, mm_si_ok, mm_az_ok, mm_sz_ok, z01, z11, zb, b2i_t, b2i_f, true_and, and_true, r_at, r_at_1, r_at_2, r_at_3, r_at_4, r_at_5, r_at_6, r_at_7, r_at_8, r_at_9, r_at_10, r_at_11, r_at_12, r_at_13, r_at_14, r_at_15, r_at_16, r_at_17, r_set_1, r_set_2, r_set_3, r_set_4, r_set_5, r_set_6, r_set_7, r_set_8, r_set_9, r_set_10, r_set_11, r_set_12, r_set_13, r_set_14, r_set_15, r_set_16, r_set_17, r_set_f, r_set_n, r_g_0, r_g_1, r_g_2, r_g_3, r_g_4, r_g_5, r_g_6, r_g_7, r_g_8, r_g_9, r_g_10, r_g_11, r_g_12, r_g_13, r_g_14, r_g_15, r_g_16, r_g_17, r_g_18, r_olen, Nat.zero_le, Nat.not_lt_zero, if_true, if_false, m1_lt, m1_ge, mm_inT, pk_mul, nI_add, mm_in_nI, mm_cl_nI, nI_eq, nI_ltI, nI_leI, ↓reduceIte, Nat.add_zero, Nat.reduceLeDiff, oI_some, oI_none, m1_lt, nI_lt0, Rf_fail_eq, Rf_out_eq, eq_self, not_true_eq_false, not_false_eq_true, Nat.reduceEqDiff, Nat.reduceLT, ne_eq, or_true, true_or, or_false, false_or, decide_true, decide_false, Bool.true_eq_false, Bool.false_eq_true, b2i_ne, hq2]
end RF18
