/-! the class: sortOnce -/
section CL7
variable {X : Nat × Nat × (Nat → Int32)} {d T n c m : Nat} {Λ : Lay} {σ : Sg} {β : CS} {M : mm_M} {Q : mm_Out → mm_M → Prop}
/-- the place among those in order -/
theorem Lc_sort_1 (hW : WF T σ) (hL : LK Λ σ) (hB : isB σ c m) {S : List Int32} (hb : bfAt β c m S) (hl : S.length ≤ c_len σ c m) {v : Int32} {l1 : Option Value} {x3 : Int32} : ∀ (j k : Nat), j + k = S.length → (∀ q (h : q < S.length), q < k → S[q] < v) → ∃ p, p ≤ S.length ∧ (∀ q (h : q < S.length), q < p → S[q] < v) ∧ (∀ h : p < S.length, ¬ S[p] < v) ∧ ∀ Q, WP X d 33 17 [some (.ref (Λ.1 c m)), l1, some (.int (nI S.length)), some (.int x3), some (.int v), some (.int (nI k))] [] (mm_C Λ σ β M) Q = WP X d 33 38 [some (.ref (Λ.1 c m)), l1, some (.int (nI S.length)), some (.int x3), some (.int v), some (.int (nI p))] [] (mm_C Λ σ β M) Q := by
  have g2 := c_len_le hW hB
  intro j
  induction j with
  | zero =>
    intro k hk h
    have e : S.length ≤ k := by omega
    refine ⟨k, by omega, h, fun z => by omega, fun Q => ?_⟩
    rw [w_33_17]
    simp (disch := omega) only [w_33_0, w_33_1, w_33_2, w_33_3, w_33_5, w_33_6, w_33_9, w_33_10, w_33_11, w_33_12, w_33_14, w_33_15, w_33_19, w_33_20, w_33_23, w_33_24, w_33_26, w_33_27, w_33_29, w_33_32, w_33_35, w_33_40, w_33_41, w_33_44, w_33_45, w_33_47, w_33_48, w_33_50, w_33_53, w_33_54, w_33_56, w_33_57, w_33_59, w_33_60, w_33_61, w_33_62, w_33_64, w_33_65, w_33_68, w_33_69, w_33_71, w_33_73, w_33_74, w_33_77, w_33_80, w_33_83, w_33_84, mm_k_none, mm_k_int, mm_k_ref, mm_k_null, mm_K_inl, mm_tl_some, mm_tl_none, mm_fg_ok, mm_rc_ok, mm_fp_ok, mm_ai_ok, mm_si_ok, mm_az_ok, mm_sz_ok, z01, z11, zb, b2i_t, b2i_f, true_and, and_true, Nat.zero_le, Nat.not_lt_zero, if_true, if_false, m1_lt, m1_ge, mm_inT, pk_mul, nI_add, mm_in_nI, mm_cl_nI, nI_eq, nI_ltI, nI_leI, ↓reduceIte, Nat.add_zero, Nat.reduceLeDiff, oI_some, oI_none, m1_lt, nI_lt0, Rf_fail_eq, Rf_out_eq, eq_self, not_true_eq_false, not_false_eq_true, Nat.reduceEqDiff, Nat.reduceLT, ne_eq, or_true, true_or, or_false, false_or, decide_true, decide_false, Bool.true_eq_false, Bool.false_eq_true, b2i_ne, e]
  | succ j ih =>
    intro k hk h
    have e : ¬ S.length ≤ k := by omega
    have hkl : k < S.length := by omega
    by_cases hv : S[k] < v
    · obtain ⟨p, p1, p2, p3, hq⟩ := ih (k + 1) (by omega) (fun q hq hqk => by
        by_cases z : q = k
        · subst z; exact hv
        · exact h q hq (by omega))
      refine ⟨p, p1, p2, p3, fun Q => Eq.trans ?_ (hq Q)⟩
      have hv2 : ¬ v ≤ S[k] := fun z => Int32.not_le.2 hv z
      rw [w_33_17]
      simp (disch := omega) only [w_33_0, w_33_1, w_33_2, w_33_3, w_33_5, w_33_6, w_33_9, w_33_10, w_33_11, w_33_12, w_33_14, w_33_15, w_33_19, w_33_20, w_33_23, w_33_24, w_33_26, w_33_27, w_33_29, w_33_32, w_33_35, w_33_40, w_33_41, w_33_44, w_33_45, w_33_47, w_33_48, w_33_50, w_33_53, w_33_54, w_33_56, w_33_57, w_33_59, w_33_60, w_33_61, w_33_62, w_33_64, w_33_65, w_33_68, w_33_69, w_33_71, w_33_73, w_33_74, w_33_77, w_33_80, w_33_83, w_33_84, mm_k_none, mm_k_int, mm_k_ref, mm_k_null, mm_K_inl, mm_tl_some, mm_tl_none, mm_fg_ok, mm_rc_ok, mm_fp_ok, mm_ai_ok, mm_si_ok, mm_az_ok, mm_sz_ok, z01, z11, zb, b2i_t, b2i_f, true_and, and_true, Nat.zero_le, Nat.not_lt_zero, if_true, if_false, m1_lt, m1_ge, mm_inT, pk_mul, nI_add, mm_in_nI, mm_cl_nI, nI_eq, nI_ltI, nI_leI, ↓reduceIte, Nat.add_zero, Nat.reduceLeDiff, oI_some, oI_none, m1_lt, nI_lt0, Rf_fail_eq, Rf_out_eq, eq_self, not_true_eq_false, not_false_eq_true, Nat.reduceEqDiff, Nat.reduceLT, ne_eq, or_true, true_or, or_false, false_or, decide_true, decide_false, Bool.true_eq_false, Bool.false_eq_true, b2i_ne, e, c_b_at hL hB, hb k hkl, hv2]
    · refine ⟨k, by omega, h, fun _ => hv, fun Q => ?_⟩
      have hv2 : v ≤ S[k] := Int32.not_lt.1 hv
      rw [w_33_17]
      simp (disch := omega) only [w_33_0, w_33_1, w_33_2, w_33_3, w_33_5, w_33_6, w_33_9, w_33_10, w_33_11, w_33_12, w_33_14, w_33_15, w_33_19, w_33_20, w_33_23, w_33_24, w_33_26, w_33_27, w_33_29, w_33_32, w_33_35, w_33_40, w_33_41, w_33_44, w_33_45, w_33_47, w_33_48, w_33_50, w_33_53, w_33_54, w_33_56, w_33_57, w_33_59, w_33_60, w_33_61, w_33_62, w_33_64, w_33_65, w_33_68, w_33_69, w_33_71, w_33_73, w_33_74, w_33_77, w_33_80, w_33_83, w_33_84, mm_k_none, mm_k_int, mm_k_ref, mm_k_null, mm_K_inl, mm_tl_some, mm_tl_none, mm_fg_ok, mm_rc_ok, mm_fp_ok, mm_ai_ok, mm_si_ok, mm_az_ok, mm_sz_ok, z01, z11, zb, b2i_t, b2i_f, true_and, and_true, Nat.zero_le, Nat.not_lt_zero, if_true, if_false, m1_lt, m1_ge, mm_inT, pk_mul, nI_add, mm_in_nI, mm_cl_nI, nI_eq, nI_ltI, nI_leI, ↓reduceIte, Nat.add_zero, Nat.reduceLeDiff, oI_some, oI_none, m1_lt, nI_lt0, Rf_fail_eq, Rf_out_eq, eq_self, not_true_eq_false, not_false_eq_true, Nat.reduceEqDiff, Nat.reduceLT, ne_eq, or_true, true_or, or_false, false_or, decide_true, decide_false, Bool.true_eq_false, Bool.false_eq_true, b2i_ne, e, c_b_at hL hB, hb k hkl, hv2]
theorem Lc_sort_lp (hW : WF T σ) (hL : LK Λ σ) (hB : isB σ c m) {L : List Int32} (hl : L.length < c_len σ c m ∨ (L.length ≤ c_len σ c m)) : ∀ (j k : Nat) (l4 l5 : Option Value) (β : CS), j + k = L.length → bfAt β c m (srt (L.take k)) → (∀ i (h : i < L.length), k ≤ i → β.1 c m i = L[i]) → ∃ f, bfAt (c_put β c m f) c m (srt L) ∧ ∀ Q, WP X (d + 1) 33 4 [some (.ref (Λ.1 c m)), some (.int (nI L.length)), some (.int (nI (srt (L.take k)).length)), some (.int (nI k)), l4, l5] [] (mm_C Λ σ β M) Q = Q (.inl (some (.int (nI (srt L).length)))) (mm_C Λ σ (c_put β c m f) M) := by
  have g2 := c_len_le hW hB
  intro j
  induction j with
  | zero =>
    intro k l4 l5 β hk hb h
    have e : L.length ≤ k := by omega
    rw [List.take_of_length_le e] at hb ⊢
    refine ⟨β.1 c m, by rw [c_put_self]; exact hb, fun Q => ?_⟩
    rw [c_put_self, w_33_4]
    simp (disch := omega) only [w_33_0, w_33_1, w_33_2, w_33_3, w_33_5, w_33_6, w_33_9, w_33_10, w_33_11, w_33_12, w_33_14, w_33_15, w_33_19, w_33_20, w_33_23, w_33_24, w_33_26, w_33_27, w_33_29, w_33_32, w_33_35, w_33_38, w_33_40, w_33_41, w_33_44, w_33_45, w_33_47, w_33_48, w_33_50, w_33_53, w_33_54, w_33_56, w_33_57, w_33_59, w_33_60, w_33_61, w_33_62, w_33_64, w_33_65, w_33_68, w_33_69, w_33_71, w_33_73, w_33_74, w_33_77, w_33_80, w_33_83, w_33_84, mm_k_none, mm_k_int, mm_k_ref, mm_k_null, mm_K_inl, mm_tl_some, mm_tl_none, mm_fg_ok, mm_rc_ok, mm_fp_ok, mm_ai_ok, mm_si_ok, mm_az_ok, mm_sz_ok, z01, z11, zb, b2i_t, b2i_f, true_and, and_true, Nat.zero_le, Nat.not_lt_zero, if_true, if_false, m1_lt, m1_ge, mm_inT, pk_mul, nI_add, mm_in_nI, mm_cl_nI, nI_eq, nI_ltI, nI_leI, ↓reduceIte, Nat.add_zero, Nat.reduceLeDiff, oI_some, oI_none, m1_lt, nI_lt0, Rf_fail_eq, Rf_out_eq, eq_self, not_true_eq_false, not_false_eq_true, Nat.reduceEqDiff, Nat.reduceLT, ne_eq, or_true, true_or, or_false, false_or, decide_true, decide_false, Bool.true_eq_false, Bool.false_eq_true, b2i_ne, e]
  | succ j ih =>
    intro k l4 l5 β hk hb h
    have e : ¬ L.length ≤ k := by omega
    have hkl : k < L.length := by omega
    have ht : L.take (k + 1) = L.take k ++ [L[k]] := List.take_succ_eq_append_getElem hkl
    have hs : srt (L.take (k + 1)) = ins1 L[k] (srt (L.take k)) := by rw [ht, srt_snoc]
    have hkl2 : (srt (L.take k)).length ≤ k := by
      rw [srt_len]
      have := fol_le (L := L.take k)
      rw [List.length_take] at this
      omega
    have hlc : L.length ≤ c_len σ c m := by omega
    obtain ⟨p, p1, p2, p3, hq1⟩ := Lc_sort_1 (X := X) (d := d + 1) (M := M) (l1 := some (.int (nI L.length))) (x3 := nI k) (v := L[k]) hW hL hB hb (by omega) (srt (L.take k)).length 0 (by omega) (fun q _ h => by omega)
    obtain ⟨i1, i2⟩ := ins1_pos p1 p2 p3
    have ek := h k hkl (Nat.le_refl _)
    have pre : ∀ Q, WP X (d + 1) 33 4 [some (.ref (Λ.1 c m)), some (.int (nI L.length)), some (.int (nI (srt (L.take k)).length)), some (.int (nI k)), l4, l5] [] (mm_C Λ σ β M) Q = WP X (d + 1) 33 38 [some (.ref (Λ.1 c m)), some (.int (nI L.length)), some (.int (nI (srt (L.take k)).length)), some (.int (nI k)), some (.int L[k]), some (.int (nI p))] [] (mm_C Λ σ β M) Q := by
      intro Q
      rw [← hq1, w_33_4]
      simp (disch := omega) only [w_33_0, w_33_1, w_33_2, w_33_3, w_33_5, w_33_6, w_33_9, w_33_10, w_33_11, w_33_12, w_33_14, w_33_15, w_33_19, w_33_20, w_33_23, w_33_24, w_33_26, w_33_27, w_33_29, w_33_32, w_33_35, w_33_40, w_33_41, w_33_44, w_33_45, w_33_47, w_33_48, w_33_50, w_33_53, w_33_54, w_33_56, w_33_57, w_33_59, w_33_60, w_33_61, w_33_62, w_33_64, w_33_65, w_33_68, w_33_69, w_33_71, w_33_73, w_33_74, w_33_77, w_33_80, w_33_83, w_33_84, mm_k_none, mm_k_int, mm_k_ref, mm_k_null, mm_K_inl, mm_tl_some, mm_tl_none, mm_fg_ok, mm_rc_ok, mm_fp_ok, mm_ai_ok, mm_si_ok, mm_az_ok, mm_sz_ok, z01, z11, zb, b2i_t, b2i_f, true_and, and_true, Nat.zero_le, Nat.not_lt_zero, if_true, if_false, m1_lt, m1_ge, mm_inT, pk_mul, nI_add, mm_in_nI, mm_cl_nI, nI_eq, nI_ltI, nI_leI, ↓reduceIte, Nat.add_zero, Nat.reduceLeDiff, oI_some, oI_none, m1_lt, nI_lt0, Rf_fail_eq, Rf_out_eq, eq_self, not_true_eq_false, not_false_eq_true, Nat.reduceEqDiff, Nat.reduceLT, ne_eq, or_true, true_or, or_false, false_or, decide_true, decide_false, Bool.true_eq_false, Bool.false_eq_true, b2i_ne, e, c_b_at hL hB, ek]
    by_cases hex : ∃ h : p < (srt (L.take k)).length, (srt (L.take k))[p] = L[k]
    · obtain ⟨hp, hv⟩ := hex
      have e2 := i1 hp hv
      rw [e2] at hs
      obtain ⟨f, hf, hq⟩ := ih (k + 1) (some (.int L[k])) (some (.int (nI p))) β (by omega) (by rw [hs]; exact hb) (fun i hi hik => h i hi (by omega))
      rw [hs] at hq
      refine ⟨f, hf, fun Q => Eq.trans ?_ (hq Q)⟩
      have g3 : ¬ p = (srt (L.take k)).length := by omega
      rw [pre]
      simp (disch := omega) only [w_33_0, w_33_1, w_33_2, w_33_3, w_33_5, w_33_6, w_33_9, w_33_10, w_33_11, w_33_12, w_33_14, w_33_15, w_33_19, w_33_20, w_33_23, w_33_24, w_33_26, w_33_27, w_33_29, w_33_32, w_33_35, w_33_38, w_33_40, w_33_41, w_33_44, w_33_45, w_33_47, w_33_48, w_33_50, w_33_53, w_33_54, w_33_56, w_33_57, w_33_59, w_33_60, w_33_61, w_33_62, w_33_64, w_33_65, w_33_68, w_33_69, w_33_71, w_33_73, w_33_74, w_33_77, w_33_80, w_33_83, w_33_84, mm_k_none, mm_k_int, mm_k_ref, mm_k_null, mm_K_inl, mm_tl_some, mm_tl_none, mm_fg_ok, mm_rc_ok, mm_fp_ok, mm_ai_ok, mm_si_ok, mm_az_ok, mm_sz_ok, z01, z11, zb, b2i_t, b2i_f, true_and, and_true, Nat.zero_le, Nat.not_lt_zero, if_true, if_false, m1_lt, m1_ge, mm_inT, pk_mul, nI_add, mm_in_nI, mm_cl_nI, nI_eq, nI_ltI, nI_leI, ↓reduceIte, Nat.add_zero, Nat.reduceLeDiff, oI_some, oI_none, m1_lt, nI_lt0, Rf_fail_eq, Rf_out_eq, eq_self, not_true_eq_false, not_false_eq_true, Nat.reduceEqDiff, Nat.reduceLT, ne_eq, or_true, true_or, or_false, false_or, decide_true, decide_false, Bool.true_eq_false, Bool.false_eq_true, b2i_ne, c_b_at hL hB, hb p hp, hv, g3]
    · have hne : ∀ h : p < (srt (L.take k)).length, (srt (L.take k))[p] ≠ L[k] := fun h z => hex ⟨h, z⟩
      have e2 := i2 hne
      rw [e2] at hs
      have hil := insAt_len (L := srt (L.take k)) (i := p) (v := L[k]) p1
      obtain ⟨f, hf, hq⟩ := ih (k + 1) (some (.int L[k])) (some (.int (nI p))) (c_put β c m (upd (va_cpy (β.1 c m) (β.1 c m) p (p + 1) ((srt (L.take k)).length - p)) p L[k])) (by omega) (by
        rw [hs]
        intro i hi
        rw [c_put_at]
        by_cases z : i = p
        · subst z
          rw [up_at, insAt_eq p1]
        · rw [up_ne z]
          by_cases z2 : i < p
          · rw [pk_cpy_out (by omega), insAt_lt p1 z2]
            exact hb i (by omega)
          · rw [pk_cpy_in (by omega) (by omega), insAt_gt p1 (by omega), show p + (i - (p + 1)) = i - 1 by omega]
            exact hb (i - 1) (by omega)) (fun i hi hik => by
        rw [c_put_at, up_ne (by omega), pk_cpy_out (by omega)]
        exact h i hi (by omega))
      rw [c_putput] at hf
      refine ⟨f, hf, fun Q => ?_⟩
      have hq' := hq Q
      rw [c_putput, hs, hil] at hq'
      refine Eq.trans ?_ hq'
      rw [pre]
      have hlk : k + 1 ≤ c_len σ c m := by omega
      by_cases hp : p = (srt (L.take k)).length
      · have e0 : (srt (L.take k)).length - p = 0 := by omega
        simp (disch := omega) only [w_33_0, w_33_1, w_33_2, w_33_3, w_33_5, w_33_6, w_33_9, w_33_10, w_33_11, w_33_12, w_33_14, w_33_15, w_33_19, w_33_20, w_33_23, w_33_24, w_33_26, w_33_27, w_33_29, w_33_32, w_33_35, w_33_38, w_33_40, w_33_41, w_33_44, w_33_45, w_33_47, w_33_48, w_33_50, w_33_53, w_33_54, w_33_56, w_33_57, w_33_59, w_33_60, w_33_61, w_33_62, w_33_64, w_33_65, w_33_68, w_33_69, w_33_71, w_33_73, w_33_74, w_33_77, w_33_80, w_33_83, w_33_84, mm_k_none, mm_k_int, mm_k_ref, mm_k_null, mm_K_inl, mm_tl_some, mm_tl_none, mm_fg_ok, mm_rc_ok, mm_fp_ok, mm_ai_ok, mm_si_ok, mm_az_ok, mm_sz_ok, z01, z11, zb, b2i_t, b2i_f, true_and, and_true, Nat.zero_le, Nat.not_lt_zero, if_true, if_false, m1_lt, m1_ge, mm_inT, pk_mul, nI_add, mm_in_nI, mm_cl_nI, nI_eq, nI_ltI, nI_leI, ↓reduceIte, Nat.add_zero, Nat.reduceLeDiff, oI_some, oI_none, m1_lt, nI_lt0, Rf_fail_eq, Rf_out_eq, eq_self, not_true_eq_false, not_false_eq_true, Nat.reduceEqDiff, Nat.reduceLT, ne_eq, or_true, true_or, or_false, false_or, decide_true, decide_false, Bool.true_eq_false, Bool.false_eq_true, b2i_ne, hp, c_b_at hL hB, c_set_b hL hB, mm_cpT, nI_m, c_put_at, c_putput]
      · have hp2 : p < (srt (L.take k)).length := by omega
        have hv := hne hp2
        simp (disch := omega) only [w_33_0, w_33_1, w_33_2, w_33_3, w_33_5, w_33_6, w_33_9, w_33_10, w_33_11, w_33_12, w_33_14, w_33_15, w_33_19, w_33_20, w_33_23, w_33_24, w_33_26, w_33_27, w_33_29, w_33_32, w_33_35, w_33_38, w_33_40, w_33_41, w_33_44, w_33_45, w_33_47, w_33_48, w_33_50, w_33_53, w_33_54, w_33_56, w_33_57, w_33_59, w_33_60, w_33_61, w_33_62, w_33_64, w_33_65, w_33_68, w_33_69, w_33_71, w_33_73, w_33_74, w_33_77, w_33_80, w_33_83, w_33_84, mm_k_none, mm_k_int, mm_k_ref, mm_k_null, mm_K_inl, mm_tl_some, mm_tl_none, mm_fg_ok, mm_rc_ok, mm_fp_ok, mm_ai_ok, mm_si_ok, mm_az_ok, mm_sz_ok, z01, z11, zb, b2i_t, b2i_f, true_and, and_true, Nat.zero_le, Nat.not_lt_zero, if_true, if_false, m1_lt, m1_ge, mm_inT, pk_mul, nI_add, mm_in_nI, mm_cl_nI, nI_eq, nI_ltI, nI_leI, ↓reduceIte, Nat.add_zero, Nat.reduceLeDiff, oI_some, oI_none, m1_lt, nI_lt0, Rf_fail_eq, Rf_out_eq, eq_self, not_true_eq_false, not_false_eq_true, Nat.reduceEqDiff, Nat.reduceLT, ne_eq, or_true, true_or, or_false, false_or, decide_true, decide_false, Bool.true_eq_false, Bool.false_eq_true, b2i_ne, hp, c_b_at hL hB, c_set_b hL hB, mm_cpT, nI_m, c_put_at, c_putput, hb p hp2, hv]
theorem Lc_sortOnce_eq (hW : WF T σ) (hL : LK Λ σ) (hB : isB σ c m) {L : List Int32} (hb : bfAt β c m L) (hl : L.length ≤ c_len σ c m) : ∃ f, bfAt (c_put β c m f) c m (srt L) ∧ ∀ Q, WPC X (d + 1) 33 [.ref (Λ.1 c m), .int (nI L.length)] (mm_C Λ σ β M) Q = Q (.inl (some (.int (nI (srt L).length)))) (mm_C Λ σ (c_put β c m f) M) := by
  obtain ⟨f, hf, hq⟩ := Lc_sort_lp (X := X) (d := d) (M := M) hW hL hB (L := L) (Or.inr hl) L.length 0 none none β (by omega) (fun i hi => by rw [List.take_zero] at hi; exact absurd hi (by simp [srt])) (fun i hi _ => hb i hi)
  refine ⟨f, hf, fun Q => Eq.trans ?_ (hq Q)⟩
  have e0 : (srt (L.take 0)).length = 0 := by rw [List.take_zero]; rfl
  rw [e0]
  simp only [e_33, w_33_0, w_33_1, w_33_2, w_33_3, w_33_5, w_33_6, w_33_9, w_33_10, w_33_11, w_33_12, w_33_14, w_33_15, w_33_19, w_33_20, w_33_23, w_33_24, w_33_26, w_33_27, w_33_29, w_33_32, w_33_35, w_33_38, w_33_40, w_33_41, w_33_44, w_33_45, w_33_47, w_33_48, w_33_50, w_33_53, w_33_54, w_33_56, w_33_57, w_33_59, w_33_60, w_33_61, w_33_62, w_33_64, w_33_65, w_33_68, w_33_69, w_33_71, w_33_73, w_33_74, w_33_77, w_33_80, w_33_83, w_33_84, mm_k_none, mm_k_int, mm_k_ref, mm_k_null, mm_K_inl, mm_tl_some, mm_tl_none, mm_fg_ok, mm_rc_ok, mm_fp_ok, mm_ai_ok, mm_si_ok, mm_az_ok, mm_sz_ok, z01, z11, zb, b2i_t, b2i_f, true_and, and_true]
end CL7
