/-! the reference: mark, show -/
theorem nI_dI' (m : Nat) : nI (m + 1) + (-1) = nI m := nI_dI (m + 1)
/-- what mark works out -/
def mkL (σ : Sg) : Nat → (Nat → Bool) → Bool → (Nat → Bool) × Bool
  | 0, g, st => (g, st)
  | m + 1, g, st => if g m = true then mkL σ m (fun k => g k || (kOne (sK σ m) && decide (k = sO σ m)) || (kTwo (sK σ m) && decide (k = sT σ m))) (st || lst1 σ m) else mkL σ m g st
section RF7
variable {X : Nat × Nat × (Nat → Int32)} {d rm T n m a b : Nat} {σ : Sg} {M : mm_M}
theorem rc_refl (hW : WF T σ) (hn : n < sN σ) : rc σ n n = true := by rw [rc_at hW hn]; simp
theorem mkL_rc (hW : WF T σ) : ∀ (m : Nat) (g : Nat → Bool) (st : Bool), m ≤ sN σ → (∀ k, (mkL σ m g st).1 k = true ↔ (g k = true ∨ ∃ p, p < m ∧ g p = true ∧ rc σ p k = true)) ∧ ((mkL σ m g st).2 = true ↔ (st = true ∨ ∃ p, p < m ∧ g p = true ∧ stale σ p = true)) := by
  intro m
  induction m with
  | zero => intro g st _; simp [mkL]
  | succ m ih =>
    intro g st hm
    have hlt : ∀ p, p < m + 1 ↔ p < m ∨ p = m := by omega
    unfold mkL
    by_cases hg : g m = true
    · rw [if_pos hg]
      obtain ⟨i1, i2⟩ := ih (fun k => g k || (kOne (sK σ m) && decide (k = sO σ m)) || (kTwo (sK σ m) && decide (k = sT σ m))) (st || lst1 σ m) (by omega)
      have rm' := rc_at hW (show m < sN σ by omega)
      have sm' := stale_at hW (show m < sN σ by omega)
      constructor
      · intro k
        rw [i1 k]
        constructor
        · rintro (h | ⟨p, hp, h, hr⟩)
          · simp only [Bool.or_eq_true, Bool.and_eq_true, decide_eq_true_eq] at h
            rcases h with (h | ⟨z, h⟩) | ⟨z, h⟩
            · exact Or.inl h
            · have := hW.o (show m < sN σ by omega) z
              refine Or.inr ⟨m, by omega, hg, ?_⟩
              rw [rm' k, h, z, rc_refl hW (by omega)]
              simp
            · have := hW.t (show m < sN σ by omega) z
              refine Or.inr ⟨m, by omega, hg, ?_⟩
              rw [rm' k, h, z, rc_refl hW (by omega)]
              simp
          · simp only [Bool.or_eq_true, Bool.and_eq_true, decide_eq_true_eq] at h
            rcases h with (h | ⟨z, h⟩) | ⟨z, h⟩
            · exact Or.inr ⟨p, by omega, h, hr⟩
            · refine Or.inr ⟨m, by omega, hg, ?_⟩
              rw [rm' k, z, ← h, hr]
              simp
            · refine Or.inr ⟨m, by omega, hg, ?_⟩
              rw [rm' k, z, ← h, hr]
              simp
        · rintro (h | ⟨p, hp, h, hr⟩)
          · left; simp [h]
          · rcases (hlt p).1 hp with hp | hp
            · exact Or.inr ⟨p, hp, by simp [h], hr⟩
            · subst hp
              rw [rm' k] at hr
              simp only [Bool.or_eq_true, Bool.and_eq_true, decide_eq_true_eq] at hr
              rcases hr with (hr | ⟨z, hr⟩) | ⟨z, hr⟩
              · left; simp [hr, hg]
              · have := hW.o (show p < sN σ by omega) z
                exact Or.inr ⟨sO σ p, this, by simp [z], hr⟩
              · have := hW.t (show p < sN σ by omega) z
                exact Or.inr ⟨sT σ p, this, by simp [z], hr⟩
      · rw [i2]
        constructor
        · rintro (h | ⟨p, hp, h, hr⟩)
          · simp only [Bool.or_eq_true] at h
            rcases h with h | h
            · exact Or.inl h
            · exact Or.inr ⟨m, by omega, hg, by rw [sm', h]; simp⟩
          · simp only [Bool.or_eq_true, Bool.and_eq_true, decide_eq_true_eq] at h
            rcases h with (h | ⟨z, h⟩) | ⟨z, h⟩
            · exact Or.inr ⟨p, by omega, h, hr⟩
            · exact Or.inr ⟨m, by omega, hg, by rw [sm', z, ← h, hr]; simp⟩
            · exact Or.inr ⟨m, by omega, hg, by rw [sm', z, ← h, hr]; simp⟩
        · rintro (h | ⟨p, hp, h, hr⟩)
          · left; simp [h]
          · rcases (hlt p).1 hp with hp | hp
            · exact Or.inr ⟨p, hp, by simp [h], hr⟩
            · subst hp
              rw [sm'] at hr
              simp only [Bool.or_eq_true, Bool.and_eq_true] at hr
              rcases hr with (hr | ⟨z, hr⟩) | ⟨z, hr⟩
              · left; simp [hr]
              · have := hW.o (show p < sN σ by omega) z
                exact Or.inr ⟨sO σ p, this, by simp [z], hr⟩
              · have := hW.t (show p < sN σ by omega) z
                exact Or.inr ⟨sT σ p, this, by simp [z], hr⟩
    · rw [if_neg hg]
      obtain ⟨i1, i2⟩ := ih g st (by omega)
      constructor
      · intro k
        rw [i1 k]
        constructor
        · rintro (h | ⟨p, hp, h, hr⟩)
          · exact Or.inl h
          · exact Or.inr ⟨p, by omega, h, hr⟩
        · rintro (h | ⟨p, hp, h, hr⟩)
          · exact Or.inl h
          · rcases (hlt p).1 hp with hp | hp
            · exact Or.inr ⟨p, hp, h, hr⟩
            · subst hp; exact absurd h hg
      · rw [i2]
        constructor
        · rintro (h | ⟨p, hp, h, hr⟩)
          · exact Or.inl h
          · exact Or.inr ⟨p, by omega, h, hr⟩
        · rintro (h | ⟨p, hp, h, hr⟩)
          · exact Or.inl h
          · rcases (hlt p).1 hp with hp | hp
            · exact Or.inr ⟨p, hp, h, hr⟩
            · subst hp; exact absurd h hg
theorem rc_two (hW : WF T σ) {k : Nat} : ∀ (n : Nat), n < sN σ → rc σ n k = true → k ≤ n ∧ (kOne (sK σ k) = true → rc σ n (sO σ k) = true) ∧ (kTwo (sK σ k) = true → rc σ n (sT σ k) = true) ∧ (stale σ n = false → stale σ k = false) := by
  intro n
  induction n using Nat.strongRecOn with
  | _ n ih =>
    intro hn h
    rw [rc_at hW hn] at h
    rw [rc_at hW hn, rc_at hW hn, stale_at hW hn]
    simp only [Bool.or_eq_true, Bool.and_eq_true, decide_eq_true_eq] at h
    rcases h with (h | ⟨z, h⟩) | ⟨z, h⟩
    · subst h
      refine ⟨Nat.le_refl _, fun z => ?_, fun z => ?_, fun z => ?_⟩
      · have := hW.o hn z
        simp [z, rc_refl hW (show sO σ k < sN σ by omega)]
      · have := hW.t hn z
        simp [z, rc_refl hW (show sT σ k < sN σ by omega)]
      · rw [stale_at hW hn]; exact z
    · have hl := hW.o hn z
      obtain ⟨i1, i2, i3, i4⟩ := ih _ hl (by omega) h
      refine ⟨by omega, fun y => ?_, fun y => ?_, fun y => ?_⟩
      · simp [z, i2 y]
      · simp [z, i3 y]
      · simp only [Bool.or_eq_false_iff, Bool.and_eq_false_iff, z] at y
        exact i4 (by simpa using y.1.2)
    · have hl := hW.t hn z
      obtain ⟨i1, i2, i3, i4⟩ := ih _ hl (by omega) h
      refine ⟨by omega, fun y => ?_, fun y => ?_, fun y => ?_⟩
      · simp [z, i2 y]
      · simp [z, i3 y]
      · simp only [Bool.or_eq_false_iff, Bool.and_eq_false_iff, z] at y
        exact i4 (by simpa using y.2)
theorem Rf_mark_1 (hn : n < 40) : ∀ (j k : Nat) (l3 : Option Value) (ρ : RS), j + k = 40 → (∀ i, i < k → ρ.2.2 15 i = b2i (decide (i = n))) → ∃ f, (∀ i, i < 40 → f i = b2i (decide (i = n))) ∧ ∀ Q, WP X (d + 4) 72 2 [some (.ref rm), some (.int (nI n)), some (.int (nI k)), l3] [] (mm_R rm ρ M) Q = WP X (d + 4) 72 34 [some (.ref rm), some (.int (nI n)), some (.int (nI 0)), some (.int (nI n))] [] (mm_R rm (r_put ρ 15 f) M) Q := by
  intro j
  induction j with
  | zero =>
    intro k l3 ρ hk h
    refine ⟨ρ.2.2 15, fun i hi => h i (by omega), fun Q => ?_⟩
    have hk40 : k = 40 := by omega
    subst hk40
    have e : r_put ρ 15 (ρ.2.2 15) = ρ := by
      unfold r_put
      have : (fun i => if i = 15 then ρ.2.2 15 else ρ.2.2 i) = ρ.2.2 := by
        funext i
        by_cases hi : i = 15
        · rw [hi]; simp
        · rw [if_neg hi]
      rw [this]
    rw [w_72_2, e]
    simp (disch := omega) only [w_72_0, w_72_1, w_72_3, w_72_5, w_72_8, w_72_9, w_72_12, w_72_13, w_72_14, w_72_15, w_72_18, w_72_19, w_72_22, w_72_23, w_72_24, w_72_27, w_72_30, w_72_31, w_72_32, w_72_33, w_72_35, w_72_38, w_72_39, w_72_42, w_72_43, w_72_44, w_72_47, w_72_50, w_72_51, w_72_54, w_72_55, w_72_56, w_72_57, w_72_60, w_72_61, w_72_64, w_72_65, w_72_66, w_72_67, w_72_68, w_72_71, w_72_72, w_72_73, w_72_76, w_72_79, w_72_80, w_72_81, w_72_82, w_72_85, w_72_86, w_72_87, w_72_90, w_72_91, w_72_94, w_72_95, w_72_98, w_72_99, w_72_100, w_72_101, w_72_102, w_72_103, w_72_106, w_72_107, w_72_108, w_72_111, w_72_112, w_72_115, w_72_116, w_72_119, w_72_120, w_72_121, w_72_122, w_72_123, w_72_126, w_72_129, w_72_130, mm_k_none, mm_k_int, mm_k_ref, mm_k_null, mm_K_inl, mm_tl_some, mm_tl_none, mm_fg_ok, mm_rc_ok, mm_fp_ok, mm_ai_ok, mm_si_ok, mm_az_ok, mm_sz_ok, z01, z11, zb, b2i_t, b2i_f, true_and, and_true, r_at, r_at_1, r_at_2, r_at_3, r_at_4, r_at_5, r_at_6, r_at_7, r_at_8, r_at_9, r_at_10, r_at_11, r_at_12, r_at_13, r_at_14, r_at_15, r_at_16, r_at_17, r_set_1, r_set_2, r_set_3, r_set_4, r_set_5, r_set_6, r_set_7, r_set_8, r_set_9, r_set_10, r_set_11, r_set_12, r_set_13, r_set_14, r_set_15, r_set_16, r_set_17, r_set_f, r_set_n, r_g_0, r_g_1, r_g_2, r_g_3, r_g_4, r_g_5, r_g_6, r_g_7, r_g_8, r_g_9, r_g_10, r_g_11, r_g_12, r_g_13, r_g_14, r_g_15, r_g_16, r_g_17, r_g_18, r_olen, Nat.zero_le, Nat.not_lt_zero, if_true, if_false, m1_lt, m1_ge, mm_inT, pk_mul, nI_add, mm_in_nI, mm_cl_nI, nI_eq, nI_ltI, nI_leI, Nat.le_refl]
  | succ j ih =>
    intro k l3 ρ hk h
    have e : ¬ 40 ≤ k := by omega
    obtain ⟨f, hf, hq⟩ := ih (k + 1) l3 (r_put ρ 15 (upd (ρ.2.2 15) k (b2i (decide (k = n))))) (by omega) (by
      intro i hi
      rw [r_put_at]
      unfold upd
      by_cases hik : i = k
      · rw [if_pos hik, hik]
      · rw [if_neg hik, h i (by omega)])
    refine ⟨f, hf, fun Q => ?_⟩
    rw [r_putput] at hq
    rw [← hq]
    rw [w_72_2]
    by_cases hkn : k = n
    · simp (disch := omega) only [w_72_0, w_72_1, w_72_3, w_72_5, w_72_8, w_72_9, w_72_12, w_72_13, w_72_14, w_72_15, w_72_18, w_72_19, w_72_22, w_72_23, w_72_24, w_72_27, w_72_30, w_72_31, w_72_32, w_72_33, w_72_35, w_72_38, w_72_39, w_72_42, w_72_43, w_72_44, w_72_47, w_72_50, w_72_51, w_72_54, w_72_55, w_72_56, w_72_57, w_72_60, w_72_61, w_72_64, w_72_65, w_72_66, w_72_67, w_72_68, w_72_71, w_72_72, w_72_73, w_72_76, w_72_79, w_72_80, w_72_81, w_72_82, w_72_85, w_72_86, w_72_87, w_72_90, w_72_91, w_72_94, w_72_95, w_72_98, w_72_99, w_72_100, w_72_101, w_72_102, w_72_103, w_72_106, w_72_107, w_72_108, w_72_111, w_72_112, w_72_115, w_72_116, w_72_119, w_72_120, w_72_121, w_72_122, w_72_123, w_72_126, w_72_129, w_72_130, mm_k_none, mm_k_int, mm_k_ref, mm_k_null, mm_K_inl, mm_tl_some, mm_tl_none, mm_fg_ok, mm_rc_ok, mm_fp_ok, mm_ai_ok, mm_si_ok, mm_az_ok, mm_sz_ok, z01, z11, zb, b2i_t, b2i_f, true_and, and_true, r_at, r_at_1, r_at_2, r_at_3, r_at_4, r_at_5, r_at_6, r_at_7, r_at_8, r_at_9, r_at_10, r_at_11, r_at_12, r_at_13, r_at_14, r_at_15, r_at_16, r_at_17, r_set_1, r_set_2, r_set_3, r_set_4, r_set_5, r_set_6, r_set_7, r_set_8, r_set_9, r_set_10, r_set_11, r_set_12, r_set_13, r_set_14, r_set_15, r_set_16, r_set_17, r_set_f, r_set_n, r_g_0, r_g_1, r_g_2, r_g_3, r_g_4, r_g_5, r_g_6, r_g_7, r_g_8, r_g_9, r_g_10, r_g_11, r_g_12, r_g_13, r_g_14, r_g_15, r_g_16, r_g_17, r_g_18, r_olen, Nat.zero_le, Nat.not_lt_zero, if_true, if_false, m1_lt, m1_ge, mm_inT, pk_mul, nI_add, mm_in_nI, mm_cl_nI, nI_eq, nI_ltI, nI_leI, e, show ¬ 40 ≤ n by omega, hkn, not_true_eq_false, decide_true, nar1]
    · simp (disch := omega) only [w_72_0, w_72_1, w_72_3, w_72_5, w_72_8, w_72_9, w_72_12, w_72_13, w_72_14, w_72_15, w_72_18, w_72_19, w_72_22, w_72_23, w_72_24, w_72_27, w_72_30, w_72_31, w_72_32, w_72_33, w_72_35, w_72_38, w_72_39, w_72_42, w_72_43, w_72_44, w_72_47, w_72_50, w_72_51, w_72_54, w_72_55, w_72_56, w_72_57, w_72_60, w_72_61, w_72_64, w_72_65, w_72_66, w_72_67, w_72_68, w_72_71, w_72_72, w_72_73, w_72_76, w_72_79, w_72_80, w_72_81, w_72_82, w_72_85, w_72_86, w_72_87, w_72_90, w_72_91, w_72_94, w_72_95, w_72_98, w_72_99, w_72_100, w_72_101, w_72_102, w_72_103, w_72_106, w_72_107, w_72_108, w_72_111, w_72_112, w_72_115, w_72_116, w_72_119, w_72_120, w_72_121, w_72_122, w_72_123, w_72_126, w_72_129, w_72_130, mm_k_none, mm_k_int, mm_k_ref, mm_k_null, mm_K_inl, mm_tl_some, mm_tl_none, mm_fg_ok, mm_rc_ok, mm_fp_ok, mm_ai_ok, mm_si_ok, mm_az_ok, mm_sz_ok, z01, z11, zb, b2i_t, b2i_f, true_and, and_true, r_at, r_at_1, r_at_2, r_at_3, r_at_4, r_at_5, r_at_6, r_at_7, r_at_8, r_at_9, r_at_10, r_at_11, r_at_12, r_at_13, r_at_14, r_at_15, r_at_16, r_at_17, r_set_1, r_set_2, r_set_3, r_set_4, r_set_5, r_set_6, r_set_7, r_set_8, r_set_9, r_set_10, r_set_11, r_set_12, r_set_13, r_set_14, r_set_15, r_set_16, r_set_17, r_set_f, r_set_n, r_g_0, r_g_1, r_g_2, r_g_3, r_g_4, r_g_5, r_g_6, r_g_7, r_g_8, r_g_9, r_g_10, r_g_11, r_g_12, r_g_13, r_g_14, r_g_15, r_g_16, r_g_17, r_g_18, r_olen, Nat.zero_le, Nat.not_lt_zero, if_true, if_false, m1_lt, m1_ge, mm_inT, pk_mul, nI_add, mm_in_nI, mm_cl_nI, nI_eq, nI_ltI, nI_leI, e, hkn, not_false_eq_true, decide_false, nar0]
def ndB (g : Nat → Bool) (f : Nat → Int32) : Prop := ∀ k, k < 40 → f k = b2i (g k)
theorem ndB.up {g : Nat → Bool} {f : Nat → Int32} (h : ndB g f) (a : Nat) : ndB (fun k => g k || decide (k = a)) (upd f a (nI 1)) := by
  intro k hk
  unfold upd
  by_cases hka : k = a
  · rw [if_pos hka]; simp [hka, b2i]
  · rw [if_neg hka, h k hk]; simp [hka]
theorem Rf_mark_st (hW : WF T σ) {ρ : RS} (hR : RRel σ ρ) (hm : m < sN σ) {g : Nat → Bool} (hg : g m = true) (h : ndB g (ρ.2.2 15)) {l1 : Option Value} {st : Bool} (h1 : mm_k l1 = l1) : ∃ f, ndB (fun k => g k || (kOne (sK σ m) && decide (k = sO σ m)) || (kTwo (sK σ m) && decide (k = sT σ m))) f ∧ ∀ Q, WP X (d + 4) 72 34 [some (.ref rm), l1, some (.int (b2i st)), some (.int (nI m))] [] (mm_R rm ρ M) Q = WP X (d + 4) 72 34 [some (.ref rm), l1, some (.int (b2i (st || lst1 σ m))), some (.int (dI m))] [] (mm_R rm (r_put ρ 15 f) M) Q := by
  have h40 := hW.n40
  have h12 := hW.k12 hm
  have hk := hR.k hm
  have hnd : ρ.2.2 15 m = nI 1 := by rw [h m (by omega), hg]; rfl
  have hc : sK σ m = 4 ∨ (¬ sK σ m = 4 ∧ (kOne (sK σ m) = true ∨ kOne (sK σ m) = false)) := by
    by_cases h4 : sK σ m = 4
    · exact Or.inl h4
    · exact Or.inr ⟨h4, by cases kOne (sK σ m) <;> simp⟩
  have e0 : r_put ρ 15 (ρ.2.2 15) = ρ := by
    unfold r_put
    have : (fun i => if i = 15 then ρ.2.2 15 else ρ.2.2 i) = ρ.2.2 := by
      funext i
      by_cases hi : i = 15
      · rw [hi]; simp
      · rw [if_neg hi]
    rw [this]
  have ht12 : kTwo (sK σ m) = true → kOne (sK σ m) = true := by
    intro z; simp [kTwo] at z; simp [kOne]; omega
  rcases hc with h4 | ⟨h4, z | z⟩
  · have z : kOne (sK σ m) = true := by rw [h4]; decide
    have z2 : kTwo (sK σ m) = false := by rw [h4]; decide
    have ho := hR.o hm z
    have hol := hW.o hm z
    have ht := hR.t' hm z2
    have hd := ((hR.2.2.1 m hm).2.2.2.2.1 h4).2
    have hch : ∀ Q, WPC X (d + 3) 73 [.ref rm, .int (nI (sO σ m))] (mm_R rm ρ M) Q = Q (.inl (some (.int (nI (ch σ (sO σ m)))))) (mm_R rm ρ M) := fun Q => Rf_changesOf_eq hW hR.no (by omega)
    have hT := hW.2.1
    have hcb : ch σ (sO σ m) ≤ T := by
      unfold ch
      split
      · exact hW.2.2.2.2.1 _
      · omega
    have hdb := (hW.e0 hm h4).2.2.2.1
    refine ⟨upd (ρ.2.2 15) (sO σ m) (nI 1), ?_, fun Q => ?_⟩
    · have := h.up (sO σ m)
      simpa [z, z2] using this
    · rw [w_72_34]
      by_cases hs : sD σ m = ch σ (sO σ m)
      · have hl : lst1 σ m = false := by simp [lst1, hs]
        simp (disch := omega) only [w_72_0, w_72_1, w_72_3, w_72_5, w_72_8, w_72_9, w_72_12, w_72_13, w_72_14, w_72_15, w_72_18, w_72_19, w_72_22, w_72_23, w_72_24, w_72_27, w_72_30, w_72_31, w_72_32, w_72_33, w_72_35, w_72_38, w_72_39, w_72_42, w_72_43, w_72_44, w_72_47, w_72_50, w_72_51, w_72_54, w_72_55, w_72_56, w_72_57, w_72_60, w_72_61, w_72_64, w_72_65, w_72_66, w_72_67, w_72_68, w_72_71, w_72_72, w_72_73, w_72_76, w_72_79, w_72_80, w_72_81, w_72_82, w_72_85, w_72_86, w_72_87, w_72_90, w_72_91, w_72_94, w_72_95, w_72_98, w_72_99, w_72_100, w_72_101, w_72_102, w_72_103, w_72_106, w_72_107, w_72_108, w_72_111, w_72_112, w_72_115, w_72_116, w_72_119, w_72_120, w_72_121, w_72_122, w_72_123, w_72_126, w_72_129, w_72_130, mm_k_none, mm_k_int, mm_k_ref, mm_k_null, mm_K_inl, mm_tl_some, mm_tl_none, mm_fg_ok, mm_rc_ok, mm_fp_ok, mm_ai_ok, mm_si_ok, mm_az_ok, mm_sz_ok, z01, z11, zb, b2i_t, b2i_f, true_and, and_true, r_at, r_at_1, r_at_2, r_at_3, r_at_4, r_at_5, r_at_6, r_at_7, r_at_8, r_at_9, r_at_10, r_at_11, r_at_12, r_at_13, r_at_14, r_at_15, r_at_16, r_at_17, r_set_1, r_set_2, r_set_3, r_set_4, r_set_5, r_set_6, r_set_7, r_set_8, r_set_9, r_set_10, r_set_11, r_set_12, r_set_13, r_set_14, r_set_15, r_set_16, r_set_17, r_set_f, r_set_n, r_g_0, r_g_1, r_g_2, r_g_3, r_g_4, r_g_5, r_g_6, r_g_7, r_g_8, r_g_9, r_g_10, r_g_11, r_g_12, r_g_13, r_g_14, r_g_15, r_g_16, r_g_17, r_g_18, r_olen, Nat.zero_le, Nat.not_lt_zero, if_true, if_false, m1_lt, m1_ge, mm_inT, pk_mul, nI_add, mm_in_nI, mm_cl_nI, nI_eq, nI_ltI, nI_leI, nI_lt0, hnd, nI_eq, Nat.reduceEqDiff, not_false_eq_true, hk, h4, eq_self, not_true_eq_false, hd, ho, hch, hs, ht, nar1, m1_lt, nI_dI, r_put_ne, ne_eq, hl, Bool.or_false, h1]
      · have hl : lst1 σ m = true := by simp [lst1, hs, h4]
        simp (disch := omega) only [w_72_0, w_72_1, w_72_3, w_72_5, w_72_8, w_72_9, w_72_12, w_72_13, w_72_14, w_72_15, w_72_18, w_72_19, w_72_22, w_72_23, w_72_24, w_72_27, w_72_30, w_72_31, w_72_32, w_72_33, w_72_35, w_72_38, w_72_39, w_72_42, w_72_43, w_72_44, w_72_47, w_72_50, w_72_51, w_72_54, w_72_55, w_72_56, w_72_57, w_72_60, w_72_61, w_72_64, w_72_65, w_72_66, w_72_67, w_72_68, w_72_71, w_72_72, w_72_73, w_72_76, w_72_79, w_72_80, w_72_81, w_72_82, w_72_85, w_72_86, w_72_87, w_72_90, w_72_91, w_72_94, w_72_95, w_72_98, w_72_99, w_72_100, w_72_101, w_72_102, w_72_103, w_72_106, w_72_107, w_72_108, w_72_111, w_72_112, w_72_115, w_72_116, w_72_119, w_72_120, w_72_121, w_72_122, w_72_123, w_72_126, w_72_129, w_72_130, mm_k_none, mm_k_int, mm_k_ref, mm_k_null, mm_K_inl, mm_tl_some, mm_tl_none, mm_fg_ok, mm_rc_ok, mm_fp_ok, mm_ai_ok, mm_si_ok, mm_az_ok, mm_sz_ok, z01, z11, zb, b2i_t, b2i_f, true_and, and_true, r_at, r_at_1, r_at_2, r_at_3, r_at_4, r_at_5, r_at_6, r_at_7, r_at_8, r_at_9, r_at_10, r_at_11, r_at_12, r_at_13, r_at_14, r_at_15, r_at_16, r_at_17, r_set_1, r_set_2, r_set_3, r_set_4, r_set_5, r_set_6, r_set_7, r_set_8, r_set_9, r_set_10, r_set_11, r_set_12, r_set_13, r_set_14, r_set_15, r_set_16, r_set_17, r_set_f, r_set_n, r_g_0, r_g_1, r_g_2, r_g_3, r_g_4, r_g_5, r_g_6, r_g_7, r_g_8, r_g_9, r_g_10, r_g_11, r_g_12, r_g_13, r_g_14, r_g_15, r_g_16, r_g_17, r_g_18, r_olen, Nat.zero_le, Nat.not_lt_zero, if_true, if_false, m1_lt, m1_ge, mm_inT, pk_mul, nI_add, mm_in_nI, mm_cl_nI, nI_eq, nI_ltI, nI_leI, nI_lt0, hnd, nI_eq, Nat.reduceEqDiff, not_false_eq_true, hk, h4, eq_self, not_true_eq_false, hd, ho, hch, hs, ht, nar1, m1_lt, nI_dI, r_put_ne, ne_eq, hl, Bool.or_true, h1]
  · have ho := hR.o hm z
    have hol := hW.o hm z
    have hl : lst1 σ m = false := by simp [lst1, h4]
    cases z2 : kTwo (sK σ m) with
    | false =>
      have ht := hR.t' hm z2
      refine ⟨upd (ρ.2.2 15) (sO σ m) (nI 1), ?_, fun Q => ?_⟩
      · have := h.up (sO σ m)
        simpa [z, z2] using this
      · rw [w_72_34]
        simp (disch := omega) only [w_72_0, w_72_1, w_72_3, w_72_5, w_72_8, w_72_9, w_72_12, w_72_13, w_72_14, w_72_15, w_72_18, w_72_19, w_72_22, w_72_23, w_72_24, w_72_27, w_72_30, w_72_31, w_72_32, w_72_33, w_72_35, w_72_38, w_72_39, w_72_42, w_72_43, w_72_44, w_72_47, w_72_50, w_72_51, w_72_54, w_72_55, w_72_56, w_72_57, w_72_60, w_72_61, w_72_64, w_72_65, w_72_66, w_72_67, w_72_68, w_72_71, w_72_72, w_72_73, w_72_76, w_72_79, w_72_80, w_72_81, w_72_82, w_72_85, w_72_86, w_72_87, w_72_90, w_72_91, w_72_94, w_72_95, w_72_98, w_72_99, w_72_100, w_72_101, w_72_102, w_72_103, w_72_106, w_72_107, w_72_108, w_72_111, w_72_112, w_72_115, w_72_116, w_72_119, w_72_120, w_72_121, w_72_122, w_72_123, w_72_126, w_72_129, w_72_130, mm_k_none, mm_k_int, mm_k_ref, mm_k_null, mm_K_inl, mm_tl_some, mm_tl_none, mm_fg_ok, mm_rc_ok, mm_fp_ok, mm_ai_ok, mm_si_ok, mm_az_ok, mm_sz_ok, z01, z11, zb, b2i_t, b2i_f, true_and, and_true, r_at, r_at_1, r_at_2, r_at_3, r_at_4, r_at_5, r_at_6, r_at_7, r_at_8, r_at_9, r_at_10, r_at_11, r_at_12, r_at_13, r_at_14, r_at_15, r_at_16, r_at_17, r_set_1, r_set_2, r_set_3, r_set_4, r_set_5, r_set_6, r_set_7, r_set_8, r_set_9, r_set_10, r_set_11, r_set_12, r_set_13, r_set_14, r_set_15, r_set_16, r_set_17, r_set_f, r_set_n, r_g_0, r_g_1, r_g_2, r_g_3, r_g_4, r_g_5, r_g_6, r_g_7, r_g_8, r_g_9, r_g_10, r_g_11, r_g_12, r_g_13, r_g_14, r_g_15, r_g_16, r_g_17, r_g_18, r_olen, Nat.zero_le, Nat.not_lt_zero, if_true, if_false, m1_lt, m1_ge, mm_inT, pk_mul, nI_add, mm_in_nI, mm_cl_nI, nI_eq, nI_ltI, nI_leI, nI_lt0, hnd, nI_eq, Nat.reduceEqDiff, not_false_eq_true, hk, h4, eq_self, not_true_eq_false, ho, ht, nar1, m1_lt, nI_dI, r_put_ne, ne_eq, hl, Bool.or_false, h1]
    | true =>
      have ht := hR.t hm z2
      have htl := hW.t hm z2
      refine ⟨upd (upd (ρ.2.2 15) (sO σ m) (nI 1)) (sT σ m) (nI 1), ?_, fun Q => ?_⟩
      · have := (h.up (sO σ m)).up (sT σ m)
        simpa [z, z2] using this
      · rw [w_72_34]
        simp (disch := omega) only [w_72_0, w_72_1, w_72_3, w_72_5, w_72_8, w_72_9, w_72_12, w_72_13, w_72_14, w_72_15, w_72_18, w_72_19, w_72_22, w_72_23, w_72_24, w_72_27, w_72_30, w_72_31, w_72_32, w_72_33, w_72_35, w_72_38, w_72_39, w_72_42, w_72_43, w_72_44, w_72_47, w_72_50, w_72_51, w_72_54, w_72_55, w_72_56, w_72_57, w_72_60, w_72_61, w_72_64, w_72_65, w_72_66, w_72_67, w_72_68, w_72_71, w_72_72, w_72_73, w_72_76, w_72_79, w_72_80, w_72_81, w_72_82, w_72_85, w_72_86, w_72_87, w_72_90, w_72_91, w_72_94, w_72_95, w_72_98, w_72_99, w_72_100, w_72_101, w_72_102, w_72_103, w_72_106, w_72_107, w_72_108, w_72_111, w_72_112, w_72_115, w_72_116, w_72_119, w_72_120, w_72_121, w_72_122, w_72_123, w_72_126, w_72_129, w_72_130, mm_k_none, mm_k_int, mm_k_ref, mm_k_null, mm_K_inl, mm_tl_some, mm_tl_none, mm_fg_ok, mm_rc_ok, mm_fp_ok, mm_ai_ok, mm_si_ok, mm_az_ok, mm_sz_ok, z01, z11, zb, b2i_t, b2i_f, true_and, and_true, r_at, r_at_1, r_at_2, r_at_3, r_at_4, r_at_5, r_at_6, r_at_7, r_at_8, r_at_9, r_at_10, r_at_11, r_at_12, r_at_13, r_at_14, r_at_15, r_at_16, r_at_17, r_set_1, r_set_2, r_set_3, r_set_4, r_set_5, r_set_6, r_set_7, r_set_8, r_set_9, r_set_10, r_set_11, r_set_12, r_set_13, r_set_14, r_set_15, r_set_16, r_set_17, r_set_f, r_set_n, r_g_0, r_g_1, r_g_2, r_g_3, r_g_4, r_g_5, r_g_6, r_g_7, r_g_8, r_g_9, r_g_10, r_g_11, r_g_12, r_g_13, r_g_14, r_g_15, r_g_16, r_g_17, r_g_18, r_olen, Nat.zero_le, Nat.not_lt_zero, if_true, if_false, m1_lt, m1_ge, mm_inT, pk_mul, nI_add, mm_in_nI, mm_cl_nI, nI_eq, nI_ltI, nI_leI, nI_lt0, hnd, nI_eq, Nat.reduceEqDiff, not_false_eq_true, hk, h4, eq_self, not_true_eq_false, ho, ht, nar1, m1_lt, nI_dI, r_put_ne, r_put_at, r_putput, ne_eq, hl, Bool.or_false, h1]
  · have ho := hR.o' hm z
    have hl : lst1 σ m = false := by simp [lst1, h4]
    have z2 : kTwo (sK σ m) = false := by
      cases y : kTwo (sK σ m) with
      | false => rfl
      | true => rw [ht12 y] at z; cases z
    have ht := hR.t' hm z2
    refine ⟨ρ.2.2 15, ?_, fun Q => ?_⟩
    · simpa [z, z2] using h
    · rw [w_72_34, e0]
      simp (disch := omega) only [w_72_0, w_72_1, w_72_3, w_72_5, w_72_8, w_72_9, w_72_12, w_72_13, w_72_14, w_72_15, w_72_18, w_72_19, w_72_22, w_72_23, w_72_24, w_72_27, w_72_30, w_72_31, w_72_32, w_72_33, w_72_35, w_72_38, w_72_39, w_72_42, w_72_43, w_72_44, w_72_47, w_72_50, w_72_51, w_72_54, w_72_55, w_72_56, w_72_57, w_72_60, w_72_61, w_72_64, w_72_65, w_72_66, w_72_67, w_72_68, w_72_71, w_72_72, w_72_73, w_72_76, w_72_79, w_72_80, w_72_81, w_72_82, w_72_85, w_72_86, w_72_87, w_72_90, w_72_91, w_72_94, w_72_95, w_72_98, w_72_99, w_72_100, w_72_101, w_72_102, w_72_103, w_72_106, w_72_107, w_72_108, w_72_111, w_72_112, w_72_115, w_72_116, w_72_119, w_72_120, w_72_121, w_72_122, w_72_123, w_72_126, w_72_129, w_72_130, mm_k_none, mm_k_int, mm_k_ref, mm_k_null, mm_K_inl, mm_tl_some, mm_tl_none, mm_fg_ok, mm_rc_ok, mm_fp_ok, mm_ai_ok, mm_si_ok, mm_az_ok, mm_sz_ok, z01, z11, zb, b2i_t, b2i_f, true_and, and_true, r_at, r_at_1, r_at_2, r_at_3, r_at_4, r_at_5, r_at_6, r_at_7, r_at_8, r_at_9, r_at_10, r_at_11, r_at_12, r_at_13, r_at_14, r_at_15, r_at_16, r_at_17, r_set_1, r_set_2, r_set_3, r_set_4, r_set_5, r_set_6, r_set_7, r_set_8, r_set_9, r_set_10, r_set_11, r_set_12, r_set_13, r_set_14, r_set_15, r_set_16, r_set_17, r_set_f, r_set_n, r_g_0, r_g_1, r_g_2, r_g_3, r_g_4, r_g_5, r_g_6, r_g_7, r_g_8, r_g_9, r_g_10, r_g_11, r_g_12, r_g_13, r_g_14, r_g_15, r_g_16, r_g_17, r_g_18, r_olen, Nat.zero_le, Nat.not_lt_zero, if_true, if_false, m1_lt, m1_ge, mm_inT, pk_mul, nI_add, mm_in_nI, mm_cl_nI, nI_eq, nI_ltI, nI_leI, nI_lt0, hnd, nI_eq, Nat.reduceEqDiff, not_false_eq_true, hk, h4, eq_self, not_true_eq_false, ho, ht, nar1, m1_lt, nI_dI, r_put_ne, ne_eq, hl, Bool.or_false, h1]
theorem Rf_mark_2 (hW : WF T σ) {l1 : Option Value} (h1 : mm_k l1 = l1) : ∀ (m : Nat) (g : Nat → Bool) (st : Bool) (ρ : RS), m ≤ sN σ → RRel σ ρ → ndB g (ρ.2.2 15) → ∃ f, ndB (mkL σ m g st).1 f ∧ ∀ Q, WP X (d + 4) 72 34 [some (.ref rm), l1, some (.int (b2i st)), some (.int (dI m))] [] (mm_R rm ρ M) Q = Q (.inl (some (.int (b2i (mkL σ m g st).2)))) (mm_R rm (r_put ρ 15 f) M) := by
  intro m
  have h40 := hW.n40
  induction m with
  | zero =>
    intro g st ρ hm hR h
    refine ⟨ρ.2.2 15, h, fun Q => ?_⟩
    have e0 : r_put ρ 15 (ρ.2.2 15) = ρ := by
      unfold r_put
      have : (fun i => if i = 15 then ρ.2.2 15 else ρ.2.2 i) = ρ.2.2 := by
        funext i
        by_cases hi : i = 15
        · rw [hi]; simp
        · rw [if_neg hi]
      rw [this]
    rw [w_72_34, e0]
    simp (disch := omega) only [w_72_0, w_72_1, w_72_3, w_72_5, w_72_8, w_72_9, w_72_12, w_72_13, w_72_14, w_72_15, w_72_18, w_72_19, w_72_22, w_72_23, w_72_24, w_72_27, w_72_30, w_72_31, w_72_32, w_72_33, w_72_35, w_72_38, w_72_39, w_72_42, w_72_43, w_72_44, w_72_47, w_72_50, w_72_51, w_72_54, w_72_55, w_72_56, w_72_57, w_72_60, w_72_61, w_72_64, w_72_65, w_72_66, w_72_67, w_72_68, w_72_71, w_72_72, w_72_73, w_72_76, w_72_79, w_72_80, w_72_81, w_72_82, w_72_85, w_72_86, w_72_87, w_72_90, w_72_91, w_72_94, w_72_95, w_72_98, w_72_99, w_72_100, w_72_101, w_72_102, w_72_103, w_72_106, w_72_107, w_72_108, w_72_111, w_72_112, w_72_115, w_72_116, w_72_119, w_72_120, w_72_121, w_72_122, w_72_123, w_72_126, w_72_129, w_72_130, mm_k_none, mm_k_int, mm_k_ref, mm_k_null, mm_K_inl, mm_tl_some, mm_tl_none, mm_fg_ok, mm_rc_ok, mm_fp_ok, mm_ai_ok, mm_si_ok, mm_az_ok, mm_sz_ok, z01, z11, zb, b2i_t, b2i_f, true_and, and_true, Nat.zero_le, Nat.not_lt_zero, if_true, if_false, m1_lt, m1_ge, mm_inT, pk_mul, nI_add, mm_in_nI, mm_cl_nI, nI_eq, nI_ltI, nI_leI, dI_lt0, mkL]
  | succ m ih =>
    intro g st ρ hm hR h
    cases hg : g m with
    | true =>
      obtain ⟨f, hf, hq⟩ := Rf_mark_st (X := X) (d := d) (rm := rm) (M := M) hW hR (show m < sN σ by omega) hg h h1 (st := st)
      obtain ⟨f2, hf2, hq2⟩ := ih _ (st || lst1 σ m) (r_put ρ 15 f) (by omega) (hR.same (sameP.put (by decide))) (by rw [r_put_at]; exact hf)
      refine ⟨f2, by rw [mkL, if_pos hg]; exact hf2, fun Q => ?_⟩
      rw [dI_s, hq, hq2, r_putput, mkL, if_pos hg]
    | false =>
      obtain ⟨f2, hf2, hq2⟩ := ih g st ρ (by omega) hR h
      have hg' : ¬ g m = true := by rw [hg]; decide
      refine ⟨f2, by rw [mkL, if_neg hg']; exact hf2, fun Q => ?_⟩
      have hnd : ρ.2.2 15 m = nI 0 := by rw [h m (by omega), hg]; rfl
      rw [mkL, if_neg hg']
      refine Eq.trans ?_ (hq2 Q)
      rw [w_72_34]
      simp (disch := omega) only [w_72_0, w_72_1, w_72_3, w_72_5, w_72_8, w_72_9, w_72_12, w_72_13, w_72_14, w_72_15, w_72_18, w_72_19, w_72_22, w_72_23, w_72_24, w_72_27, w_72_30, w_72_31, w_72_32, w_72_33, w_72_35, w_72_38, w_72_39, w_72_42, w_72_43, w_72_44, w_72_47, w_72_50, w_72_51, w_72_54, w_72_55, w_72_56, w_72_57, w_72_60, w_72_61, w_72_64, w_72_65, w_72_66, w_72_67, w_72_68, w_72_71, w_72_72, w_72_73, w_72_76, w_72_79, w_72_80, w_72_81, w_72_82, w_72_85, w_72_86, w_72_87, w_72_90, w_72_91, w_72_94, w_72_95, w_72_98, w_72_99, w_72_100, w_72_101, w_72_102, w_72_103, w_72_106, w_72_107, w_72_108, w_72_111, w_72_112, w_72_115, w_72_116, w_72_119, w_72_120, w_72_121, w_72_122, w_72_123, w_72_126, w_72_129, w_72_130, mm_k_none, mm_k_int, mm_k_ref, mm_k_null, mm_K_inl, mm_tl_some, mm_tl_none, mm_fg_ok, mm_rc_ok, mm_fp_ok, mm_ai_ok, mm_si_ok, mm_az_ok, mm_sz_ok, z01, z11, zb, b2i_t, b2i_f, true_and, and_true, r_at, r_at_1, r_at_2, r_at_3, r_at_4, r_at_5, r_at_6, r_at_7, r_at_8, r_at_9, r_at_10, r_at_11, r_at_12, r_at_13, r_at_14, r_at_15, r_at_16, r_at_17, r_set_1, r_set_2, r_set_3, r_set_4, r_set_5, r_set_6, r_set_7, r_set_8, r_set_9, r_set_10, r_set_11, r_set_12, r_set_13, r_set_14, r_set_15, r_set_16, r_set_17, r_set_f, r_set_n, r_g_0, r_g_1, r_g_2, r_g_3, r_g_4, r_g_5, r_g_6, r_g_7, r_g_8, r_g_9, r_g_10, r_g_11, r_g_12, r_g_13, r_g_14, r_g_15, r_g_16, r_g_17, r_g_18, r_olen, Nat.zero_le, Nat.not_lt_zero, if_true, if_false, m1_lt, m1_ge, mm_inT, pk_mul, nI_add, mm_in_nI, mm_cl_nI, nI_eq, nI_ltI, nI_leI, dI_s, nI_lt0, hnd, nI_eq, eq_self, not_true_eq_false, nI_dI]
theorem Rf_mark_eq (hW : WF T σ) {ρ : RS} (hR : RRel σ ρ) (hn : n < sN σ) : ∃ f, ndB (rc σ n) f ∧ ∀ Q, WPC X (d + 4) 72 [.ref rm, .int (nI n)] (mm_R rm ρ M) Q = Q (.inl (some (.int (b2i (stale σ n))))) (mm_R rm (r_put ρ 15 f) M) := by
  have h40 := hW.n40
  obtain ⟨f, hf, hq⟩ := Rf_mark_1 (X := X) (d := d) (rm := rm) (M := M) (n := n) (by omega) 40 0 none ρ (by omega) (fun i hi => absurd hi (by omega))
  obtain ⟨f2, hf2, hq2⟩ := Rf_mark_2 (X := X) (d := d) (rm := rm) (M := M) hW (l1 := some (.int (nI n))) rfl (n + 1) (fun k => decide (k = n)) false (r_put ρ 15 f) (by omega) (hR.same (sameP.put (by decide))) (by rw [r_put_at]; exact hf)
  obtain ⟨i1, i2⟩ := mkL_rc hW (n + 1) (fun k => decide (k = n)) false (by omega)
  have e1 : (mkL σ (n + 1) (fun k => decide (k = n)) false).1 = rc σ n := by
    funext k
    apply Bool.eq_iff_iff.2
    rw [i1 k]
    simp only [decide_eq_true_eq]
    constructor
    · rintro (h | ⟨p, hp, h, hr⟩)
      · rw [h]; exact rc_refl hW hn
      · subst h; exact hr
    · intro h
      exact Or.inr ⟨n, by omega, rfl, h⟩
  have e2 : (mkL σ (n + 1) (fun k => decide (k = n)) false).2 = stale σ n := by
    apply Bool.eq_iff_iff.2
    rw [i2]
    simp only [decide_eq_true_eq]
    constructor
    · rintro (h | ⟨p, hp, h, hr⟩)
      · cases h
      · subst h; exact hr
    · intro h
      exact Or.inr ⟨n, by omega, rfl, h⟩
  rw [e1] at hf2
  rw [e2] at hq2
  refine ⟨f2, hf2, fun Q => ?_⟩
  rw [r_putput] at hq2
  simp (disch := omega) only [e_72, w_72_0, w_72_1, w_72_3, w_72_5, w_72_8, w_72_9, w_72_12, w_72_13, w_72_14, w_72_15, w_72_18, w_72_19, w_72_22, w_72_23, w_72_24, w_72_27, w_72_30, w_72_31, w_72_32, w_72_33, w_72_35, w_72_38, w_72_39, w_72_42, w_72_43, w_72_44, w_72_47, w_72_50, w_72_51, w_72_54, w_72_55, w_72_56, w_72_57, w_72_60, w_72_61, w_72_64, w_72_65, w_72_66, w_72_67, w_72_68, w_72_71, w_72_72, w_72_73, w_72_76, w_72_79, w_72_80, w_72_81, w_72_82, w_72_85, w_72_86, w_72_87, w_72_90, w_72_91, w_72_94, w_72_95, w_72_98, w_72_99, w_72_100, w_72_101, w_72_102, w_72_103, w_72_106, w_72_107, w_72_108, w_72_111, w_72_112, w_72_115, w_72_116, w_72_119, w_72_120, w_72_121, w_72_122, w_72_123, w_72_126, w_72_129, w_72_130, mm_k_none, mm_k_int, mm_k_ref, mm_k_null, mm_K_inl, mm_tl_some, mm_tl_none, mm_fg_ok, mm_rc_ok, mm_fp_ok, mm_ai_ok, mm_si_ok, mm_az_ok, mm_sz_ok, z01, z11, zb, b2i_t, b2i_f, true_and, and_true, r_at, r_at_1, r_at_2, r_at_3, r_at_4, r_at_5, r_at_6, r_at_7, r_at_8, r_at_9, r_at_10, r_at_11, r_at_12, r_at_13, r_at_14, r_at_15, r_at_16, r_at_17, r_set_1, r_set_2, r_set_3, r_set_4, r_set_5, r_set_6, r_set_7, r_set_8, r_set_9, r_set_10, r_set_11, r_set_12, r_set_13, r_set_14, r_set_15, r_set_16, r_set_17, r_set_f, r_set_n, r_g_0, r_g_1, r_g_2, r_g_3, r_g_4, r_g_5, r_g_6, r_g_7, r_g_8, r_g_9, r_g_10, r_g_11, r_g_12, r_g_13, r_g_14, r_g_15, r_g_16, r_g_17, r_g_18, r_olen, Nat.zero_le, Nat.not_lt_zero, if_true, if_false, m1_lt, m1_ge, mm_inT, pk_mul, nI_add, mm_in_nI, mm_cl_nI, nI_eq, nI_ltI, nI_leI]
  rw [hq]
  exact hq2 Q
end RF7
