/-! the reference: take, remove -/
section RF20
variable {X : Nat × Nat × (Nat → Int32)} {d rm T n m a b N to l : Nat} {σ : Sg} {ρ : RS} {M : mm_M} {Q : mm_Out → mm_M → Prop}
theorem WF_mono {T' : Nat} (h : WF T σ) (h1 : T ≤ T') (h2 : T' < 1000000) : WF T' σ := by
  obtain ⟨w1, w2, w3, w4, w5, w6, w7, w8⟩ := h
  exact ⟨w1, h2, w3, w4, fun l => Nat.le_trans (w5 l) h1, w6, w7, w8⟩
theorem on_ge (hW : WF T σ) : ∀ (n : Nat) {q : Nat}, n < sN σ → stale σ n = false → onP σ n q = true → (El σ n).length ≤ (El σ q).length := by
  intro n
  induction n using Nat.strongRecOn with
  | _ n ih =>
    intro q hn hs h
    rw [on_at hW hn] at h
    simp only [Bool.or_eq_true, Bool.and_eq_true, decide_eq_true_eq] at h
    rcases h with h | ⟨z, h⟩
    · rw [h]; exact Nat.le_refl _
    · have ho := hW.o hn (kB_one z)
      have := ih _ ho (by omega) (stale_o hW hn hs (kB_one z)) h
      rcases kB_cases z with k | k | k
      · have := len_3 hW hn k; omega
      · have := len_4 hW hn k hs; omega
      · have := len_5 hW hn k; omega
theorem sup_1 (hW : WF T σ) : ∀ n, n < sN σ → sup σ 1 n = true → (sK σ (lf σ n) = 0 ∨ sK σ (lf σ n) = 7 ∨ sK σ (lf σ n) = 6 ∨ sK σ (lf σ n) = 8) ∧ (sK σ (lf σ n) = 6 ∨ sK σ (lf σ n) = 8 → lf σ n = n) := by
  intro n
  induction n using Nat.strongRecOn with
  | _ n ih =>
    intro hn h
    rw [sup_at hW hn] at h
    rw [lf_at hW hn]
    cases hb : kBased (sK σ n) with
    | true =>
      rw [hb, if_pos rfl, if_neg (fun z => z.2 rfl)] at h
      have ho := hW.o hn (kB_one hb)
      obtain ⟨a1, a2⟩ := ih _ ho (by omega) h
      rw [if_pos rfl]
      refine ⟨a1, fun z => ?_⟩
      exfalso
      have h2 := a2 z
      have hr := hW.row hn hb
      rw [h2] at z
      rcases z with z | z <;> (rw [z] at hr; exact absurd hr (by decide))
    | false =>
      rw [hb, if_neg (by decide)] at h
      rw [if_neg (by decide)]
      simp only [decide_eq_true_eq] at h
      refine ⟨by omega, fun _ => rfl⟩
theorem Rf_whr_lp (hW : WF T σ) (hR : RRel σ ρ) {x : Nat} (hx : x < sN σ) (h6 : sK σ x = 6) {l1 : Option Value} {x2 : Int32} : ∀ (j k r : Nat), j + k = (sR σ x).length → r < (((sR σ x).drop k).flatMap (fun k => sS σ (8 * x + k))).length → ∃ k' r', ∃ h : k' < (sR σ x).length, whr σ x ((sR σ x).drop k) r = ((sR σ x)[k'], r') ∧ r' < (sS σ (8 * x + (sR σ x)[k'])).length ∧ ∀ Q, WP X (d + 1) 107 23 [some (.ref rm), l1, some (.int x2), some (.int (nI x)), some (.int (nI r)), some (.int (nI k))] [] (mm_R rm ρ M) Q = WP X (d + 1) 107 83 [some (.ref rm), l1, some (.int x2), some (.int (nI x)), some (.int (nI r')), some (.int (nI k'))] [] (mm_R rm ρ M) Q := by
  have h40 := hW.n40
  have h8 := hW.r8 x
  obtain ⟨d1, d2, d3⟩ := hW.rk hx h6
  intro j
  induction j with
  | zero =>
    intro k r hk hr
    rw [List.drop_eq_nil_of_le (by omega)] at hr
    simp at hr
  | succ j ih =>
    intro k r hk hr
    have hkl : k < (sR σ x).length := by omega
    have hd : (sR σ x).drop k = (sR σ x)[k] :: (sR σ x).drop (k + 1) := List.drop_eq_getElem_cons hkl
    have hm : (sR σ x)[k] < 8 := ((d3 _).1 (List.getElem_mem _)).1
    have h24 := hW.s24 (8 * x + (sR σ x)[k])
    rw [hd] at hr ⊢
    have hr24 := fm_len (fun k => sS σ (8 * x + k)) (sR σ x) k
    rw [hd] at hr24
    rw [List.flatMap_cons, List.length_append] at hr hr24
    have e1 := hR.ri (show x < 40 by omega) hkl
    have e2 := hR.c (show 8 * x + (sR σ x)[k] < 320 by omega)
    unfold whr
    by_cases z : r < (sS σ (8 * x + (sR σ x)[k])).length
    · rw [if_pos z]
      refine ⟨k, r, hkl, rfl, z, fun Q => ?_⟩
      rw [w_107_23]
      simp (disch := omega) only [w_107_0, w_107_1, w_107_2, w_107_5, w_107_6, w_107_7, w_107_10, w_107_11, w_107_12, w_107_14, w_107_17, w_107_18, w_107_20, w_107_21, w_107_25, w_107_26, w_107_29, w_107_31, w_107_32, w_107_33, w_107_34, w_107_37, w_107_39, w_107_40, w_107_41, w_107_43, w_107_44, w_107_45, w_107_46, w_107_47, w_107_50, w_107_52, w_107_53, w_107_56, w_107_58, w_107_59, w_107_60, w_107_61, w_107_64, w_107_66, w_107_67, w_107_68, w_107_70, w_107_71, w_107_72, w_107_73, w_107_74, w_107_75, w_107_77, w_107_80, w_107_84, w_107_86, w_107_87, w_107_88, w_107_89, w_107_92, w_107_94, w_107_95, w_107_96, w_107_98, w_107_99, w_107_100, w_107_101, w_107_103, w_107_106, w_107_109, w_107_110, w_107_113, w_107_114, w_107_115, w_107_117, w_107_120, w_107_122, w_107_123, w_107_126, w_107_127, w_107_128, w_107_129, w_107_130, w_107_133, w_107_135, w_107_136, w_107_139, w_107_140, w_107_141, w_107_142, w_107_143, w_107_144, w_107_145, w_107_146, w_107_149, w_107_152, w_107_154, w_107_155, w_107_158, w_107_159, w_107_161, w_107_162, w_107_165, w_107_168, w_107_171, w_107_172, w_107_173, w_107_174, w_107_177, w_107_178, w_107_179, w_107_180, w_107_181, w_107_184, w_107_187, w_107_188, w_107_189, w_107_190, w_107_193, mm_k_none, mm_k_int, mm_k_ref, mm_k_null, mm_K_inl, mm_tl_some, mm_tl_none, mm_fg_ok, mm_rc_ok, mm_fp_ok, mm_ai_ok, mm_si_ok, mm_az_ok, mm_sz_ok, z01, z11, zb, b2i_t, b2i_f, true_and, and_true, r_at, r_at_1, r_at_2, r_at_3, r_at_4, r_at_5, r_at_6, r_at_7, r_at_8, r_at_9, r_at_10, r_at_11, r_at_12, r_at_13, r_at_14, r_at_15, r_at_16, r_at_17, r_set_1, r_set_2, r_set_3, r_set_4, r_set_5, r_set_6, r_set_7, r_set_8, r_set_9, r_set_10, r_set_11, r_set_12, r_set_13, r_set_14, r_set_15, r_set_16, r_set_17, r_set_f, r_set_n, r_g_0, r_g_1, r_g_2, r_g_3, r_g_4, r_g_5, r_g_6, r_g_7, r_g_8, r_g_9, r_g_10, r_g_11, r_g_12, r_g_13, r_g_14, r_g_15, r_g_16, r_g_17, r_g_18, r_olen, Nat.zero_le, Nat.not_lt_zero, if_true, if_false, m1_lt, m1_ge, mm_inT, pk_mul, nI_add, mm_in_nI, mm_cl_nI, nI_eq, nI_ltI, nI_leI, ↓reduceIte, Nat.add_zero, Nat.reduceLeDiff, oI_some, oI_none, m1_lt, nI_lt0, Rf_fail_eq, Rf_out_eq, eq_self, not_true_eq_false, not_false_eq_true, Nat.reduceEqDiff, Nat.reduceLT, ne_eq, or_true, true_or, or_false, false_or, decide_true, decide_false, Bool.true_eq_false, Bool.false_eq_true, b2i_ne, e1, e2, z]
    · rw [if_neg z]
      obtain ⟨k', r', a1, a2, a3, hq⟩ := ih (k + 1) (r - (sS σ (8 * x + (sR σ x)[k])).length) (by omega) (by omega)
      refine ⟨k', r', a1, a2, a3, fun Q => Eq.trans ?_ (hq Q)⟩
      rw [w_107_23]
      simp (disch := omega) only [w_107_0, w_107_1, w_107_2, w_107_5, w_107_6, w_107_7, w_107_10, w_107_11, w_107_12, w_107_14, w_107_17, w_107_18, w_107_20, w_107_21, w_107_25, w_107_26, w_107_29, w_107_31, w_107_32, w_107_33, w_107_34, w_107_37, w_107_39, w_107_40, w_107_41, w_107_43, w_107_44, w_107_45, w_107_46, w_107_47, w_107_50, w_107_52, w_107_53, w_107_56, w_107_58, w_107_59, w_107_60, w_107_61, w_107_64, w_107_66, w_107_67, w_107_68, w_107_70, w_107_71, w_107_72, w_107_73, w_107_74, w_107_75, w_107_77, w_107_80, w_107_84, w_107_86, w_107_87, w_107_88, w_107_89, w_107_92, w_107_94, w_107_95, w_107_96, w_107_98, w_107_99, w_107_100, w_107_101, w_107_103, w_107_106, w_107_109, w_107_110, w_107_113, w_107_114, w_107_115, w_107_117, w_107_120, w_107_122, w_107_123, w_107_126, w_107_127, w_107_128, w_107_129, w_107_130, w_107_133, w_107_135, w_107_136, w_107_139, w_107_140, w_107_141, w_107_142, w_107_143, w_107_144, w_107_145, w_107_146, w_107_149, w_107_152, w_107_154, w_107_155, w_107_158, w_107_159, w_107_161, w_107_162, w_107_165, w_107_168, w_107_171, w_107_172, w_107_173, w_107_174, w_107_177, w_107_178, w_107_179, w_107_180, w_107_181, w_107_184, w_107_187, w_107_188, w_107_189, w_107_190, w_107_193, mm_k_none, mm_k_int, mm_k_ref, mm_k_null, mm_K_inl, mm_tl_some, mm_tl_none, mm_fg_ok, mm_rc_ok, mm_fp_ok, mm_ai_ok, mm_si_ok, mm_az_ok, mm_sz_ok, z01, z11, zb, b2i_t, b2i_f, true_and, and_true, r_at, r_at_1, r_at_2, r_at_3, r_at_4, r_at_5, r_at_6, r_at_7, r_at_8, r_at_9, r_at_10, r_at_11, r_at_12, r_at_13, r_at_14, r_at_15, r_at_16, r_at_17, r_set_1, r_set_2, r_set_3, r_set_4, r_set_5, r_set_6, r_set_7, r_set_8, r_set_9, r_set_10, r_set_11, r_set_12, r_set_13, r_set_14, r_set_15, r_set_16, r_set_17, r_set_f, r_set_n, r_g_0, r_g_1, r_g_2, r_g_3, r_g_4, r_g_5, r_g_6, r_g_7, r_g_8, r_g_9, r_g_10, r_g_11, r_g_12, r_g_13, r_g_14, r_g_15, r_g_16, r_g_17, r_g_18, r_olen, Nat.zero_le, Nat.not_lt_zero, if_true, if_false, m1_lt, m1_ge, mm_inT, pk_mul, nI_add, mm_in_nI, mm_cl_nI, nI_eq, nI_ltI, nI_leI, ↓reduceIte, Nat.add_zero, Nat.reduceLeDiff, oI_some, oI_none, m1_lt, nI_lt0, Rf_fail_eq, Rf_out_eq, eq_self, not_true_eq_false, not_false_eq_true, Nat.reduceEqDiff, Nat.reduceLT, ne_eq, or_true, true_or, or_false, false_or, decide_true, decide_false, Bool.true_eq_false, Bool.false_eq_true, b2i_ne, e1, e2, z, nI_m]
theorem setL_setL {L1 : List Int32} {c1 c2 : Nat} (hne : L1 ≠ []) (hin : sK σ (l / 8) = 6 → l % 8 ∈ sR σ (l / 8)) : setL (setL σ l L1 c1) l [] c2 = setL σ l [] (c1 + c2) := by
  have e1 : ud (ud (sS σ) l L1) l [] = ud (sS σ) l [] := by
    funext q
    by_cases e : q = l
    · rw [e, ud_at, ud_at]
    · rw [ud_ne e, ud_ne e, ud_ne e]
  have e2 : ud (ud (sC σ) l (sC σ l + c1)) l (ud (sC σ) l (sC σ l + c1) l + c2) = ud (sC σ) l (sC σ l + (c1 + c2)) := by
    rw [ud_at]
    funext q
    by_cases e : q = l
    · rw [e, ud_at, ud_at, Nat.add_assoc]
    · rw [ud_ne e, ud_ne e, ud_ne e]
  have e3 : (if sK σ (l / 8) = 6 then ud (sR (setL σ l L1 c1)) (l / 8) (ordR (sR (setL σ l L1 c1) (l / 8)) (l % 8) []) else sR (setL σ l L1 c1)) = (if sK σ (l / 8) = 6 then ud (sR σ) (l / 8) (ordR (sR σ (l / 8)) (l % 8) []) else sR σ) := by
    by_cases z : sK σ (l / 8) = 6
    · rw [if_pos z, if_pos z]
      have a1 : sR (setL σ l L1 c1) (l / 8) = sR σ (l / 8) := by
        rw [setL_R6 z, ordR, if_neg hne, if_pos (hin z)]
      rw [a1]
      funext q
      by_cases e : q = l / 8
      · rw [e, ud_at, ud_at]
      · rw [ud_ne e, ud_ne e]
        exact setL_R q (Or.inl e)
    · rw [if_neg z, if_neg z]
      show (if sK σ (l / 8) = 6 then _ else sR σ) = _
      rw [if_neg z]
  show (sN σ, sH σ, sK σ, sO σ, sT σ, sV σ, sP σ, sD σ, sL σ, sG σ, ud (ud (sS σ) l L1) l [], ud (ud (sC σ) l (sC σ l + c1)) l (ud (sC σ) l (sC σ l + c1) l + c2), (if sK σ (l / 8) = 6 then ud (sR (setL σ l L1 c1)) (l / 8) (ordR (sR (setL σ l L1 c1) (l / 8)) (l % 8) []) else sR (setL σ l L1 c1))) = _
  rw [e1, e2, e3]
  rfl
theorem take_all (hW : WF T σ) (hl8 : l < 8 * sN σ) (h6 : sK σ (l / 8) = 6) (hpos : 1 ≤ (sS σ l).length) : l % 8 ∈ sR σ (l / 8) := by
  obtain ⟨d1, d2, d3⟩ := hW.rk (show l / 8 < sN σ by omega) h6
  rw [d3]
  refine ⟨Nat.mod_lt _ (by decide), ?_⟩
  rw [show 8 * (l / 8) + l % 8 = l by omega]
  intro z
  rw [z] at hpos
  simp at hpos
theorem WF_del (hW : WF T σ) (hT : T + 1 < 1000000) (hl8 : l < 8 * sN σ) (hk : sK σ (l / 8) = 0 ∨ sK σ (l / 8) = 6) (hz : sK σ (l / 8) = 0 → l = 8 * (l / 8)) {L : List Int32} (hL : L.length ≤ (sS σ l).length) {c : Nat} (hc : 1 ≤ c) (hTc : T + c < 1000000) : (WF (T + c) (setL σ l L c)) ∧ L.length ≤ 24 ∧ (sK σ (l / 8) = 0 → L.length ≤ 16) ∧ (sK σ (l / 8) = 6 → smN (fun k => (ud (sS σ) l L (8 * (l / 8) + k)).length) 8 ≤ 24) := by
  have hn : l / 8 < sN σ := by omega
  have h24 := hW.s24 l
  have h16 : sK σ (l / 8) = 0 → L.length ≤ 16 := by
    intro z
    have := (hW.2.2.2.1 (l / 8) hn).2.2.2.2.2.2.2.2.2.2.2.2.2.2.1 z
    rw [← hz z] at this
    omega
  have h6 : sK σ (l / 8) = 6 → smN (fun k => (ud (sS σ) l L (8 * (l / 8) + k)).length) 8 ≤ 24 := by
    intro z
    obtain ⟨d1, d2, d3⟩ := hW.rk hn z
    have e : smN (fun k => (sS σ (8 * (l / 8) + k)).length) 8 = ((sR σ (l / 8)).flatMap (fun k => sS σ (8 * (l / 8) + k))).length := by
      rw [List.length_flatMap]
      refine (smN_R 8 _ d2 (fun k hk => ((d3 k).1 hk).1) (fun k hk hk2 => ?_)).symm
      by_cases y : sS σ (8 * (l / 8) + k) = []
      · rw [y]; rfl
      · exact absurd ((d3 k).2 ⟨hk, y⟩) hk2
    have := smN_ud (σ := σ) (l := l) (L := L)
    omega
  exact ⟨WF_setL hW hl8 hk hc hTc (by omega) h16 h6, by omega, h16, h6⟩
theorem Rf_keys_lp {l0 : Option Value} {x2 x3 : Int32} {l5 : Option Value} : ∀ (j T : Nat) (σ : Sg) (ρ : RS), WF T σ → T + (j + 1) < 1000000 → RRel σ ρ → l < 8 * sN σ → sK σ (l / 8) = 6 → (sS σ l).length = j + 1 → ∃ ρ', RRel (setL σ l [] (j + 1)) ρ' ∧ ρ'.1 = ρ.1 ∧ (∀ q, 15 ≤ q → ρ'.2.2 q = ρ.2.2 q) ∧ ∀ Q, WP X (d + 3) 107 148 [some (.ref rm), l0, some (.int x2), some (.int x3), some (.int (nI l)), l5] [] (mm_R rm ρ M) Q = Q (.inl none) (mm_R rm ρ' M) := by
  intro j
  induction j with
  | zero =>
    intro T σ ρ hW hT hR hl8 h6 hL
    have h40 := hW.n40
    have hl320 : l < 320 := by omega
    obtain ⟨ρ1, R1, e1, k1, hq1⟩ := Rf_takeFrom_eq (X := X) (d := d) (rm := rm) (M := M) (i := 0) hW hR hl8 (by omega)
    have ed : delAt (sS σ l) 0 = [] := by
      apply List.eq_nil_of_length_eq_zero
      rw [delAt_len (by omega), hL]
    rw [ed] at R1
    have c1 : ρ1.2.2 11 l = nI 0 := by
      have := R1.c hl320
      rw [setL_S, ud_at] at this
      exact this
    refine ⟨ρ1, R1, e1, k1, fun Q => ?_⟩
    have c0 := hR.c hl320
    rw [hL] at c0
    rw [w_107_148]
    simp (disch := omega) only [w_107_0, w_107_1, w_107_2, w_107_5, w_107_6, w_107_7, w_107_10, w_107_11, w_107_12, w_107_14, w_107_17, w_107_18, w_107_20, w_107_21, w_107_25, w_107_26, w_107_29, w_107_31, w_107_32, w_107_33, w_107_34, w_107_37, w_107_39, w_107_40, w_107_41, w_107_43, w_107_44, w_107_45, w_107_46, w_107_47, w_107_50, w_107_52, w_107_53, w_107_56, w_107_58, w_107_59, w_107_60, w_107_61, w_107_64, w_107_66, w_107_67, w_107_68, w_107_70, w_107_71, w_107_72, w_107_73, w_107_74, w_107_75, w_107_77, w_107_80, w_107_83, w_107_84, w_107_86, w_107_87, w_107_88, w_107_89, w_107_92, w_107_94, w_107_95, w_107_96, w_107_98, w_107_99, w_107_100, w_107_101, w_107_103, w_107_106, w_107_109, w_107_110, w_107_113, w_107_114, w_107_115, w_107_117, w_107_120, w_107_122, w_107_123, w_107_126, w_107_127, w_107_128, w_107_129, w_107_130, w_107_133, w_107_135, w_107_136, w_107_139, w_107_140, w_107_141, w_107_142, w_107_143, w_107_144, w_107_145, w_107_146, w_107_149, w_107_152, w_107_154, w_107_155, w_107_158, w_107_159, w_107_161, w_107_162, w_107_165, w_107_168, w_107_171, w_107_172, w_107_173, w_107_174, w_107_177, w_107_178, w_107_179, w_107_180, w_107_181, w_107_184, w_107_187, w_107_188, w_107_189, w_107_190, w_107_193, mm_k_none, mm_k_int, mm_k_ref, mm_k_null, mm_K_inl, mm_tl_some, mm_tl_none, mm_fg_ok, mm_rc_ok, mm_fp_ok, mm_ai_ok, mm_si_ok, mm_az_ok, mm_sz_ok, z01, z11, zb, b2i_t, b2i_f, true_and, and_true, r_at, r_at_1, r_at_2, r_at_3, r_at_4, r_at_5, r_at_6, r_at_7, r_at_8, r_at_9, r_at_10, r_at_11, r_at_12, r_at_13, r_at_14, r_at_15, r_at_16, r_at_17, r_set_1, r_set_2, r_set_3, r_set_4, r_set_5, r_set_6, r_set_7, r_set_8, r_set_9, r_set_10, r_set_11, r_set_12, r_set_13, r_set_14, r_set_15, r_set_16, r_set_17, r_set_f, r_set_n, r_g_0, r_g_1, r_g_2, r_g_3, r_g_4, r_g_5, r_g_6, r_g_7, r_g_8, r_g_9, r_g_10, r_g_11, r_g_12, r_g_13, r_g_14, r_g_15, r_g_16, r_g_17, r_g_18, r_olen, Nat.zero_le, Nat.not_lt_zero, if_true, if_false, m1_lt, m1_ge, mm_inT, pk_mul, nI_add, mm_in_nI, mm_cl_nI, nI_eq, nI_ltI, nI_leI, ↓reduceIte, Nat.add_zero, Nat.reduceLeDiff, oI_some, oI_none, m1_lt, nI_lt0, Rf_fail_eq, Rf_out_eq, eq_self, not_true_eq_false, not_false_eq_true, Nat.reduceEqDiff, Nat.reduceLT, ne_eq, or_true, true_or, or_false, false_or, decide_true, decide_false, Bool.true_eq_false, Bool.false_eq_true, b2i_ne, c0, Nat.zero_add, hq1]
    rw [w_107_148]
    simp (disch := omega) only [w_107_0, w_107_1, w_107_2, w_107_5, w_107_6, w_107_7, w_107_10, w_107_11, w_107_12, w_107_14, w_107_17, w_107_18, w_107_20, w_107_21, w_107_25, w_107_26, w_107_29, w_107_31, w_107_32, w_107_33, w_107_34, w_107_37, w_107_39, w_107_40, w_107_41, w_107_43, w_107_44, w_107_45, w_107_46, w_107_47, w_107_50, w_107_52, w_107_53, w_107_56, w_107_58, w_107_59, w_107_60, w_107_61, w_107_64, w_107_66, w_107_67, w_107_68, w_107_70, w_107_71, w_107_72, w_107_73, w_107_74, w_107_75, w_107_77, w_107_80, w_107_83, w_107_84, w_107_86, w_107_87, w_107_88, w_107_89, w_107_92, w_107_94, w_107_95, w_107_96, w_107_98, w_107_99, w_107_100, w_107_101, w_107_103, w_107_106, w_107_109, w_107_110, w_107_113, w_107_114, w_107_115, w_107_117, w_107_120, w_107_122, w_107_123, w_107_126, w_107_127, w_107_128, w_107_129, w_107_130, w_107_133, w_107_135, w_107_136, w_107_139, w_107_140, w_107_141, w_107_142, w_107_143, w_107_144, w_107_145, w_107_146, w_107_149, w_107_152, w_107_154, w_107_155, w_107_158, w_107_159, w_107_161, w_107_162, w_107_165, w_107_168, w_107_171, w_107_172, w_107_173, w_107_174, w_107_177, w_107_178, w_107_179, w_107_180, w_107_181, w_107_184, w_107_187, w_107_188, w_107_189, w_107_190, w_107_193, mm_k_none, mm_k_int, mm_k_ref, mm_k_null, mm_K_inl, mm_tl_some, mm_tl_none, mm_fg_ok, mm_rc_ok, mm_fp_ok, mm_ai_ok, mm_si_ok, mm_az_ok, mm_sz_ok, z01, z11, zb, b2i_t, b2i_f, true_and, and_true, r_at, r_at_1, r_at_2, r_at_3, r_at_4, r_at_5, r_at_6, r_at_7, r_at_8, r_at_9, r_at_10, r_at_11, r_at_12, r_at_13, r_at_14, r_at_15, r_at_16, r_at_17, r_set_1, r_set_2, r_set_3, r_set_4, r_set_5, r_set_6, r_set_7, r_set_8, r_set_9, r_set_10, r_set_11, r_set_12, r_set_13, r_set_14, r_set_15, r_set_16, r_set_17, r_set_f, r_set_n, r_g_0, r_g_1, r_g_2, r_g_3, r_g_4, r_g_5, r_g_6, r_g_7, r_g_8, r_g_9, r_g_10, r_g_11, r_g_12, r_g_13, r_g_14, r_g_15, r_g_16, r_g_17, r_g_18, r_olen, Nat.zero_le, Nat.not_lt_zero, if_true, if_false, m1_lt, m1_ge, mm_inT, pk_mul, nI_add, mm_in_nI, mm_cl_nI, nI_eq, nI_ltI, nI_leI, ↓reduceIte, Nat.add_zero, Nat.reduceLeDiff, oI_some, oI_none, m1_lt, nI_lt0, Rf_fail_eq, Rf_out_eq, eq_self, not_true_eq_false, not_false_eq_true, Nat.reduceEqDiff, Nat.reduceLT, ne_eq, or_true, true_or, or_false, false_or, decide_true, decide_false, Bool.true_eq_false, Bool.false_eq_true, b2i_ne, c1]
  | succ j ih =>
    intro T σ ρ hW hT hR hl8 h6 hL
    have h40 := hW.n40
    have hl320 : l < 320 := by omega
    obtain ⟨ρ1, R1, e1, k1, hq1⟩ := Rf_takeFrom_eq (X := X) (d := d) (rm := rm) (M := M) (i := 0) hW hR hl8 (by omega)
    have hdl : (delAt (sS σ l) 0).length = j + 1 := by rw [delAt_len (by omega), hL]; rfl
    have hW1 := (WF_del hW (by omega) hl8 (Or.inr h6) (fun z => by omega) (L := delAt (sS σ l) 0) (by omega) (Nat.le_refl 1) (by omega)).1
    obtain ⟨ρ2, R2, e2, k2, hq2⟩ := ih (T + 1) (setL σ l (delAt (sS σ l) 0) 1) ρ1 hW1 (by omega) R1 hl8 h6 (by rw [setL_S, ud_at, hdl])
    have hne : delAt (sS σ l) 0 ≠ [] := fun z => by rw [z] at hdl; cases hdl
    rw [setL_setL hne (fun z => take_all hW hl8 z (by omega))] at R2
    rw [show 1 + (j + 1) = j + 1 + 1 by omega] at R2
    refine ⟨ρ2, R2, e2.trans e1, fun q hq => (k2 q hq).trans (k1 q hq), fun Q => Eq.trans ?_ (hq2 Q)⟩
    have c0 := hR.c hl320
    rw [hL] at c0
    have g : ¬ j + 1 + 1 ≤ 0 := by omega
    have h24 := hW.s24 l
    rw [w_107_148]
    simp (disch := omega) only [w_107_0, w_107_1, w_107_2, w_107_5, w_107_6, w_107_7, w_107_10, w_107_11, w_107_12, w_107_14, w_107_17, w_107_18, w_107_20, w_107_21, w_107_25, w_107_26, w_107_29, w_107_31, w_107_32, w_107_33, w_107_34, w_107_37, w_107_39, w_107_40, w_107_41, w_107_43, w_107_44, w_107_45, w_107_46, w_107_47, w_107_50, w_107_52, w_107_53, w_107_56, w_107_58, w_107_59, w_107_60, w_107_61, w_107_64, w_107_66, w_107_67, w_107_68, w_107_70, w_107_71, w_107_72, w_107_73, w_107_74, w_107_75, w_107_77, w_107_80, w_107_83, w_107_84, w_107_86, w_107_87, w_107_88, w_107_89, w_107_92, w_107_94, w_107_95, w_107_96, w_107_98, w_107_99, w_107_100, w_107_101, w_107_103, w_107_106, w_107_109, w_107_110, w_107_113, w_107_114, w_107_115, w_107_117, w_107_120, w_107_122, w_107_123, w_107_126, w_107_127, w_107_128, w_107_129, w_107_130, w_107_133, w_107_135, w_107_136, w_107_139, w_107_140, w_107_141, w_107_142, w_107_143, w_107_144, w_107_145, w_107_146, w_107_149, w_107_152, w_107_154, w_107_155, w_107_158, w_107_159, w_107_161, w_107_162, w_107_165, w_107_168, w_107_171, w_107_172, w_107_173, w_107_174, w_107_177, w_107_178, w_107_179, w_107_180, w_107_181, w_107_184, w_107_187, w_107_188, w_107_189, w_107_190, w_107_193, mm_k_none, mm_k_int, mm_k_ref, mm_k_null, mm_K_inl, mm_tl_some, mm_tl_none, mm_fg_ok, mm_rc_ok, mm_fp_ok, mm_ai_ok, mm_si_ok, mm_az_ok, mm_sz_ok, z01, z11, zb, b2i_t, b2i_f, true_and, and_true, r_at, r_at_1, r_at_2, r_at_3, r_at_4, r_at_5, r_at_6, r_at_7, r_at_8, r_at_9, r_at_10, r_at_11, r_at_12, r_at_13, r_at_14, r_at_15, r_at_16, r_at_17, r_set_1, r_set_2, r_set_3, r_set_4, r_set_5, r_set_6, r_set_7, r_set_8, r_set_9, r_set_10, r_set_11, r_set_12, r_set_13, r_set_14, r_set_15, r_set_16, r_set_17, r_set_f, r_set_n, r_g_0, r_g_1, r_g_2, r_g_3, r_g_4, r_g_5, r_g_6, r_g_7, r_g_8, r_g_9, r_g_10, r_g_11, r_g_12, r_g_13, r_g_14, r_g_15, r_g_16, r_g_17, r_g_18, r_olen, Nat.zero_le, Nat.not_lt_zero, if_true, if_false, m1_lt, m1_ge, mm_inT, pk_mul, nI_add, mm_in_nI, mm_cl_nI, nI_eq, nI_ltI, nI_leI, ↓reduceIte, Nat.add_zero, Nat.reduceLeDiff, oI_some, oI_none, m1_lt, nI_lt0, Rf_fail_eq, Rf_out_eq, eq_self, not_true_eq_false, not_false_eq_true, Nat.reduceEqDiff, Nat.reduceLT, ne_eq, or_true, true_or, or_false, false_or, decide_true, decide_false, Bool.true_eq_false, Bool.false_eq_true, b2i_ne, c0, g, hq1]
theorem Rf_takeAt_eq (hW : WF T σ) (hT : T + 24 < 1000000) (hR : RRel σ ρ) (hn : n < sN σ) (hs : stale σ n = false) (hsh : shown σ ρ n) (hsup : sup σ 1 n = true) {i : Nat} (hi : i < (El σ n).length) : WF (T + 24) (tkAt σ n i) ∧ ∃ ρ', RRel (tkAt σ n i) ρ' ∧ ρ'.1 = ρ.1 ∧ (∀ j, 15 ≤ j → ρ'.2.2 j = ρ.2.2 j) ∧ ∀ Q, WPC X (d + 5) 107 [.ref rm, .int (nI n), .int (nI i)] (mm_R rm ρ M) Q = Q (.inl none) (mm_R rm ρ' M) := by
  have h40 := hW.n40
  have h72 := El_72 hW hn
  obtain ⟨hc, hc2⟩ := sup_1 hW n hn hsup
  have hlf := lf_lt hW n hn
  have hleaf := fun Q => Rf_leaf_eq (X := X) (d := d + 3) (rm := rm) (M := M) (Q := Q) hW hR.no hn
  have hk := hR.k (show lf σ n < sN σ by omega)
  by_cases k6 : sK σ (lf σ n) = 6
  · have hln := hc2 (Or.inl k6)
    rw [hln] at k6 hk
    have hE : El σ n = (sR σ n).flatMap (fun k => sS σ (8 * n + k)) := by rw [El_at hW hn, k6, ElB_6]
    rw [hE] at hi
    obtain ⟨d1, d2, d3⟩ := hW.rk hn k6
    obtain ⟨k', r', h1, h2, h3, hq1⟩ := Rf_whr_lp (X := X) (d := d + 4) (rm := rm) (M := M) (l1 := some (.int (nI n))) (x2 := nI i) hW hR hn k6 (sR σ n).length 0 i (by omega) (by rw [List.drop_zero]; exact hi)
    rw [List.drop_zero] at h2
    have hk8 : (sR σ n)[k'] < 8 := ((d3 _).1 (List.getElem_mem _)).1
    have hr8 := hW.r8 n
    have h24 := hW.s24 (8 * n + (sR σ n)[k'])
    obtain ⟨ρ1, R1, e1, k1, hq2⟩ := Rf_takeFrom_eq (X := X) (d := d + 2) (rm := rm) (M := M) (l := 8 * n + (sR σ n)[k']) (i := r') hW hR (by omega) h3
    have et : tkAt σ n i = setL σ (8 * n + (sR σ n)[k']) (delAt (sS σ (8 * n + (sR σ n)[k'])) r') 1 := by
      unfold tkAt
      rw [hln, if_pos k6, h2]
    have hdiv : (8 * n + (sR σ n)[k']) / 8 = n := by omega
    have hwf := (WF_del (l := 8 * n + (sR σ n)[k']) hW (by omega) (by omega) (by rw [hdiv]; exact Or.inr k6) (by rw [hdiv]; omega) (L := delAt (sS σ (8 * n + (sR σ n)[k'])) r') (by rw [delAt_len h3]; omega) (Nat.le_refl 1) (by omega)).1
    rw [et]
    refine ⟨WF_mono hwf (by omega) hT, ρ1, R1, e1, k1, fun Q => ?_⟩
    rw [hln] at hleaf
    have hkk : ρ.2.2 2 n = nI 6 := by rw [hk, k6]
    have e13 := hR.ri (show n < 40 by omega) h1
    simp (disch := omega) only [e_107, w_107_0, w_107_1, w_107_2, w_107_5, w_107_6, w_107_7, w_107_10, w_107_11, w_107_12, w_107_14, w_107_17, w_107_18, w_107_20, w_107_21, w_107_25, w_107_26, w_107_29, w_107_31, w_107_32, w_107_33, w_107_34, w_107_37, w_107_39, w_107_40, w_107_41, w_107_43, w_107_44, w_107_45, w_107_46, w_107_47, w_107_50, w_107_52, w_107_53, w_107_56, w_107_58, w_107_59, w_107_60, w_107_61, w_107_64, w_107_66, w_107_67, w_107_68, w_107_70, w_107_71, w_107_72, w_107_73, w_107_74, w_107_75, w_107_77, w_107_80, w_107_84, w_107_86, w_107_87, w_107_88, w_107_89, w_107_92, w_107_94, w_107_95, w_107_96, w_107_98, w_107_99, w_107_100, w_107_101, w_107_103, w_107_106, w_107_109, w_107_110, w_107_113, w_107_114, w_107_115, w_107_117, w_107_120, w_107_122, w_107_123, w_107_126, w_107_127, w_107_128, w_107_129, w_107_130, w_107_133, w_107_135, w_107_136, w_107_139, w_107_140, w_107_141, w_107_142, w_107_143, w_107_144, w_107_145, w_107_146, w_107_149, w_107_152, w_107_154, w_107_155, w_107_158, w_107_159, w_107_161, w_107_162, w_107_165, w_107_168, w_107_171, w_107_172, w_107_173, w_107_174, w_107_177, w_107_178, w_107_179, w_107_180, w_107_181, w_107_184, w_107_187, w_107_188, w_107_189, w_107_190, w_107_193, mm_k_none, mm_k_int, mm_k_ref, mm_k_null, mm_K_inl, mm_tl_some, mm_tl_none, mm_fg_ok, mm_rc_ok, mm_fp_ok, mm_ai_ok, mm_si_ok, mm_az_ok, mm_sz_ok, z01, z11, zb, b2i_t, b2i_f, true_and, and_true, r_at, r_at_1, r_at_2, r_at_3, r_at_4, r_at_5, r_at_6, r_at_7, r_at_8, r_at_9, r_at_10, r_at_11, r_at_12, r_at_13, r_at_14, r_at_15, r_at_16, r_at_17, r_set_1, r_set_2, r_set_3, r_set_4, r_set_5, r_set_6, r_set_7, r_set_8, r_set_9, r_set_10, r_set_11, r_set_12, r_set_13, r_set_14, r_set_15, r_set_16, r_set_17, r_set_f, r_set_n, r_g_0, r_g_1, r_g_2, r_g_3, r_g_4, r_g_5, r_g_6, r_g_7, r_g_8, r_g_9, r_g_10, r_g_11, r_g_12, r_g_13, r_g_14, r_g_15, r_g_16, r_g_17, r_g_18, r_olen, Nat.zero_le, Nat.not_lt_zero, if_true, if_false, m1_lt, m1_ge, mm_inT, pk_mul, nI_add, mm_in_nI, mm_cl_nI, nI_eq, nI_ltI, nI_leI, ↓reduceIte, Nat.add_zero, Nat.reduceLeDiff, oI_some, oI_none, m1_lt, nI_lt0, Rf_fail_eq, Rf_out_eq, eq_self, not_true_eq_false, not_false_eq_true, Nat.reduceEqDiff, Nat.reduceLT, ne_eq, or_true, true_or, or_false, false_or, decide_true, decide_false, Bool.true_eq_false, Bool.false_eq_true, b2i_ne, hleaf, hkk]
    rw [hq1]
    simp (disch := omega) only [w_107_0, w_107_1, w_107_2, w_107_5, w_107_6, w_107_7, w_107_10, w_107_11, w_107_12, w_107_14, w_107_17, w_107_18, w_107_20, w_107_21, w_107_25, w_107_26, w_107_29, w_107_31, w_107_32, w_107_33, w_107_34, w_107_37, w_107_39, w_107_40, w_107_41, w_107_43, w_107_44, w_107_45, w_107_46, w_107_47, w_107_50, w_107_52, w_107_53, w_107_56, w_107_58, w_107_59, w_107_60, w_107_61, w_107_64, w_107_66, w_107_67, w_107_68, w_107_70, w_107_71, w_107_72, w_107_73, w_107_74, w_107_75, w_107_77, w_107_80, w_107_83, w_107_84, w_107_86, w_107_87, w_107_88, w_107_89, w_107_92, w_107_94, w_107_95, w_107_96, w_107_98, w_107_99, w_107_100, w_107_101, w_107_103, w_107_106, w_107_109, w_107_110, w_107_113, w_107_114, w_107_115, w_107_117, w_107_120, w_107_122, w_107_123, w_107_126, w_107_127, w_107_128, w_107_129, w_107_130, w_107_133, w_107_135, w_107_136, w_107_139, w_107_140, w_107_141, w_107_142, w_107_143, w_107_144, w_107_145, w_107_146, w_107_149, w_107_152, w_107_154, w_107_155, w_107_158, w_107_159, w_107_161, w_107_162, w_107_165, w_107_168, w_107_171, w_107_172, w_107_173, w_107_174, w_107_177, w_107_178, w_107_179, w_107_180, w_107_181, w_107_184, w_107_187, w_107_188, w_107_189, w_107_190, w_107_193, mm_k_none, mm_k_int, mm_k_ref, mm_k_null, mm_K_inl, mm_tl_some, mm_tl_none, mm_fg_ok, mm_rc_ok, mm_fp_ok, mm_ai_ok, mm_si_ok, mm_az_ok, mm_sz_ok, z01, z11, zb, b2i_t, b2i_f, true_and, and_true, r_at, r_at_1, r_at_2, r_at_3, r_at_4, r_at_5, r_at_6, r_at_7, r_at_8, r_at_9, r_at_10, r_at_11, r_at_12, r_at_13, r_at_14, r_at_15, r_at_16, r_at_17, r_set_1, r_set_2, r_set_3, r_set_4, r_set_5, r_set_6, r_set_7, r_set_8, r_set_9, r_set_10, r_set_11, r_set_12, r_set_13, r_set_14, r_set_15, r_set_16, r_set_17, r_set_f, r_set_n, r_g_0, r_g_1, r_g_2, r_g_3, r_g_4, r_g_5, r_g_6, r_g_7, r_g_8, r_g_9, r_g_10, r_g_11, r_g_12, r_g_13, r_g_14, r_g_15, r_g_16, r_g_17, r_g_18, r_olen, Nat.zero_le, Nat.not_lt_zero, if_true, if_false, m1_lt, m1_ge, mm_inT, pk_mul, nI_add, mm_in_nI, mm_cl_nI, nI_eq, nI_ltI, nI_leI, ↓reduceIte, Nat.add_zero, Nat.reduceLeDiff, oI_some, oI_none, m1_lt, nI_lt0, Rf_fail_eq, Rf_out_eq, eq_self, not_true_eq_false, not_false_eq_true, Nat.reduceEqDiff, Nat.reduceLT, ne_eq, or_true, true_or, or_false, false_or, decide_true, decide_false, Bool.true_eq_false, Bool.false_eq_true, b2i_ne, e13, hq2]
  · by_cases k8 : sK σ (lf σ n) = 8
    · have hln := hc2 (Or.inr k8)
      rw [hln] at k8 hk k6
      have hk1 : kOne (sK σ n) = true := by rw [k8]; rfl
      have ho := hR.o hn hk1
      have hol := hW.o hn hk1
      have hm := hW.map hn (Or.inr k8)
      have hE : El σ n = (sR σ (sO σ n)).map nI := by rw [El_at hW hn, k8, ElB_8]
      rw [hE, List.length_map] at hi
      have hr8 := hW.r8 (sO σ n)
      obtain ⟨d1, d2, d3⟩ := hW.rk (show sO σ n < sN σ by omega) hm
      have e13 := hR.ri (show sO σ n < 40 by omega) hi
      have hmem := (d3 _).1 (List.getElem_mem hi)
      have hkey : (sR σ (sO σ n))[i] < 8 := hmem.1
      have hdiv : (8 * sO σ n + (sR σ (sO σ n))[i]) / 8 = sO σ n := by omega
      have h24 := hW.s24 (8 * sO σ n + (sR σ (sO σ n))[i])
      obtain ⟨j, hj⟩ : ∃ j, (sS σ (8 * sO σ n + (sR σ (sO σ n))[i])).length = j + 1 := by
        cases z : sS σ (8 * sO σ n + (sR σ (sO σ n))[i]) with
        | nil => exact absurd z hmem.2
        | cons y ys => exact ⟨ys.length, rfl⟩
      obtain ⟨ρ1, R1, e1, k1, hq1⟩ := Rf_keys_lp (X := X) (d := d + 2) (rm := rm) (M := M) (l0 := some (.int (nI n))) (x2 := nI i) (x3 := nI n) (l5 := none) (l := 8 * sO σ n + (sR σ (sO σ n))[i]) j T σ ρ hW (by omega) hR (by omega) (by rw [hdiv]; exact hm) hj
      have et : tkAt σ n i = setL σ (8 * sO σ n + (sR σ (sO σ n))[i]) [] (j + 1) := by
        unfold tkAt
        have : (sR σ (sO σ n)).getD i 0 = (sR σ (sO σ n))[i] := by simp [hi]
        rw [hln, if_neg k6, if_pos k8, this, hj]
      have hwf := (WF_del (l := 8 * sO σ n + (sR σ (sO σ n))[i]) hW (by omega) (by omega) (by rw [hdiv]; exact Or.inr hm) (by rw [hdiv]; omega) (L := []) (by simp) (c := j + 1) (by omega) (by omega)).1
      rw [et]
      refine ⟨WF_mono hwf (by omega) hT, ρ1, R1, e1, k1, fun Q => Eq.trans ?_ (hq1 Q)⟩
      rw [hln] at hleaf
      have hkk : ρ.2.2 2 n = nI 8 := by rw [hk, k8]
      simp (disch := omega) only [e_107, w_107_0, w_107_1, w_107_2, w_107_5, w_107_6, w_107_7, w_107_10, w_107_11, w_107_12, w_107_14, w_107_17, w_107_18, w_107_20, w_107_21, w_107_25, w_107_26, w_107_29, w_107_31, w_107_32, w_107_33, w_107_34, w_107_37, w_107_39, w_107_40, w_107_41, w_107_43, w_107_44, w_107_45, w_107_46, w_107_47, w_107_50, w_107_52, w_107_53, w_107_56, w_107_58, w_107_59, w_107_60, w_107_61, w_107_64, w_107_66, w_107_67, w_107_68, w_107_70, w_107_71, w_107_72, w_107_73, w_107_74, w_107_75, w_107_77, w_107_80, w_107_83, w_107_84, w_107_86, w_107_87, w_107_88, w_107_89, w_107_92, w_107_94, w_107_95, w_107_96, w_107_98, w_107_99, w_107_100, w_107_101, w_107_103, w_107_106, w_107_109, w_107_110, w_107_113, w_107_114, w_107_115, w_107_117, w_107_120, w_107_122, w_107_123, w_107_126, w_107_127, w_107_128, w_107_129, w_107_130, w_107_133, w_107_135, w_107_136, w_107_139, w_107_140, w_107_141, w_107_142, w_107_143, w_107_144, w_107_145, w_107_146, w_107_149, w_107_152, w_107_154, w_107_155, w_107_158, w_107_159, w_107_161, w_107_162, w_107_165, w_107_168, w_107_171, w_107_172, w_107_173, w_107_174, w_107_177, w_107_178, w_107_179, w_107_180, w_107_181, w_107_184, w_107_187, w_107_188, w_107_189, w_107_190, w_107_193, mm_k_none, mm_k_int, mm_k_ref, mm_k_null, mm_K_inl, mm_tl_some, mm_tl_none, mm_fg_ok, mm_rc_ok, mm_fp_ok, mm_ai_ok, mm_si_ok, mm_az_ok, mm_sz_ok, z01, z11, zb, b2i_t, b2i_f, true_and, and_true, r_at, r_at_1, r_at_2, r_at_3, r_at_4, r_at_5, r_at_6, r_at_7, r_at_8, r_at_9, r_at_10, r_at_11, r_at_12, r_at_13, r_at_14, r_at_15, r_at_16, r_at_17, r_set_1, r_set_2, r_set_3, r_set_4, r_set_5, r_set_6, r_set_7, r_set_8, r_set_9, r_set_10, r_set_11, r_set_12, r_set_13, r_set_14, r_set_15, r_set_16, r_set_17, r_set_f, r_set_n, r_g_0, r_g_1, r_g_2, r_g_3, r_g_4, r_g_5, r_g_6, r_g_7, r_g_8, r_g_9, r_g_10, r_g_11, r_g_12, r_g_13, r_g_14, r_g_15, r_g_16, r_g_17, r_g_18, r_olen, Nat.zero_le, Nat.not_lt_zero, if_true, if_false, m1_lt, m1_ge, mm_inT, pk_mul, nI_add, mm_in_nI, mm_cl_nI, nI_eq, nI_ltI, nI_leI, ↓reduceIte, Nat.add_zero, Nat.reduceLeDiff, oI_some, oI_none, m1_lt, nI_lt0, Rf_fail_eq, Rf_out_eq, eq_self, not_true_eq_false, not_false_eq_true, Nat.reduceEqDiff, Nat.reduceLT, ne_eq, or_true, true_or, or_false, false_or, decide_true, decide_false, Bool.true_eq_false, Bool.false_eq_true, b2i_ne, hleaf, hkk, ho, e13]
    · have hlo : ∃ l, lo σ n = some l := by
        unfold lo
        rcases hc with z | z | z | z
        · exact ⟨_, if_pos z⟩
        · rw [if_neg (by omega), if_pos z]; exact ⟨_, rfl⟩
        · exact absurd z k6
        · exact absurd z k8
      obtain ⟨l, hlo⟩ := hlo
      have hl8 := lo_N hW hn hlo
      have hlk := lo_k hW hn hlo
      have hlz := lo_z hW hn hlo
      have hlist := fun Q => Rf_listOf_eq (X := X) (d := d + 2) (rm := rm) (M := M) (Q := Q) hW hR.no hn
      rw [hlo, oI_some] at hlist
      have hi2 : i < (El σ n).length + (if false = true then 1 else 0) := by rw [if_neg (by decide)]; omega
      have hd := dn_lt hW (ins := false) n hn hlo hs i hi2
      rw [if_neg (by decide), Nat.add_zero] at hd
      have hdown := fun Q => Rf_down_eq (X := X) (d := d + 3) (rm := rm) (M := M) (Q := Q) hW hR hn hs hsh hi2
      rw [b2i_f] at hdown
      obtain ⟨ρ1, R1, e1, k1, hq1⟩ := Rf_takeFrom_eq (X := X) (d := d + 2) (rm := rm) (M := M) (i := dn σ false n i) hW hR hl8 hd
      have hdl := delAt_len hd
      obtain ⟨hW1, g24, g16, g6⟩ := WF_del hW (by omega) hl8 hlk hlz (L := delAt (sS σ l) (dn σ false n i)) (by omega) (Nat.le_refl 1) (by omega)
      have hpos : ∀ q, onP σ n q = true → 1 ≤ (El σ q).length := fun q hq => by have := on_ge hW n hn hs hq; omega
      have hW2 := WF_chN (n := n) (up := false) (L := delAt (sS σ l) (dn σ false n i)) hW hn hlo hs (by rw [if_neg (by decide), if_neg (by decide)]; omega) (fun _ => hpos) hlk (by omega) g24 g16 g6
      obtain ⟨F, G, hF, hG, hq2⟩ := Rf_note_lp (X := X) (d := d) (rm := rm) (M := M) (by_ := -1) (l1 := some (.int (nI n))) hW1 n ρ1 R1.no hn
      have R2 := RRel_note (n := n) (up := false) R1 (F := F) (G := G) (by rw [if_neg (by decide)]; exact hF) hG (fun _ m hm h4 => by
        have hm' : onP σ n m = true := by rw [← chN_on (σ := σ) (l := l) (n := n) (L := delAt (sS σ l) (dn σ false n i)) (up := false)]; exact hm
        have a1 := hpos m hm'
        have hmn : m < sN σ := by have := on_le hW n hn hm'; omega
        have a2 := (len_4 hW hmn h4 ((on_lo hW n hn hm').2 hs)).1
        show 1 ≤ sP σ m
        omega)
      have et : tkAt σ n i = noteP (setL σ l (delAt (sS σ l) (dn σ false n i)) 1) n false := by
        unfold tkAt
        rw [if_neg k6, if_neg k8, hlo]
      rw [et]
      refine ⟨WF_mono hW2 (by omega) hT, r_put (r_put ρ1 6 F) 7 G, R2, e1, fun j hj => by rw [r_put_ne (by omega), r_put_ne (by omega)]; exact k1 j hj, fun Q => ?_⟩
      have hnote : ∀ Q, WPC X (d + 4) 103 [.ref rm, .int (nI n), .int (-1)] (mm_R rm ρ1 M) Q = Q (.inl none) (mm_R rm (r_put (r_put ρ1 6 F) 7 G) M) := by
        intro Q
        refine Eq.trans ?_ (hq2 Q)
        simp only [e_103, w_103_0, w_103_1, w_103_3, w_103_4, w_103_7, w_103_10, w_103_11, w_103_14, w_103_15, w_103_16, w_103_17, w_103_20, w_103_21, w_103_24, w_103_25, w_103_26, w_103_27, w_103_28, w_103_29, w_103_30, w_103_31, w_103_34, w_103_35, w_103_36, w_103_37, w_103_40, w_103_41, w_103_42, w_103_45, w_103_46, w_103_47, w_103_50, w_103_51, w_103_52, w_103_53, w_103_56, mm_k_none, mm_k_int, mm_k_ref, mm_k_null, mm_K_inl, mm_tl_some, mm_tl_none, mm_fg_ok, mm_rc_ok, mm_fp_ok, mm_ai_ok, mm_si_ok, mm_az_ok, mm_sz_ok, z01, z11, zb, b2i_t, b2i_f, true_and, and_true]
      have h12 := hW.k12 (show lf σ n < sN σ by omega)
      simp (disch := omega) only [e_107, w_107_0, w_107_1, w_107_2, w_107_5, w_107_6, w_107_7, w_107_10, w_107_11, w_107_12, w_107_14, w_107_17, w_107_18, w_107_20, w_107_21, w_107_25, w_107_26, w_107_29, w_107_31, w_107_32, w_107_33, w_107_34, w_107_37, w_107_39, w_107_40, w_107_41, w_107_43, w_107_44, w_107_45, w_107_46, w_107_47, w_107_50, w_107_52, w_107_53, w_107_56, w_107_58, w_107_59, w_107_60, w_107_61, w_107_64, w_107_66, w_107_67, w_107_68, w_107_70, w_107_71, w_107_72, w_107_73, w_107_74, w_107_75, w_107_77, w_107_80, w_107_83, w_107_84, w_107_86, w_107_87, w_107_88, w_107_89, w_107_92, w_107_94, w_107_95, w_107_96, w_107_98, w_107_99, w_107_100, w_107_101, w_107_103, w_107_106, w_107_109, w_107_110, w_107_113, w_107_114, w_107_115, w_107_117, w_107_120, w_107_122, w_107_123, w_107_126, w_107_127, w_107_128, w_107_129, w_107_130, w_107_133, w_107_135, w_107_136, w_107_139, w_107_140, w_107_141, w_107_142, w_107_143, w_107_144, w_107_145, w_107_146, w_107_149, w_107_152, w_107_154, w_107_155, w_107_158, w_107_159, w_107_161, w_107_162, w_107_165, w_107_168, w_107_171, w_107_172, w_107_173, w_107_174, w_107_177, w_107_178, w_107_179, w_107_180, w_107_181, w_107_184, w_107_187, w_107_188, w_107_189, w_107_190, w_107_193, mm_k_none, mm_k_int, mm_k_ref, mm_k_null, mm_K_inl, mm_tl_some, mm_tl_none, mm_fg_ok, mm_rc_ok, mm_fp_ok, mm_ai_ok, mm_si_ok, mm_az_ok, mm_sz_ok, z01, z11, zb, b2i_t, b2i_f, true_and, and_true, r_at, r_at_1, r_at_2, r_at_3, r_at_4, r_at_5, r_at_6, r_at_7, r_at_8, r_at_9, r_at_10, r_at_11, r_at_12, r_at_13, r_at_14, r_at_15, r_at_16, r_at_17, r_set_1, r_set_2, r_set_3, r_set_4, r_set_5, r_set_6, r_set_7, r_set_8, r_set_9, r_set_10, r_set_11, r_set_12, r_set_13, r_set_14, r_set_15, r_set_16, r_set_17, r_set_f, r_set_n, r_g_0, r_g_1, r_g_2, r_g_3, r_g_4, r_g_5, r_g_6, r_g_7, r_g_8, r_g_9, r_g_10, r_g_11, r_g_12, r_g_13, r_g_14, r_g_15, r_g_16, r_g_17, r_g_18, r_olen, Nat.zero_le, Nat.not_lt_zero, if_true, if_false, m1_lt, m1_ge, mm_inT, pk_mul, nI_add, mm_in_nI, mm_cl_nI, nI_eq, nI_ltI, nI_leI, ↓reduceIte, Nat.add_zero, Nat.reduceLeDiff, oI_some, oI_none, m1_lt, nI_lt0, Rf_fail_eq, Rf_out_eq, eq_self, not_true_eq_false, not_false_eq_true, Nat.reduceEqDiff, Nat.reduceLT, ne_eq, or_true, true_or, or_false, false_or, decide_true, decide_false, Bool.true_eq_false, Bool.false_eq_true, b2i_ne, hleaf, hk, k6, k8, hlist, hdown, hq1, hnote]
theorem opR_take (hW : WF T σ) (hT : T + 24 < 1000000) (hR : RRel σ ρ) {h i : Int32} : opR X (d + 6) rm ρ M 106 [.int h, .int i] (sp_take σ h i) := by
  have h40 := hW.n40
  cases hn : ndo σ h with
  | none =>
    refine opR.no hR 1 (by simp only [sp_take, hn]) fun Q => ?_
    simp (disch := omega) only [e_106, w_106_0, w_106_1, w_106_2, w_106_5, w_106_6, w_106_7, w_106_10, w_106_11, w_106_12, w_106_15, w_106_16, w_106_17, w_106_20, w_106_21, w_106_22, w_106_23, w_106_24, w_106_27, w_106_30, w_106_31, w_106_32, w_106_35, w_106_36, w_106_37, w_106_38, w_106_41, w_106_44, w_106_45, w_106_46, w_106_49, w_106_50, w_106_51, w_106_52, w_106_53, w_106_56, w_106_57, w_106_58, w_106_61, w_106_64, w_106_65, w_106_66, w_106_69, w_106_70, w_106_71, w_106_72, w_106_73, w_106_76, w_106_77, w_106_80, w_106_82, w_106_83, w_106_84, w_106_85, w_106_86, w_106_87, mm_k_none, mm_k_int, mm_k_ref, mm_k_null, mm_K_inl, mm_tl_some, mm_tl_none, mm_fg_ok, mm_rc_ok, mm_fp_ok, mm_ai_ok, mm_si_ok, mm_az_ok, mm_sz_ok, z01, z11, zb, b2i_t, b2i_f, true_and, and_true, r_at, r_at_1, r_at_2, r_at_3, r_at_4, r_at_5, r_at_6, r_at_7, r_at_8, r_at_9, r_at_10, r_at_11, r_at_12, r_at_13, r_at_14, r_at_15, r_at_16, r_at_17, r_set_1, r_set_2, r_set_3, r_set_4, r_set_5, r_set_6, r_set_7, r_set_8, r_set_9, r_set_10, r_set_11, r_set_12, r_set_13, r_set_14, r_set_15, r_set_16, r_set_17, r_set_f, r_set_n, r_g_0, r_g_1, r_g_2, r_g_3, r_g_4, r_g_5, r_g_6, r_g_7, r_g_8, r_g_9, r_g_10, r_g_11, r_g_12, r_g_13, r_g_14, r_g_15, r_g_16, r_g_17, r_g_18, r_olen, Nat.zero_le, Nat.not_lt_zero, if_true, if_false, m1_lt, m1_ge, mm_inT, pk_mul, nI_add, mm_in_nI, mm_cl_nI, nI_eq, nI_ltI, nI_leI, ↓reduceIte, Nat.add_zero, Nat.reduceLeDiff, oI_some, oI_none, m1_lt, nI_lt0, Rf_fail_eq, Rf_out_eq, eq_self, not_true_eq_false, not_false_eq_true, Nat.reduceEqDiff, Nat.reduceLT, ne_eq, or_true, true_or, or_false, false_or, decide_true, decide_false, Bool.true_eq_false, Bool.false_eq_true, b2i_ne, Rf_nodeOf_eq hR.f, hn]
  | some n =>
    have hlt := ndo_lt hW hn
    have h72 := El_72 hW hlt
    have hsu := fun Q => Rf_supported_eq (X := X) (d := d + 4) (rm := rm) (ρ := (nI 0, ρ.2.1, ρ.2.2)) (M := M) (Q := Q) hW hR.f.no (w := 1) (by decide) hlt
    cases hsup : sup σ 1 n with
    | false =>
      refine opR.no hR 2 (by simp only [sp_take, hn, hsup, if_true]) fun Q => ?_
      simp (disch := omega) only [e_106, w_106_0, w_106_1, w_106_2, w_106_5, w_106_6, w_106_7, w_106_10, w_106_11, w_106_12, w_106_15, w_106_16, w_106_17, w_106_20, w_106_21, w_106_22, w_106_23, w_106_24, w_106_27, w_106_30, w_106_31, w_106_32, w_106_35, w_106_36, w_106_37, w_106_38, w_106_41, w_106_44, w_106_45, w_106_46, w_106_49, w_106_50, w_106_51, w_106_52, w_106_53, w_106_56, w_106_57, w_106_58, w_106_61, w_106_64, w_106_65, w_106_66, w_106_69, w_106_70, w_106_71, w_106_72, w_106_73, w_106_76, w_106_77, w_106_80, w_106_82, w_106_83, w_106_84, w_106_85, w_106_86, w_106_87, mm_k_none, mm_k_int, mm_k_ref, mm_k_null, mm_K_inl, mm_tl_some, mm_tl_none, mm_fg_ok, mm_rc_ok, mm_fp_ok, mm_ai_ok, mm_si_ok, mm_az_ok, mm_sz_ok, z01, z11, zb, b2i_t, b2i_f, true_and, and_true, r_at, r_at_1, r_at_2, r_at_3, r_at_4, r_at_5, r_at_6, r_at_7, r_at_8, r_at_9, r_at_10, r_at_11, r_at_12, r_at_13, r_at_14, r_at_15, r_at_16, r_at_17, r_set_1, r_set_2, r_set_3, r_set_4, r_set_5, r_set_6, r_set_7, r_set_8, r_set_9, r_set_10, r_set_11, r_set_12, r_set_13, r_set_14, r_set_15, r_set_16, r_set_17, r_set_f, r_set_n, r_g_0, r_g_1, r_g_2, r_g_3, r_g_4, r_g_5, r_g_6, r_g_7, r_g_8, r_g_9, r_g_10, r_g_11, r_g_12, r_g_13, r_g_14, r_g_15, r_g_16, r_g_17, r_g_18, r_olen, Nat.zero_le, Nat.not_lt_zero, if_true, if_false, m1_lt, m1_ge, mm_inT, pk_mul, nI_add, mm_in_nI, mm_cl_nI, nI_eq, nI_ltI, nI_leI, ↓reduceIte, Nat.add_zero, Nat.reduceLeDiff, oI_some, oI_none, m1_lt, nI_lt0, Rf_fail_eq, Rf_out_eq, eq_self, not_true_eq_false, not_false_eq_true, Nat.reduceEqDiff, Nat.reduceLT, ne_eq, or_true, true_or, or_false, false_or, decide_true, decide_false, Bool.true_eq_false, Bool.false_eq_true, b2i_ne, Rf_nodeOf_eq hR.f, hn, hsu, hsup]
    | true =>
      by_cases hs : stale σ n = true
      · obtain ⟨f, hq⟩ := Rf_show_no (X := X) (d := d) (rm := rm) (M := M) (ρ := (nI 0, ρ.2.1, ρ.2.2)) hW hR.f hlt hs
        refine opR.no ((hR.f (c := nI 0)).s (f := f)) 3 (by simp only [sp_take, hn, hsup, Bool.true_eq_false, if_false, if_pos hs]) fun Q => ?_
        simp (disch := omega) only [e_106, w_106_0, w_106_1, w_106_2, w_106_5, w_106_6, w_106_7, w_106_10, w_106_11, w_106_12, w_106_15, w_106_16, w_106_17, w_106_20, w_106_21, w_106_22, w_106_23, w_106_24, w_106_27, w_106_30, w_106_31, w_106_32, w_106_35, w_106_36, w_106_37, w_106_38, w_106_41, w_106_44, w_106_45, w_106_46, w_106_49, w_106_50, w_106_51, w_106_52, w_106_53, w_106_56, w_106_57, w_106_58, w_106_61, w_106_64, w_106_65, w_106_66, w_106_69, w_106_70, w_106_71, w_106_72, w_106_73, w_106_76, w_106_77, w_106_80, w_106_82, w_106_83, w_106_84, w_106_85, w_106_86, w_106_87, mm_k_none, mm_k_int, mm_k_ref, mm_k_null, mm_K_inl, mm_tl_some, mm_tl_none, mm_fg_ok, mm_rc_ok, mm_fp_ok, mm_ai_ok, mm_si_ok, mm_az_ok, mm_sz_ok, z01, z11, zb, b2i_t, b2i_f, true_and, and_true, r_at, r_at_1, r_at_2, r_at_3, r_at_4, r_at_5, r_at_6, r_at_7, r_at_8, r_at_9, r_at_10, r_at_11, r_at_12, r_at_13, r_at_14, r_at_15, r_at_16, r_at_17, r_set_1, r_set_2, r_set_3, r_set_4, r_set_5, r_set_6, r_set_7, r_set_8, r_set_9, r_set_10, r_set_11, r_set_12, r_set_13, r_set_14, r_set_15, r_set_16, r_set_17, r_set_f, r_set_n, r_g_0, r_g_1, r_g_2, r_g_3, r_g_4, r_g_5, r_g_6, r_g_7, r_g_8, r_g_9, r_g_10, r_g_11, r_g_12, r_g_13, r_g_14, r_g_15, r_g_16, r_g_17, r_g_18, r_olen, Nat.zero_le, Nat.not_lt_zero, if_true, if_false, m1_lt, m1_ge, mm_inT, pk_mul, nI_add, mm_in_nI, mm_cl_nI, nI_eq, nI_ltI, nI_leI, ↓reduceIte, Nat.add_zero, Nat.reduceLeDiff, oI_some, oI_none, m1_lt, nI_lt0, Rf_fail_eq, Rf_out_eq, eq_self, not_true_eq_false, not_false_eq_true, Nat.reduceEqDiff, Nat.reduceLT, ne_eq, or_true, true_or, or_false, false_or, decide_true, decide_false, Bool.true_eq_false, Bool.false_eq_true, b2i_ne, Rf_nodeOf_eq hR.f, hn, hsu, hsup, hq]
      · have hs' : stale σ n = false := by simpa using hs
        obtain ⟨ρ1, h1, h2, h3, hq⟩ := Rf_show_yes (X := X) (d := d) (rm := rm) (M := M) (ρ := (nI 0, ρ.2.1, ρ.2.2)) hW hR.f hlt hs'
        have hel := h2 n (rc_refl hW hlt)
        have R1 := (hR.f (c := nI 0)).same h1
        by_cases hi : i < nI 0 ∨ ¬ i < nI (El σ n).length
        · refine opR.no R1 4 (by simp only [sp_take, hn, hsup, Bool.true_eq_false, if_false, if_neg hs, if_pos hi]) fun Q => ?_
          simp (disch := omega) only [e_106, w_106_0, w_106_1, w_106_2, w_106_5, w_106_6, w_106_7, w_106_10, w_106_11, w_106_12, w_106_15, w_106_16, w_106_17, w_106_20, w_106_21, w_106_22, w_106_23, w_106_24, w_106_27, w_106_30, w_106_31, w_106_32, w_106_35, w_106_36, w_106_37, w_106_38, w_106_41, w_106_44, w_106_45, w_106_46, w_106_49, w_106_50, w_106_51, w_106_52, w_106_53, w_106_56, w_106_57, w_106_58, w_106_61, w_106_64, w_106_65, w_106_66, w_106_69, w_106_70, w_106_71, w_106_72, w_106_73, w_106_76, w_106_77, w_106_80, w_106_82, w_106_83, w_106_84, w_106_85, w_106_86, w_106_87, mm_k_none, mm_k_int, mm_k_ref, mm_k_null, mm_K_inl, mm_tl_some, mm_tl_none, mm_fg_ok, mm_rc_ok, mm_fp_ok, mm_ai_ok, mm_si_ok, mm_az_ok, mm_sz_ok, z01, z11, zb, b2i_t, b2i_f, true_and, and_true, r_at, r_at_1, r_at_2, r_at_3, r_at_4, r_at_5, r_at_6, r_at_7, r_at_8, r_at_9, r_at_10, r_at_11, r_at_12, r_at_13, r_at_14, r_at_15, r_at_16, r_at_17, r_set_1, r_set_2, r_set_3, r_set_4, r_set_5, r_set_6, r_set_7, r_set_8, r_set_9, r_set_10, r_set_11, r_set_12, r_set_13, r_set_14, r_set_15, r_set_16, r_set_17, r_set_f, r_set_n, r_g_0, r_g_1, r_g_2, r_g_3, r_g_4, r_g_5, r_g_6, r_g_7, r_g_8, r_g_9, r_g_10, r_g_11, r_g_12, r_g_13, r_g_14, r_g_15, r_g_16, r_g_17, r_g_18, r_olen, Nat.zero_le, Nat.not_lt_zero, if_true, if_false, m1_lt, m1_ge, mm_inT, pk_mul, nI_add, mm_in_nI, mm_cl_nI, nI_eq, nI_ltI, nI_leI, ↓reduceIte, Nat.add_zero, Nat.reduceLeDiff, oI_some, oI_none, m1_lt, nI_lt0, Rf_fail_eq, Rf_out_eq, eq_self, not_true_eq_false, not_false_eq_true, Nat.reduceEqDiff, Nat.reduceLT, ne_eq, or_true, true_or, or_false, false_or, decide_true, decide_false, Bool.true_eq_false, Bool.false_eq_true, b2i_ne, Rf_nodeOf_eq hR.f, hn, hsu, hsup, hq, hel.2.1, hi]
        · obtain ⟨j, hj, rfl⟩ := nI_of' (fun z => hi (Or.inl z))
          have hjl : j < (El σ n).length := by
            refine Nat.lt_of_not_le fun z => hi (Or.inr (nI_nlt z hj))
          obtain ⟨-, ρ2, R2, e2, k2, hq2⟩ := Rf_takeAt_eq (X := X) (d := d) (rm := rm) (M := M) hW hT R1 hlt hs' h2 hsup hjl
          have e : (El σ n).getD (nI j).toNatClampNeg 0 = (El σ n)[j] := by rw [nI_clamp hj]; simp [hjl]
          have esp : sp_take σ h (nI j) = (0, (El σ n)[j], tkAt σ n j) := by
            simp only [sp_take, hn, hsup, Bool.true_eq_false, if_false, if_neg hs, if_neg hi]
            rw [e, nI_clamp hj]
          have e16 : ρ2.2.2 16 (80 * n + j) = (El σ n)[j] := by rw [k2 16 (by decide)]; exact hel.2.2 j hjl
          refine opR.mk (ρ' := ρ2) esp R2 (e2.trans h1.1) fun Q => ?_
          simp (disch := omega) only [e_106, w_106_0, w_106_1, w_106_2, w_106_5, w_106_6, w_106_7, w_106_10, w_106_11, w_106_12, w_106_15, w_106_16, w_106_17, w_106_20, w_106_21, w_106_22, w_106_23, w_106_24, w_106_27, w_106_30, w_106_31, w_106_32, w_106_35, w_106_36, w_106_37, w_106_38, w_106_41, w_106_44, w_106_45, w_106_46, w_106_49, w_106_50, w_106_51, w_106_52, w_106_53, w_106_56, w_106_57, w_106_58, w_106_61, w_106_64, w_106_65, w_106_66, w_106_69, w_106_70, w_106_71, w_106_72, w_106_73, w_106_76, w_106_77, w_106_80, w_106_82, w_106_83, w_106_84, w_106_85, w_106_86, w_106_87, mm_k_none, mm_k_int, mm_k_ref, mm_k_null, mm_K_inl, mm_tl_some, mm_tl_none, mm_fg_ok, mm_rc_ok, mm_fp_ok, mm_ai_ok, mm_si_ok, mm_az_ok, mm_sz_ok, z01, z11, zb, b2i_t, b2i_f, true_and, and_true, r_at, r_at_1, r_at_2, r_at_3, r_at_4, r_at_5, r_at_6, r_at_7, r_at_8, r_at_9, r_at_10, r_at_11, r_at_12, r_at_13, r_at_14, r_at_15, r_at_16, r_at_17, r_set_1, r_set_2, r_set_3, r_set_4, r_set_5, r_set_6, r_set_7, r_set_8, r_set_9, r_set_10, r_set_11, r_set_12, r_set_13, r_set_14, r_set_15, r_set_16, r_set_17, r_set_f, r_set_n, r_g_0, r_g_1, r_g_2, r_g_3, r_g_4, r_g_5, r_g_6, r_g_7, r_g_8, r_g_9, r_g_10, r_g_11, r_g_12, r_g_13, r_g_14, r_g_15, r_g_16, r_g_17, r_g_18, r_olen, Nat.zero_le, Nat.not_lt_zero, if_true, if_false, m1_lt, m1_ge, mm_inT, pk_mul, nI_add, mm_in_nI, mm_cl_nI, nI_eq, nI_ltI, nI_leI, ↓reduceIte, Nat.add_zero, Nat.reduceLeDiff, oI_some, oI_none, m1_lt, nI_lt0, Rf_fail_eq, Rf_out_eq, eq_self, not_true_eq_false, not_false_eq_true, Nat.reduceEqDiff, Nat.reduceLT, ne_eq, or_true, true_or, or_false, false_or, decide_true, decide_false, Bool.true_eq_false, Bool.false_eq_true, b2i_ne, Rf_nodeOf_eq hR.f, hn, hsu, hsup, hq, hel.2.1, hjl, hq2, e16]
theorem opR_remove (hW : WF T σ) (hT : T + 24 < 1000000) (hR : RRel σ ρ) {h v : Int32} : opR X (d + 6) rm ρ M 109 [.int h, .int v] (sp_remove σ h v) := by
  have h40 := hW.n40
  cases hn : ndo σ h with
  | none =>
    refine opR.no hR 1 (by simp only [sp_remove, hn]) fun Q => ?_
    simp (disch := omega) only [e_109, w_109_0, w_109_1, w_109_2, w_109_5, w_109_6, w_109_7, w_109_10, w_109_11, w_109_12, w_109_15, w_109_16, w_109_17, w_109_20, w_109_21, w_109_22, w_109_23, w_109_24, w_109_27, w_109_30, w_109_31, w_109_32, w_109_35, w_109_36, w_109_37, w_109_38, w_109_41, w_109_44, w_109_45, w_109_46, w_109_49, w_109_50, w_109_51, w_109_52, w_109_53, w_109_56, w_109_58, w_109_60, w_109_63, w_109_64, w_109_65, w_109_68, w_109_69, w_109_70, w_109_71, w_109_73, w_109_76, w_109_78, mm_k_none, mm_k_int, mm_k_ref, mm_k_null, mm_K_inl, mm_tl_some, mm_tl_none, mm_fg_ok, mm_rc_ok, mm_fp_ok, mm_ai_ok, mm_si_ok, mm_az_ok, mm_sz_ok, z01, z11, zb, b2i_t, b2i_f, true_and, and_true, r_at, r_at_1, r_at_2, r_at_3, r_at_4, r_at_5, r_at_6, r_at_7, r_at_8, r_at_9, r_at_10, r_at_11, r_at_12, r_at_13, r_at_14, r_at_15, r_at_16, r_at_17, r_set_1, r_set_2, r_set_3, r_set_4, r_set_5, r_set_6, r_set_7, r_set_8, r_set_9, r_set_10, r_set_11, r_set_12, r_set_13, r_set_14, r_set_15, r_set_16, r_set_17, r_set_f, r_set_n, r_g_0, r_g_1, r_g_2, r_g_3, r_g_4, r_g_5, r_g_6, r_g_7, r_g_8, r_g_9, r_g_10, r_g_11, r_g_12, r_g_13, r_g_14, r_g_15, r_g_16, r_g_17, r_g_18, r_olen, Nat.zero_le, Nat.not_lt_zero, if_true, if_false, m1_lt, m1_ge, mm_inT, pk_mul, nI_add, mm_in_nI, mm_cl_nI, nI_eq, nI_ltI, nI_leI, ↓reduceIte, Nat.add_zero, Nat.reduceLeDiff, oI_some, oI_none, m1_lt, nI_lt0, Rf_fail_eq, Rf_out_eq, eq_self, not_true_eq_false, not_false_eq_true, Nat.reduceEqDiff, Nat.reduceLT, ne_eq, or_true, true_or, or_false, false_or, decide_true, decide_false, Bool.true_eq_false, Bool.false_eq_true, b2i_ne, Rf_nodeOf_eq hR.f, hn]
  | some n =>
    have hlt := ndo_lt hW hn
    have h72 := El_72 hW hlt
    have hsu := fun Q => Rf_supported_eq (X := X) (d := d + 4) (rm := rm) (ρ := (nI 0, ρ.2.1, ρ.2.2)) (M := M) (Q := Q) hW hR.f.no (w := 1) (by decide) hlt
    cases hsup : sup σ 1 n with
    | false =>
      refine opR.no hR 2 (by simp only [sp_remove, hn, hsup, if_true]) fun Q => ?_
      simp (disch := omega) only [e_109, w_109_0, w_109_1, w_109_2, w_109_5, w_109_6, w_109_7, w_109_10, w_109_11, w_109_12, w_109_15, w_109_16, w_109_17, w_109_20, w_109_21, w_109_22, w_109_23, w_109_24, w_109_27, w_109_30, w_109_31, w_109_32, w_109_35, w_109_36, w_109_37, w_109_38, w_109_41, w_109_44, w_109_45, w_109_46, w_109_49, w_109_50, w_109_51, w_109_52, w_109_53, w_109_56, w_109_58, w_109_60, w_109_63, w_109_64, w_109_65, w_109_68, w_109_69, w_109_70, w_109_71, w_109_73, w_109_76, w_109_78, mm_k_none, mm_k_int, mm_k_ref, mm_k_null, mm_K_inl, mm_tl_some, mm_tl_none, mm_fg_ok, mm_rc_ok, mm_fp_ok, mm_ai_ok, mm_si_ok, mm_az_ok, mm_sz_ok, z01, z11, zb, b2i_t, b2i_f, true_and, and_true, r_at, r_at_1, r_at_2, r_at_3, r_at_4, r_at_5, r_at_6, r_at_7, r_at_8, r_at_9, r_at_10, r_at_11, r_at_12, r_at_13, r_at_14, r_at_15, r_at_16, r_at_17, r_set_1, r_set_2, r_set_3, r_set_4, r_set_5, r_set_6, r_set_7, r_set_8, r_set_9, r_set_10, r_set_11, r_set_12, r_set_13, r_set_14, r_set_15, r_set_16, r_set_17, r_set_f, r_set_n, r_g_0, r_g_1, r_g_2, r_g_3, r_g_4, r_g_5, r_g_6, r_g_7, r_g_8, r_g_9, r_g_10, r_g_11, r_g_12, r_g_13, r_g_14, r_g_15, r_g_16, r_g_17, r_g_18, r_olen, Nat.zero_le, Nat.not_lt_zero, if_true, if_false, m1_lt, m1_ge, mm_inT, pk_mul, nI_add, mm_in_nI, mm_cl_nI, nI_eq, nI_ltI, nI_leI, ↓reduceIte, Nat.add_zero, Nat.reduceLeDiff, oI_some, oI_none, m1_lt, nI_lt0, Rf_fail_eq, Rf_out_eq, eq_self, not_true_eq_false, not_false_eq_true, Nat.reduceEqDiff, Nat.reduceLT, ne_eq, or_true, true_or, or_false, false_or, decide_true, decide_false, Bool.true_eq_false, Bool.false_eq_true, b2i_ne, Rf_nodeOf_eq hR.f, hn, hsu, hsup]
    | true =>
      by_cases hs : stale σ n = true
      · obtain ⟨f, hq⟩ := Rf_show_no (X := X) (d := d) (rm := rm) (M := M) (ρ := (nI 0, ρ.2.1, ρ.2.2)) hW hR.f hlt hs
        refine opR.no ((hR.f (c := nI 0)).s (f := f)) 3 (by simp only [sp_remove, hn, hsup, Bool.true_eq_false, if_false, if_pos hs]) fun Q => ?_
        simp (disch := omega) only [e_109, w_109_0, w_109_1, w_109_2, w_109_5, w_109_6, w_109_7, w_109_10, w_109_11, w_109_12, w_109_15, w_109_16, w_109_17, w_109_20, w_109_21, w_109_22, w_109_23, w_109_24, w_109_27, w_109_30, w_109_31, w_109_32, w_109_35, w_109_36, w_109_37, w_109_38, w_109_41, w_109_44, w_109_45, w_109_46, w_109_49, w_109_50, w_109_51, w_109_52, w_109_53, w_109_56, w_109_58, w_109_60, w_109_63, w_109_64, w_109_65, w_109_68, w_109_69, w_109_70, w_109_71, w_109_73, w_109_76, w_109_78, mm_k_none, mm_k_int, mm_k_ref, mm_k_null, mm_K_inl, mm_tl_some, mm_tl_none, mm_fg_ok, mm_rc_ok, mm_fp_ok, mm_ai_ok, mm_si_ok, mm_az_ok, mm_sz_ok, z01, z11, zb, b2i_t, b2i_f, true_and, and_true, r_at, r_at_1, r_at_2, r_at_3, r_at_4, r_at_5, r_at_6, r_at_7, r_at_8, r_at_9, r_at_10, r_at_11, r_at_12, r_at_13, r_at_14, r_at_15, r_at_16, r_at_17, r_set_1, r_set_2, r_set_3, r_set_4, r_set_5, r_set_6, r_set_7, r_set_8, r_set_9, r_set_10, r_set_11, r_set_12, r_set_13, r_set_14, r_set_15, r_set_16, r_set_17, r_set_f, r_set_n, r_g_0, r_g_1, r_g_2, r_g_3, r_g_4, r_g_5, r_g_6, r_g_7, r_g_8, r_g_9, r_g_10, r_g_11, r_g_12, r_g_13, r_g_14, r_g_15, r_g_16, r_g_17, r_g_18, r_olen, Nat.zero_le, Nat.not_lt_zero, if_true, if_false, m1_lt, m1_ge, mm_inT, pk_mul, nI_add, mm_in_nI, mm_cl_nI, nI_eq, nI_ltI, nI_leI, ↓reduceIte, Nat.add_zero, Nat.reduceLeDiff, oI_some, oI_none, m1_lt, nI_lt0, Rf_fail_eq, Rf_out_eq, eq_self, not_true_eq_false, not_false_eq_true, Nat.reduceEqDiff, Nat.reduceLT, ne_eq, or_true, true_or, or_false, false_or, decide_true, decide_false, Bool.true_eq_false, Bool.false_eq_true, b2i_ne, Rf_nodeOf_eq hR.f, hn, hsu, hsup, hq]
      · have hs' : stale σ n = false := by simpa using hs
        obtain ⟨ρ1, h1, h2, h3, hq⟩ := Rf_show_yes (X := X) (d := d) (rm := rm) (M := M) (ρ := (nI 0, ρ.2.1, ρ.2.2)) hW hR.f hlt hs'
        have hel := h2 n (rc_refl hW hlt)
        have R1 := (hR.f (c := nI 0)).same h1
        cases hf : fst1 v (El σ n) with
        | none =>
          refine opR.no R1 4 (by simp only [sp_remove, hn, hsup, Bool.true_eq_false, if_false, if_neg hs, hf]) fun Q => ?_
          simp (disch := omega) only [e_109, w_109_0, w_109_1, w_109_2, w_109_5, w_109_6, w_109_7, w_109_10, w_109_11, w_109_12, w_109_15, w_109_16, w_109_17, w_109_20, w_109_21, w_109_22, w_109_23, w_109_24, w_109_27, w_109_30, w_109_31, w_109_32, w_109_35, w_109_36, w_109_37, w_109_38, w_109_41, w_109_44, w_109_45, w_109_46, w_109_49, w_109_50, w_109_51, w_109_52, w_109_53, w_109_56, w_109_58, w_109_60, w_109_63, w_109_64, w_109_65, w_109_68, w_109_69, w_109_70, w_109_71, w_109_73, w_109_76, w_109_78, mm_k_none, mm_k_int, mm_k_ref, mm_k_null, mm_K_inl, mm_tl_some, mm_tl_none, mm_fg_ok, mm_rc_ok, mm_fp_ok, mm_ai_ok, mm_si_ok, mm_az_ok, mm_sz_ok, z01, z11, zb, b2i_t, b2i_f, true_and, and_true, r_at, r_at_1, r_at_2, r_at_3, r_at_4, r_at_5, r_at_6, r_at_7, r_at_8, r_at_9, r_at_10, r_at_11, r_at_12, r_at_13, r_at_14, r_at_15, r_at_16, r_at_17, r_set_1, r_set_2, r_set_3, r_set_4, r_set_5, r_set_6, r_set_7, r_set_8, r_set_9, r_set_10, r_set_11, r_set_12, r_set_13, r_set_14, r_set_15, r_set_16, r_set_17, r_set_f, r_set_n, r_g_0, r_g_1, r_g_2, r_g_3, r_g_4, r_g_5, r_g_6, r_g_7, r_g_8, r_g_9, r_g_10, r_g_11, r_g_12, r_g_13, r_g_14, r_g_15, r_g_16, r_g_17, r_g_18, r_olen, Nat.zero_le, Nat.not_lt_zero, if_true, if_false, m1_lt, m1_ge, mm_inT, pk_mul, nI_add, mm_in_nI, mm_cl_nI, nI_eq, nI_ltI, nI_leI, ↓reduceIte, Nat.add_zero, Nat.reduceLeDiff, oI_some, oI_none, m1_lt, nI_lt0, Rf_fail_eq, Rf_out_eq, eq_self, not_true_eq_false, not_false_eq_true, Nat.reduceEqDiff, Nat.reduceLT, ne_eq, or_true, true_or, or_false, false_or, decide_true, decide_false, Bool.true_eq_false, Bool.false_eq_true, b2i_ne, Rf_nodeOf_eq hR.f, hn, hsu, hsup, hq, Rf_firstOf_eq (show n < 40 by omega) hel, hf]
        | some j =>
          have hjl := fst1_lt hf
          obtain ⟨-, ρ2, R2, e2, k2, hq2⟩ := Rf_takeAt_eq (X := X) (d := d) (rm := rm) (M := M) hW hT R1 hlt hs' h2 hsup hjl
          have esp : sp_remove σ h v = (0, nI j, tkAt σ n j) := by
            simp only [sp_remove, hn, hsup, Bool.true_eq_false, if_false, if_neg hs, hf]
          refine opR.mk (ρ' := ρ2) esp R2 (e2.trans h1.1) fun Q => ?_
          simp (disch := omega) only [e_109, w_109_0, w_109_1, w_109_2, w_109_5, w_109_6, w_109_7, w_109_10, w_109_11, w_109_12, w_109_15, w_109_16, w_109_17, w_109_20, w_109_21, w_109_22, w_109_23, w_109_24, w_109_27, w_109_30, w_109_31, w_109_32, w_109_35, w_109_36, w_109_37, w_109_38, w_109_41, w_109_44, w_109_45, w_109_46, w_109_49, w_109_50, w_109_51, w_109_52, w_109_53, w_109_56, w_109_58, w_109_60, w_109_63, w_109_64, w_109_65, w_109_68, w_109_69, w_109_70, w_109_71, w_109_73, w_109_76, w_109_78, mm_k_none, mm_k_int, mm_k_ref, mm_k_null, mm_K_inl, mm_tl_some, mm_tl_none, mm_fg_ok, mm_rc_ok, mm_fp_ok, mm_ai_ok, mm_si_ok, mm_az_ok, mm_sz_ok, z01, z11, zb, b2i_t, b2i_f, true_and, and_true, r_at, r_at_1, r_at_2, r_at_3, r_at_4, r_at_5, r_at_6, r_at_7, r_at_8, r_at_9, r_at_10, r_at_11, r_at_12, r_at_13, r_at_14, r_at_15, r_at_16, r_at_17, r_set_1, r_set_2, r_set_3, r_set_4, r_set_5, r_set_6, r_set_7, r_set_8, r_set_9, r_set_10, r_set_11, r_set_12, r_set_13, r_set_14, r_set_15, r_set_16, r_set_17, r_set_f, r_set_n, r_g_0, r_g_1, r_g_2, r_g_3, r_g_4, r_g_5, r_g_6, r_g_7, r_g_8, r_g_9, r_g_10, r_g_11, r_g_12, r_g_13, r_g_14, r_g_15, r_g_16, r_g_17, r_g_18, r_olen, Nat.zero_le, Nat.not_lt_zero, if_true, if_false, m1_lt, m1_ge, mm_inT, pk_mul, nI_add, mm_in_nI, mm_cl_nI, nI_eq, nI_ltI, nI_leI, ↓reduceIte, Nat.add_zero, Nat.reduceLeDiff, oI_some, oI_none, m1_lt, nI_lt0, Rf_fail_eq, Rf_out_eq, eq_self, not_true_eq_false, not_false_eq_true, Nat.reduceEqDiff, Nat.reduceLT, ne_eq, or_true, true_or, or_false, false_or, decide_true, decide_false, Bool.true_eq_false, Bool.false_eq_true, b2i_ne, Rf_nodeOf_eq hR.f, hn, hsu, hsup, hq, Rf_firstOf_eq (show n < 40 by omega) hel, hf, hq2]
end RF20
