/-! the class: fill writes the ELEMENTS -/
def FillOK (X : Nat × Nat × (Nat → Int32)) (M : mm_M) (Λ : Lay) (σ : Sg) (n : Nat) : Prop := ∀ (d : Nat) (β : CS) (c m : Nat), isB σ c m → (c = 2 ∨ c = 3 ∨ n < m) → 24 * sL σ n ≤ c_len σ c m → StRel σ β → ∃ β', oth n c m β β' ∧ bfAt β' c m (El σ n) ∧ ∀ Q, WPC X (d + 2 * sG σ n + 1) 27 [.ref (Λ.1 4 n), .ref (Λ.1 c m)] (mm_C Λ σ β M) Q = Q (.inl (some (.int (nI (El σ n).length)))) (mm_C Λ σ β' M)
section CL9
variable {X : Nat × Nat × (Nat → Int32)} {d T n c m : Nat} {Λ : Lay} {σ : Sg} {M : mm_M}
theorem Lc_fill_two (hW : WF T σ) (hL : LK Λ σ) (hn : n < sN σ) (h2 : kTwo (sK σ n) = true) (ha : FillOK X M Λ σ (sO σ n)) (hb : FillOK X M Λ σ (sT σ n)) {β : CS} (hB : isB σ c m) (hcm : c = 2 ∨ c = 3 ∨ n < m) (hlen : 24 * sL σ n ≤ c_len σ c m) (hS : StRel σ β) (d : Nat) : ∃ β', oth n c m β β' ∧ bfAt β' c m (El σ n) ∧ ∀ Q, WPC X (d + 2 * sG σ n) 30 [.ref (Λ.1 4 n), .ref (Λ.1 c m)] (mm_C Λ σ β M) Q = Q (.inl (some (.int (nI (El σ n).length)))) (mm_C Λ σ β' M) := by
  have h1 : kOne (sK σ n) = true := by simp [kTwo] at h2; simp [kOne]; omega
  have h12 := hW.k12 hn
  have h9 : 9 ≤ sK σ n := by simp [kTwo] at h2; omega
  have ho := hW.o hn h1
  have ht := hW.t hn h2
  obtain ⟨hLL, hGG⟩ := (hW.2.2.2.1 n hn).2.2.2.2.2.2.2.2.2.2.2.2.1 h2
  have b9 : isB σ 9 n := Or.inr ⟨Or.inl rfl, hn, h2⟩
  have b10 : isB σ 10 n := Or.inr ⟨Or.inr rfl, hn, h2⟩
  have hnode := fun β => c_node_at (M := M) (β := β) hL hn
  have la := El_len hW (sO σ n) (by omega)
  have lb := El_len hW (sT σ n) (by omega)
  have c9 : c_len σ 9 n = 24 * sL σ (sO σ n) := rfl
  have c10 : c_len σ 10 n = 24 * sL σ (sT σ n) := rfl
  have hbc := isB_c hB
  have gc := c_len_le hW hB
  have e1 : d + 2 * max (sG σ (sO σ n)) (sG σ (sT σ n)) + 1 = (d + 2 * (max (sG σ (sO σ n)) (sG σ (sT σ n)) - sG σ (sO σ n))) + 2 * sG σ (sO σ n) + 1 := by omega
  have e2 : d + 2 * max (sG σ (sO σ n)) (sG σ (sT σ n)) + 1 = (d + 2 * (max (sG σ (sO σ n)) (sG σ (sT σ n)) - sG σ (sT σ n))) + 2 * sG σ (sT σ n) + 1 := by omega
  obtain ⟨β1, o1, f1, q1⟩ := ha (d + 2 * (max (sG σ (sO σ n)) (sG σ (sT σ n)) - sG σ (sO σ n))) β 9 n b9 (Or.inr (Or.inr ho)) (by omega) hS
  rw [← e1] at q1
  obtain ⟨β2, o2, f2, q2⟩ := hb (d + 2 * (max (sG σ (sO σ n)) (sG σ (sT σ n)) - sG σ (sT σ n))) β1 10 n b10 (Or.inr (Or.inr ht)) (by omega) (o1.st b9 hS)
  rw [← e2] at q2
  have fa2 : bfAt β2 9 n (El σ (sO σ n)) := fun i hi => by
    rw [o2.1 9 n (by omega) (by omega)]
    exact f1 i hi
  obtain ⟨f3, l8, hf3, q3⟩ := Lc_two_1 (X := X) (d := d + 2 * max (sG σ (sO σ n)) (sG σ (sT σ n))) (M := M) hW hL hn h2 hB (by omega) (A := El σ (sO σ n)) (B := El σ (sT σ n)) (by omega) (by omega) (El σ (sO σ n)).length 0 none [] β2 (by omega) fa2 f2 (fun i hi => absurd hi (by simp)) (by simp; omega)
  rw [List.drop_zero] at hf3 q3
  have lA := combA_len (κ := sK σ n) (B := El σ (sT σ n)) (El σ (sO σ n)) []
  simp only [List.length_nil] at lA
  have eE : El σ n = comb (sK σ n) (El σ (sO σ n)) (El σ (sT σ n)) := by rw [El_at hW hn, ElB_ge h9 h12]
  have oo : oth n c m β β2 := ⟨fun c' m' z1 z2 => by rw [o2.1 c' m' (by omega) (by omega), o1.1 c' m' (by omega) (by omega)], o2.2.trans o1.2⟩
  have pre : ∀ Q, WPC X (d + 2 * sG σ n) 30 [.ref (Λ.1 4 n), .ref (Λ.1 c m)] (mm_C Λ σ β M) Q = WP X (d + 2 * max (sG σ (sO σ n)) (sG σ (sT σ n)) + 2) 30 109 [some (.ref (Λ.1 4 n)), some (.ref (Λ.1 c m)), some (.ref (Λ.1 9 n)), some (.ref (Λ.1 10 n)), some (.int (nI (El σ (sO σ n)).length)), some (.int (nI (El σ (sT σ n)).length)), some (.int (nI ((El σ (sO σ n)).foldl (combA (sK σ n) (El σ (sT σ n))) []).length)), some (.int (nI (El σ (sO σ n)).length)), l8] [] (mm_C Λ σ (c_put β2 c m f3) M) Q := by
    intro Q
    refine Eq.trans ?_ (q3 Q)
    rw [hGG, show d + 2 * (max (sG σ (sO σ n)) (sG σ (sT σ n)) + 1) = d + 2 * max (sG σ (sO σ n)) (sG σ (sT σ n)) + 1 + 1 by omega]
    simp (disch := omega) only [e_30, w_30_0, w_30_1, w_30_4, w_30_4n, w_30_5, w_30_6, w_30_9, w_30_9n, w_30_10, w_30_11, w_30_14, w_30_14n, w_30_15, w_30_18, w_30_20, w_30_21, w_30_24, w_30_24n, w_30_25, w_30_28, w_30_30, w_30_31, w_30_33, w_30_34, w_30_38, w_30_40, w_30_43, w_30_43n, w_30_44, w_30_46, w_30_46n, w_30_47, w_30_49, w_30_50, w_30_53, w_30_56, w_30_57, w_30_60, w_30_61, w_30_63, w_30_64, w_30_67, w_30_69, w_30_72, w_30_74, w_30_75, w_30_78, w_30_80, w_30_83, w_30_84, w_30_87, w_30_88, w_30_91, w_30_92, w_30_94, w_30_94n, w_30_95, w_30_97, w_30_98, w_30_101, w_30_103, w_30_106, w_30_109, w_30_110, w_30_113, w_30_115, w_30_118, w_30_119, w_30_123, w_30_125, w_30_128, w_30_129, w_30_131, w_30_131n, w_30_132, w_30_134, w_30_135, w_30_138, w_30_140, w_30_143, w_30_146, w_30_148, mm_k_none, mm_k_int, mm_k_ref, mm_k_null, mm_K_inl, mm_tl_some, mm_tl_none, mm_fg_ok, mm_rc_ok, mm_fp_ok, mm_ai_ok, mm_si_ok, mm_az_ok, mm_sz_ok, z01, z11, zb, b2i_t, b2i_f, true_and, and_true, c_g0, c_g1, c_g2, c_g3, c_g4, c_g5, c_g6, c_g7, c_g8, c_g9, c_g10, c_g11, c_g12, c_gl, c_o0, c_o1, c_o2, c_o3, c_ol, c_s0, c_s1, c_s2, c_s3, c_sl, Nat.zero_le, Nat.not_lt_zero, if_true, if_false, m1_lt, m1_ge, mm_inT, pk_mul, nI_add, mm_in_nI, mm_cl_nI, nI_eq, nI_ltI, nI_leI, ↓reduceIte, Nat.add_zero, Nat.reduceLeDiff, oI_some, oI_none, m1_lt, nI_lt0, Rf_fail_eq, Rf_out_eq, eq_self, not_true_eq_false, not_false_eq_true, Nat.reduceEqDiff, Nat.reduceLT, ne_eq, or_true, true_or, or_false, false_or, decide_true, decide_false, Bool.true_eq_false, Bool.false_eq_true, b2i_ne, hnode, vRow_t h2, vBase_t h2, vOther_t h2, q1, q2]
    rfl
  by_cases k9 : sK σ n = 9
  · obtain ⟨f4, hf4, q4⟩ := Lc_two_2 (X := X) (d := d + 2 * max (sG σ (sO σ n)) (sG σ (sT σ n))) (M := M) (l0 := some (.ref (Λ.1 4 n))) (l2 := some (.ref (Λ.1 9 n))) (l4 := some (.int (nI (El σ (sO σ n)).length))) hW hL hn h2 hB (by omega) (B := El σ (sT σ n)) (by omega) (El σ (sT σ n)).length 0 l8 _ (c_put β2 c m f3) (by omega) (fun i hi => by rw [c_put_ne (by omega)]; exact f2 i hi) hf3 (by omega)
    rw [List.drop_zero, c_putput] at hf4
    rw [List.drop_zero] at q4
    have ec : comb (sK σ n) (El σ (sO σ n)) (El σ (sT σ n)) = (El σ (sT σ n)).foldl addOnce ((El σ (sO σ n)).foldl (combA (sK σ n) (El σ (sT σ n))) []) := by rw [comb, if_pos k9]
    rw [eE, ec]
    refine ⟨c_put β2 c m f4, oo.trans oth.put, hf4, fun Q => ?_⟩
    have q4' := q4 Q
    rw [c_putput] at q4'
    rw [pre]
    refine Eq.trans ?_ q4'
    simp (disch := omega) only [w_30_0, w_30_1, w_30_4, w_30_4n, w_30_5, w_30_6, w_30_9, w_30_9n, w_30_10, w_30_11, w_30_14, w_30_14n, w_30_15, w_30_18, w_30_20, w_30_21, w_30_24, w_30_24n, w_30_25, w_30_28, w_30_30, w_30_31, w_30_33, w_30_34, w_30_38, w_30_40, w_30_43, w_30_43n, w_30_44, w_30_46, w_30_46n, w_30_47, w_30_49, w_30_50, w_30_53, w_30_56, w_30_57, w_30_60, w_30_61, w_30_63, w_30_64, w_30_67, w_30_69, w_30_72, w_30_74, w_30_75, w_30_78, w_30_80, w_30_83, w_30_84, w_30_87, w_30_88, w_30_91, w_30_92, w_30_94, w_30_94n, w_30_95, w_30_97, w_30_98, w_30_101, w_30_103, w_30_106, w_30_109, w_30_110, w_30_113, w_30_115, w_30_118, w_30_119, w_30_123, w_30_125, w_30_128, w_30_129, w_30_131, w_30_131n, w_30_132, w_30_134, w_30_135, w_30_138, w_30_140, w_30_143, w_30_146, w_30_148, mm_k_none, mm_k_int, mm_k_ref, mm_k_null, mm_K_inl, mm_tl_some, mm_tl_none, mm_fg_ok, mm_rc_ok, mm_fp_ok, mm_ai_ok, mm_si_ok, mm_az_ok, mm_sz_ok, z01, z11, zb, b2i_t, b2i_f, true_and, and_true, c_g0, c_g1, c_g2, c_g3, c_g4, c_g5, c_g6, c_g7, c_g8, c_g9, c_g10, c_g11, c_g12, c_gl, c_o0, c_o1, c_o2, c_o3, c_ol, c_s0, c_s1, c_s2, c_s3, c_sl, Nat.zero_le, Nat.not_lt_zero, if_true, if_false, m1_lt, m1_ge, mm_inT, pk_mul, nI_add, mm_in_nI, mm_cl_nI, nI_eq, nI_ltI, nI_leI, ↓reduceIte, Nat.add_zero, Nat.reduceLeDiff, oI_some, oI_none, m1_lt, nI_lt0, Rf_fail_eq, Rf_out_eq, eq_self, not_true_eq_false, not_false_eq_true, Nat.reduceEqDiff, Nat.reduceLT, ne_eq, or_true, true_or, or_false, false_or, decide_true, decide_false, Bool.true_eq_false, Bool.false_eq_true, b2i_ne, hnode, k9]
  · have ec : comb (sK σ n) (El σ (sO σ n)) (El σ (sT σ n)) = (El σ (sO σ n)).foldl (combA (sK σ n) (El σ (sT σ n))) [] := by rw [comb, if_neg k9]
    rw [eE, ec]
    refine ⟨c_put β2 c m f3, oo.trans oth.put, hf3, fun Q => ?_⟩
    rw [pre]
    simp (disch := omega) only [w_30_0, w_30_1, w_30_4, w_30_4n, w_30_5, w_30_6, w_30_9, w_30_9n, w_30_10, w_30_11, w_30_14, w_30_14n, w_30_15, w_30_18, w_30_20, w_30_21, w_30_24, w_30_24n, w_30_25, w_30_28, w_30_30, w_30_31, w_30_33, w_30_34, w_30_38, w_30_40, w_30_43, w_30_43n, w_30_44, w_30_46, w_30_46n, w_30_47, w_30_49, w_30_50, w_30_53, w_30_56, w_30_57, w_30_60, w_30_61, w_30_63, w_30_64, w_30_67, w_30_69, w_30_72, w_30_74, w_30_75, w_30_78, w_30_80, w_30_83, w_30_84, w_30_87, w_30_88, w_30_91, w_30_92, w_30_94, w_30_94n, w_30_95, w_30_97, w_30_98, w_30_101, w_30_103, w_30_106, w_30_109, w_30_110, w_30_113, w_30_115, w_30_118, w_30_119, w_30_123, w_30_125, w_30_128, w_30_129, w_30_131, w_30_131n, w_30_132, w_30_134, w_30_135, w_30_138, w_30_140, w_30_143, w_30_146, w_30_148, mm_k_none, mm_k_int, mm_k_ref, mm_k_null, mm_K_inl, mm_tl_some, mm_tl_none, mm_fg_ok, mm_rc_ok, mm_fp_ok, mm_ai_ok, mm_si_ok, mm_az_ok, mm_sz_ok, z01, z11, zb, b2i_t, b2i_f, true_and, and_true, c_g0, c_g1, c_g2, c_g3, c_g4, c_g5, c_g6, c_g7, c_g8, c_g9, c_g10, c_g11, c_g12, c_gl, c_o0, c_o1, c_o2, c_o3, c_ol, c_s0, c_s1, c_s2, c_s3, c_sl, Nat.zero_le, Nat.not_lt_zero, if_true, if_false, m1_lt, m1_ge, mm_inT, pk_mul, nI_add, mm_in_nI, mm_cl_nI, nI_eq, nI_ltI, nI_leI, ↓reduceIte, Nat.add_zero, Nat.reduceLeDiff, oI_some, oI_none, m1_lt, nI_lt0, Rf_fail_eq, Rf_out_eq, eq_self, not_true_eq_false, not_false_eq_true, Nat.reduceEqDiff, Nat.reduceLT, ne_eq, or_true, true_or, or_false, false_or, decide_true, decide_false, Bool.true_eq_false, Bool.false_eq_true, b2i_ne, hnode, k9]
theorem St_fillKeys_eq (hW : WF T σ) (hL : LK Λ σ) (hn : n < sN σ) (h6 : sK σ n = 6) {β : CS} (hS : StRel σ β) (hB : isB σ c m) (hl2 : 24 ≤ c_len σ c m) : ∃ f, bfAt (c_put β c m f) c m ((sR σ n).map nI) ∧ ∀ Q, WPC X d 4 [.ref (Λ.1 5 n), .ref (Λ.1 c m)] (mm_C Λ σ β M) Q = Q (.inl (some (.int (nI (sR σ n).length)))) (mm_C Λ σ (c_put β c m f) M) := by
  have hk : kS (sK σ n) = true := by rw [h6]; rfl
  have hcl := cat_len hW hn hk
  have g := c_len6_le (σ := σ) (n := n)
  obtain ⟨d1, d2, d3⟩ := hW.rk hn h6
  have ek : ksO σ n = sR σ n := if_pos h6
  have ed : dk none (cat σ n) = sR σ n := by
    rw [cat_flat, ek]
    exact dk_flat _ _ d2 (fun k hk => ((d3 k).1 hk).2) (fun k _ z => by cases z)
  obtain ⟨f, hf, hq⟩ := St_fillKeys_lp (X := X) (d := d) (M := M) hW hL hn hk (P := cat σ n) hcl hB (by omega) (cat_8 hW hn) (cat σ n).length 0 β [] none (by omega) (hS n hn hk).1 (by simp) (fun _ => rfl) (fun h => by omega) (fun i hi => absurd hi (by simp))
  rw [List.drop_zero, List.nil_append, ed] at hf hq
  refine ⟨f, hf, fun Q => Eq.trans ?_ (hq Q)⟩
  simp only [e_4, w_4_0, w_4_1, w_4_2, w_4_3, w_4_5, w_4_6, w_4_9, w_4_12, w_4_13, w_4_16, w_4_17, w_4_20, w_4_21, w_4_22, w_4_23, w_4_26, w_4_27, w_4_28, w_4_29, w_4_30, w_4_33, w_4_34, w_4_35, w_4_36, w_4_39, w_4_40, w_4_41, w_4_42, w_4_45, w_4_48, w_4_51, w_4_52, mm_k_none, mm_k_int, mm_k_ref, mm_k_null, mm_K_inl, mm_tl_some, mm_tl_none, mm_fg_ok, mm_rc_ok, mm_fp_ok, mm_ai_ok, mm_si_ok, mm_az_ok, mm_sz_ok, z01, z11, zb, b2i_t, b2i_f, true_and, and_true]
  rfl
theorem Lc_fill_ok (hW : WF T σ) (hL : LK Λ σ) : ∀ n, n < sN σ → stale σ n = false → FillOK X M Λ σ n := by
  intro n
  induction n using Nat.strongRecOn with
  | _ n ih =>
    intro hn hs d β c m hB hcm hlen hS
    have h12 := hW.k12 hn
    have hlg := hW.lg hn
    have hnode := fun β => c_node_at (M := M) (β := β) hL hn
    have gc := c_len_le hW hB
    have h24 : 24 ≤ c_len σ c m := by omega
    have lE := El_len hW n hn
    have hself : ∀ s k, s < sN σ → kS (sK σ s) = true → k < c_len σ 8 s → vStore Λ σ n = .ref (Λ.1 5 s) → vKey σ n = k → k < 8 → El σ n = sS σ (8 * s + k) → sG σ n = 1 → (sK σ n = 0 ∨ sK σ n = 1 ∨ sK σ n = 2 ∨ sK σ n = 7) → ∃ β', oth n c m β β' ∧ bfAt β' c m (El σ n) ∧ ∀ Q, WPC X (d + 2 * sG σ n + 1) 27 [.ref (Λ.1 4 n), .ref (Λ.1 c m)] (mm_C Λ σ β M) Q = Q (.inl (some (.int (nI (El σ n).length)))) (mm_C Λ σ β' M) := by
      intro s k hs1 hk1 hk8 hv1 hv2 hk88 hE hG hkk
      obtain ⟨s1, s2⟩ := cat_seg hW hs1 hk1 hk8
      have hl24 := hW.s24 (8 * s + k)
      obtain ⟨f, hf, hq⟩ := St_fillOf_eq (X := X) (d := d + 1) (M := M) (c := c) (m := m) hW hL hs1 hk1 (hS s hs1 hk1).1 (cat_8 hW hs1) (cat_len hW hs1 hk1) hk88 hB s1 s2 (by omega)
      rw [hE, hG]
      refine ⟨c_put β c m f, oth.put, hf, fun Q => ?_⟩
      have hq2 : ∀ Q, WPC X (d + 2 * 1) 5 [.ref (Λ.1 5 s), .int (nI k), .ref (Λ.1 c m)] (mm_C Λ σ β M) Q = Q (.inl (some (.int (nI (sS σ (8 * s + k)).length)))) (mm_C Λ σ (c_put β c m f) M) := hq
      have hst := c_st_at (M := M) (β := β) hL hs1 hk1
      rcases hkk with z | z | z | z <;> simp (disch := omega) only [e_27, w_27_0, w_27_1, w_27_4_0, w_27_4_1, w_27_4_2, w_27_4_3, w_27_4_4, w_27_4_5, w_27_4_6, w_27_4_7, w_27_4_8, w_27_4_9, w_27_4_10, w_27_4_11, w_27_4_12, w_27_56, w_27_57, w_27_58, w_27_61, w_27_62, w_27_65, w_27_68, w_27_69, w_27_70, w_27_73, w_27_74, w_27_77, w_27_78, w_27_79, w_27_80, w_27_83, w_27_84, w_27_85, w_27_86, w_27_89, w_27_92, w_27_93, w_27_96, w_27_97, w_27_98, w_27_99, w_27_102, w_27_103, w_27_106, w_27_107, w_27_110, w_27_113, w_27_114, w_27_115, w_27_118, w_27_119, w_27_122, w_27_123, w_27_124, w_27_127, w_27_128, w_27_131, w_27_132, w_27_133, w_27_134, w_27_137, w_27_138, w_27_139, w_27_142, w_27_143, w_27_146, w_27_147, w_27_150, mm_k_none, mm_k_int, mm_k_ref, mm_k_null, mm_K_inl, mm_tl_some, mm_tl_none, mm_fg_ok, mm_rc_ok, mm_fp_ok, mm_ai_ok, mm_si_ok, mm_az_ok, mm_sz_ok, z01, z11, zb, b2i_t, b2i_f, true_and, and_true, c_g0, c_g1, c_g2, c_g3, c_g4, c_g5, c_g6, c_g7, c_g8, c_g9, c_g10, c_g11, c_g12, c_gl, c_o0, c_o1, c_o2, c_o3, c_ol, c_s0, c_s1, c_s2, c_s3, c_sl, Nat.zero_le, Nat.not_lt_zero, if_true, if_false, m1_lt, m1_ge, mm_inT, pk_mul, nI_add, mm_in_nI, mm_cl_nI, nI_eq, nI_ltI, nI_leI, ↓reduceIte, Nat.add_zero, Nat.reduceLeDiff, oI_some, oI_none, m1_lt, nI_lt0, Rf_fail_eq, Rf_out_eq, eq_self, not_true_eq_false, not_false_eq_true, Nat.reduceEqDiff, Nat.reduceLT, ne_eq, or_true, true_or, or_false, false_or, decide_true, decide_false, Bool.true_eq_false, Bool.false_eq_true, b2i_ne, hnode, z, hv1, hv2, hst, hq2]
    have base : kBased (sK σ n) = true → ∃ β', oth n c m β β' ∧ bfAt β' c m (El σ (sO σ n)) ∧ (El σ (sO σ n)).length ≤ c_len σ c m ∧ ∀ Q, WPC X (d + 2 * sG σ n) 27 [.ref (Λ.1 4 (sO σ n)), .ref (Λ.1 c m)] (mm_C Λ σ β M) Q = Q (.inl (some (.int (nI (El σ (sO σ n)).length)))) (mm_C Λ σ β' M) := by
      intro hb
      have ho := hW.o hn (kB_one hb)
      obtain ⟨b1, b2⟩ := (hW.2.2.2.1 n hn).2.2.2.2.2.2.2.2.2.2.2.1 hb
      have lo2 := El_len hW (sO σ n) (by omega)
      obtain ⟨β', o1, f1, q1⟩ := ih _ ho (by omega) (stale_o hW hn hs (kB_one hb)) (d + 1) β c m hB (by omega) (by omega) hS
      refine ⟨β', o1.mono (by omega), f1, by omega, fun Q => ?_⟩
      rw [show d + 2 * sG σ n = d + 1 + 2 * sG σ (sO σ n) + 1 by omega]
      exact q1 Q
    have hc : sK σ n = 0 ∨ sK σ n = 1 ∨ sK σ n = 2 ∨ sK σ n = 3 ∨ sK σ n = 4 ∨ sK σ n = 5 ∨ sK σ n = 6 ∨ sK σ n = 7 ∨ sK σ n = 8 ∨ 9 ≤ sK σ n := by omega
    have hl1 := (hW.2.2.2.1 n hn).2.2.2.2.2.2.2.2.2.2.2.2.2.1
    rcases hc with h | h | h | h | h | h | h | h | h | h
    · have hk : kS (sK σ n) = true := by rw [h]; rfl
      exact hself n 0 hn hk (by unfold c_len; rw [if_neg (by decide), if_pos rfl, h]; decide) (if_pos hk) (by unfold vKey; rw [h]; rfl) (by decide) (by rw [El_at hW hn, h, ElB_0]; rfl) (hl1 (by rw [h]; rfl) (by rw [h]; rfl)).2 (by omega)
    · have hk : kS (sK σ n) = true := by rw [h]; rfl
      exact hself n 0 hn hk (by unfold c_len; rw [if_neg (by decide), if_pos rfl, h]; decide) (if_pos hk) (by unfold vKey; rw [h]; rfl) (by decide) (by rw [El_at hW hn, h, ElB_1]; rfl) (hl1 (by rw [h]; rfl) (by rw [h]; rfl)).2 (by omega)
    · have hk : kS (sK σ n) = true := by rw [h]; rfl
      exact hself n 0 hn hk (by unfold c_len; rw [if_neg (by decide), if_pos rfl, h]; decide) (if_pos hk) (by unfold vKey; rw [h]; rfl) (by decide) (by rw [El_at hW hn, h, ElB_2]; rfl) (hl1 (by rw [h]; rfl) (by rw [h]; rfl)).2 (by omega)
    · have hb : kBased (sK σ n) = true := by rw [h]; rfl
      obtain ⟨β1, o1, f1, l1, q1⟩ := base hb
      obtain ⟨f2, hf2, q2⟩ := Lc_turnRound_eq (X := X) (d := d + 2 * sG σ n) (M := M) hW hL hB f1 l1
      have hE : El σ n = (El σ (sO σ n)).reverse := by rw [El_at hW hn, h, ElB_3]
      rw [hE]
      refine ⟨c_put β1 c m f2, o1.trans oth.put, hf2, fun Q => ?_⟩
      simp (disch := omega) only [e_27, w_27_0, w_27_1, w_27_4_0, w_27_4_1, w_27_4_2, w_27_4_3, w_27_4_4, w_27_4_5, w_27_4_6, w_27_4_7, w_27_4_8, w_27_4_9, w_27_4_10, w_27_4_11, w_27_4_12, w_27_56, w_27_57, w_27_58, w_27_61, w_27_62, w_27_65, w_27_68, w_27_69, w_27_70, w_27_73, w_27_74, w_27_77, w_27_78, w_27_79, w_27_80, w_27_83, w_27_84, w_27_85, w_27_86, w_27_89, w_27_92, w_27_93, w_27_96, w_27_97, w_27_98, w_27_99, w_27_102, w_27_103, w_27_106, w_27_107, w_27_110, w_27_113, w_27_114, w_27_115, w_27_118, w_27_119, w_27_122, w_27_123, w_27_124, w_27_127, w_27_128, w_27_131, w_27_132, w_27_133, w_27_134, w_27_137, w_27_138, w_27_139, w_27_142, w_27_143, w_27_146, w_27_147, w_27_150, mm_k_none, mm_k_int, mm_k_ref, mm_k_null, mm_K_inl, mm_tl_some, mm_tl_none, mm_fg_ok, mm_rc_ok, mm_fp_ok, mm_ai_ok, mm_si_ok, mm_az_ok, mm_sz_ok, z01, z11, zb, b2i_t, b2i_f, true_and, and_true, c_g0, c_g1, c_g2, c_g3, c_g4, c_g5, c_g6, c_g7, c_g8, c_g9, c_g10, c_g11, c_g12, c_gl, c_o0, c_o1, c_o2, c_o3, c_ol, c_s0, c_s1, c_s2, c_s3, c_sl, Nat.zero_le, Nat.not_lt_zero, if_true, if_false, m1_lt, m1_ge, mm_inT, pk_mul, nI_add, mm_in_nI, mm_cl_nI, nI_eq, nI_ltI, nI_leI, ↓reduceIte, Nat.add_zero, Nat.reduceLeDiff, oI_some, oI_none, m1_lt, nI_lt0, Rf_fail_eq, Rf_out_eq, eq_self, not_true_eq_false, not_false_eq_true, Nat.reduceEqDiff, Nat.reduceLT, ne_eq, or_true, true_or, or_false, false_or, decide_true, decide_false, Bool.true_eq_false, Bool.false_eq_true, b2i_ne, hnode, h, vBase_b hb, q1, q2, List.length_reverse]
    · have hb : kBased (sK σ n) = true := by rw [h]; rfl
      obtain ⟨β1, o1, f1, l1, q1⟩ := base hb
      obtain ⟨l4, s4⟩ := len_4 hW hn h hs
      have hE : El σ n = ((El σ (sO σ n)).drop (sB σ n)).take (sP σ n) := by rw [El_at hW hn, h, ElB_4]
      have v1 : vStart σ n = sB σ n := if_pos h
      have v2 : vLen σ n = sP σ n := if_pos h
      refine ⟨c_put β1 c m (va_cpy (β1.1 c m) (β1.1 c m) (sB σ n) 0 (sP σ n)), o1.trans oth.put, fun i hi => ?_, fun Q => ?_⟩
      · rw [c_put_at, pk_cpy_in (by omega) (by omega), show sB σ n + (i - 0) = sB σ n + i by omega, f1 (sB σ n + i) (by omega)]
        simp [hE]
      · rw [l4]
        simp (disch := omega) only [e_27, w_27_0, w_27_1, w_27_4_0, w_27_4_1, w_27_4_2, w_27_4_3, w_27_4_4, w_27_4_5, w_27_4_6, w_27_4_7, w_27_4_8, w_27_4_9, w_27_4_10, w_27_4_11, w_27_4_12, w_27_56, w_27_57, w_27_58, w_27_61, w_27_62, w_27_65, w_27_68, w_27_69, w_27_70, w_27_73, w_27_74, w_27_77, w_27_78, w_27_79, w_27_80, w_27_83, w_27_84, w_27_85, w_27_86, w_27_89, w_27_92, w_27_93, w_27_96, w_27_97, w_27_98, w_27_99, w_27_102, w_27_103, w_27_106, w_27_107, w_27_110, w_27_113, w_27_114, w_27_115, w_27_118, w_27_119, w_27_122, w_27_123, w_27_124, w_27_127, w_27_128, w_27_131, w_27_132, w_27_133, w_27_134, w_27_137, w_27_138, w_27_139, w_27_142, w_27_143, w_27_146, w_27_147, w_27_150, mm_k_none, mm_k_int, mm_k_ref, mm_k_null, mm_K_inl, mm_tl_some, mm_tl_none, mm_fg_ok, mm_rc_ok, mm_fp_ok, mm_ai_ok, mm_si_ok, mm_az_ok, mm_sz_ok, z01, z11, zb, b2i_t, b2i_f, true_and, and_true, c_g0, c_g1, c_g2, c_g3, c_g4, c_g5, c_g6, c_g7, c_g8, c_g9, c_g10, c_g11, c_g12, c_gl, c_o0, c_o1, c_o2, c_o3, c_ol, c_s0, c_s1, c_s2, c_s3, c_sl, Nat.zero_le, Nat.not_lt_zero, if_true, if_false, m1_lt, m1_ge, mm_inT, pk_mul, nI_add, mm_in_nI, mm_cl_nI, nI_eq, nI_ltI, nI_leI, ↓reduceIte, Nat.add_zero, Nat.reduceLeDiff, oI_some, oI_none, m1_lt, nI_lt0, Rf_fail_eq, Rf_out_eq, eq_self, not_true_eq_false, not_false_eq_true, Nat.reduceEqDiff, Nat.reduceLT, ne_eq, or_true, true_or, or_false, false_or, decide_true, decide_false, Bool.true_eq_false, Bool.false_eq_true, b2i_ne, hnode, h, vBase_b hb, q1, v1, v2, c_b_at hL hB, mm_cpT, c_set_b hL hB]
    · have hb : kBased (sK σ n) = true := by rw [h]; rfl
      obtain ⟨β1, o1, f1, l1, q1⟩ := base hb
      obtain ⟨f2, hf2, q2⟩ := Lc_raise_eq (X := X) (d := d + 2 * sG σ n) (M := M) (v := sV σ n) hW hL hB f1 l1
      have hE : El σ n = (El σ (sO σ n)).map (· + sV σ n) := by rw [El_at hW hn, h, ElB_5]
      have v1 : vBy σ n = sV σ n := if_pos h
      rw [hE]
      refine ⟨c_put β1 c m f2, o1.trans oth.put, hf2, fun Q => ?_⟩
      simp (disch := omega) only [e_27, w_27_0, w_27_1, w_27_4_0, w_27_4_1, w_27_4_2, w_27_4_3, w_27_4_4, w_27_4_5, w_27_4_6, w_27_4_7, w_27_4_8, w_27_4_9, w_27_4_10, w_27_4_11, w_27_4_12, w_27_56, w_27_57, w_27_58, w_27_61, w_27_62, w_27_65, w_27_68, w_27_69, w_27_70, w_27_73, w_27_74, w_27_77, w_27_78, w_27_79, w_27_80, w_27_83, w_27_84, w_27_85, w_27_86, w_27_89, w_27_92, w_27_93, w_27_96, w_27_97, w_27_98, w_27_99, w_27_102, w_27_103, w_27_106, w_27_107, w_27_110, w_27_113, w_27_114, w_27_115, w_27_118, w_27_119, w_27_122, w_27_123, w_27_124, w_27_127, w_27_128, w_27_131, w_27_132, w_27_133, w_27_134, w_27_137, w_27_138, w_27_139, w_27_142, w_27_143, w_27_146, w_27_147, w_27_150, mm_k_none, mm_k_int, mm_k_ref, mm_k_null, mm_K_inl, mm_tl_some, mm_tl_none, mm_fg_ok, mm_rc_ok, mm_fp_ok, mm_ai_ok, mm_si_ok, mm_az_ok, mm_sz_ok, z01, z11, zb, b2i_t, b2i_f, true_and, and_true, c_g0, c_g1, c_g2, c_g3, c_g4, c_g5, c_g6, c_g7, c_g8, c_g9, c_g10, c_g11, c_g12, c_gl, c_o0, c_o1, c_o2, c_o3, c_ol, c_s0, c_s1, c_s2, c_s3, c_sl, Nat.zero_le, Nat.not_lt_zero, if_true, if_false, m1_lt, m1_ge, mm_inT, pk_mul, nI_add, mm_in_nI, mm_cl_nI, nI_eq, nI_ltI, nI_leI, ↓reduceIte, Nat.add_zero, Nat.reduceLeDiff, oI_some, oI_none, m1_lt, nI_lt0, Rf_fail_eq, Rf_out_eq, eq_self, not_true_eq_false, not_false_eq_true, Nat.reduceEqDiff, Nat.reduceLT, ne_eq, or_true, true_or, or_false, false_or, decide_true, decide_false, Bool.true_eq_false, Bool.false_eq_true, b2i_ne, hnode, h, vBase_b hb, q1, q2, v1, List.length_map]
    · have hk : kS (sK σ n) = true := by rw [h]; rfl
      have hG := (hl1 (by rw [h]; rfl) (by rw [h]; rfl)).2
      have hcl := cat_len hW hn hk
      have g := c_len6_le (σ := σ) (n := n)
      have em := cat_map2 hk
      rw [if_pos h] at em
      have hE : El σ n = (cat σ n).map (·.2) := by rw [em, El_at hW hn, h, ElB_6]
      obtain ⟨f, hf, hq⟩ := St_fillAll_eq (X := X) (d := d + 1) (M := M) (c := c) (m := m) hW hL hn hk (hS n hn hk).1 hcl hB (by omega)
      have hst := c_st_at (M := M) (β := β) hL hn hk
      have v1 : vStore Λ σ n = .ref (Λ.1 5 n) := if_pos hk
      rw [hE, hG, List.length_map]
      refine ⟨c_put β c m f, oth.put, hf, fun Q => ?_⟩
      have hq2 : ∀ Q, WPC X (d + 2 * 1) 3 [.ref (Λ.1 5 n), .ref (Λ.1 c m)] (mm_C Λ σ β M) Q = Q (.inl (some (.int (nI (cat σ n).length)))) (mm_C Λ σ (c_put β c m f) M) := hq
      simp (disch := omega) only [e_27, w_27_0, w_27_1, w_27_4_0, w_27_4_1, w_27_4_2, w_27_4_3, w_27_4_4, w_27_4_5, w_27_4_6, w_27_4_7, w_27_4_8, w_27_4_9, w_27_4_10, w_27_4_11, w_27_4_12, w_27_56, w_27_57, w_27_58, w_27_61, w_27_62, w_27_65, w_27_68, w_27_69, w_27_70, w_27_73, w_27_74, w_27_77, w_27_78, w_27_79, w_27_80, w_27_83, w_27_84, w_27_85, w_27_86, w_27_89, w_27_92, w_27_93, w_27_96, w_27_97, w_27_98, w_27_99, w_27_102, w_27_103, w_27_106, w_27_107, w_27_110, w_27_113, w_27_114, w_27_115, w_27_118, w_27_119, w_27_122, w_27_123, w_27_124, w_27_127, w_27_128, w_27_131, w_27_132, w_27_133, w_27_134, w_27_137, w_27_138, w_27_139, w_27_142, w_27_143, w_27_146, w_27_147, w_27_150, mm_k_none, mm_k_int, mm_k_ref, mm_k_null, mm_K_inl, mm_tl_some, mm_tl_none, mm_fg_ok, mm_rc_ok, mm_fp_ok, mm_ai_ok, mm_si_ok, mm_az_ok, mm_sz_ok, z01, z11, zb, b2i_t, b2i_f, true_and, and_true, c_g0, c_g1, c_g2, c_g3, c_g4, c_g5, c_g6, c_g7, c_g8, c_g9, c_g10, c_g11, c_g12, c_gl, c_o0, c_o1, c_o2, c_o3, c_ol, c_s0, c_s1, c_s2, c_s3, c_sl, Nat.zero_le, Nat.not_lt_zero, if_true, if_false, m1_lt, m1_ge, mm_inT, pk_mul, nI_add, mm_in_nI, mm_cl_nI, nI_eq, nI_ltI, nI_leI, ↓reduceIte, Nat.add_zero, Nat.reduceLeDiff, oI_some, oI_none, m1_lt, nI_lt0, Rf_fail_eq, Rf_out_eq, eq_self, not_true_eq_false, not_false_eq_true, Nat.reduceEqDiff, Nat.reduceLT, ne_eq, or_true, true_or, or_false, false_or, decide_true, decide_false, Bool.true_eq_false, Bool.false_eq_true, b2i_ne, hnode, h, v1, hst, hq2]
    · have hm := hW.map hn (Or.inl h)
      have ho := hW.o hn (by rw [h]; rfl)
      have h7 := (hW.k7 hn h).2
      exact hself (sO σ n) (sB σ n) (by omega) (by rw [hm]; rfl) (by unfold c_len; rw [if_neg (by decide), if_pos rfl, hm]; exact h7) (by unfold vStore; rw [if_neg (by rw [h]; decide), if_pos (Or.inl h)]) (if_pos h) h7 (by rw [El_at hW hn, h, ElB_7]) (hl1 (by rw [h]; rfl) (by rw [h]; rfl)).2 (by omega)
    · have hm := hW.map hn (Or.inr h)
      have ho := hW.o hn (by rw [h]; rfl)
      have hks : kS (sK σ (sO σ n)) = true := by rw [hm]; rfl
      have hG := (hl1 (by rw [h]; rfl) (by rw [h]; rfl)).2
      obtain ⟨f, hf, hq⟩ := St_fillKeys_eq (X := X) (d := d + 2 * 1) (M := M) hW hL (show sO σ n < sN σ by omega) hm hS hB h24
      have hst := c_st_at (M := M) (β := β) hL (show sO σ n < sN σ by omega) hks
      have v1 : vStore Λ σ n = .ref (Λ.1 5 (sO σ n)) := by unfold vStore; rw [if_neg (by rw [h]; decide), if_pos (Or.inr h)]
      have hE : El σ n = (sR σ (sO σ n)).map nI := by rw [El_at hW hn, h, ElB_8]
      rw [hE, hG, List.length_map]
      refine ⟨c_put β c m f, oth.put, hf, fun Q => ?_⟩
      simp (disch := omega) only [e_27, w_27_0, w_27_1, w_27_4_0, w_27_4_1, w_27_4_2, w_27_4_3, w_27_4_4, w_27_4_5, w_27_4_6, w_27_4_7, w_27_4_8, w_27_4_9, w_27_4_10, w_27_4_11, w_27_4_12, w_27_56, w_27_57, w_27_58, w_27_61, w_27_62, w_27_65, w_27_68, w_27_69, w_27_70, w_27_73, w_27_74, w_27_77, w_27_78, w_27_79, w_27_80, w_27_83, w_27_84, w_27_85, w_27_86, w_27_89, w_27_92, w_27_93, w_27_96, w_27_97, w_27_98, w_27_99, w_27_102, w_27_103, w_27_106, w_27_107, w_27_110, w_27_113, w_27_114, w_27_115, w_27_118, w_27_119, w_27_122, w_27_123, w_27_124, w_27_127, w_27_128, w_27_131, w_27_132, w_27_133, w_27_134, w_27_137, w_27_138, w_27_139, w_27_142, w_27_143, w_27_146, w_27_147, w_27_150, mm_k_none, mm_k_int, mm_k_ref, mm_k_null, mm_K_inl, mm_tl_some, mm_tl_none, mm_fg_ok, mm_rc_ok, mm_fp_ok, mm_ai_ok, mm_si_ok, mm_az_ok, mm_sz_ok, z01, z11, zb, b2i_t, b2i_f, true_and, and_true, c_g0, c_g1, c_g2, c_g3, c_g4, c_g5, c_g6, c_g7, c_g8, c_g9, c_g10, c_g11, c_g12, c_gl, c_o0, c_o1, c_o2, c_o3, c_ol, c_s0, c_s1, c_s2, c_s3, c_sl, Nat.zero_le, Nat.not_lt_zero, if_true, if_false, m1_lt, m1_ge, mm_inT, pk_mul, nI_add, mm_in_nI, mm_cl_nI, nI_eq, nI_ltI, nI_leI, ↓reduceIte, Nat.add_zero, Nat.reduceLeDiff, oI_some, oI_none, m1_lt, nI_lt0, Rf_fail_eq, Rf_out_eq, eq_self, not_true_eq_false, not_false_eq_true, Nat.reduceEqDiff, Nat.reduceLT, ne_eq, or_true, true_or, or_false, false_or, decide_true, decide_false, Bool.true_eq_false, Bool.false_eq_true, b2i_ne, hnode, h, v1, hst, hq]
    · have h2 : kTwo (sK σ n) = true := by simp [kTwo]; omega
      have h1 : kOne (sK σ n) = true := by simp [kOne]; omega
      have ho := hW.o hn h1
      have ht := hW.t hn h2
      have hso := stale_o hW hn hs h1
      have hst : stale σ (sT σ n) = false := by
        rw [stale_at hW hn] at hs
        simp only [Bool.or_eq_false_iff, Bool.and_eq_false_iff, h2] at hs
        simpa using hs.2
      obtain ⟨β', o1, f1, q1⟩ := Lc_fill_two (X := X) (M := M) hW hL hn h2 (ih _ ho (by omega) hso) (ih _ ht (by omega) hst) hB hcm hlen hS d
      refine ⟨β', o1, f1, fun Q => ?_⟩
      have hkk : sK σ n = 9 ∨ sK σ n = 10 ∨ sK σ n = 11 := by omega
      rcases hkk with z | z | z <;> simp (disch := omega) only [e_27, w_27_0, w_27_1, w_27_4_0, w_27_4_1, w_27_4_2, w_27_4_3, w_27_4_4, w_27_4_5, w_27_4_6, w_27_4_7, w_27_4_8, w_27_4_9, w_27_4_10, w_27_4_11, w_27_4_12, w_27_56, w_27_57, w_27_58, w_27_61, w_27_62, w_27_65, w_27_68, w_27_69, w_27_70, w_27_73, w_27_74, w_27_77, w_27_78, w_27_79, w_27_80, w_27_83, w_27_84, w_27_85, w_27_86, w_27_89, w_27_92, w_27_93, w_27_96, w_27_97, w_27_98, w_27_99, w_27_102, w_27_103, w_27_106, w_27_107, w_27_110, w_27_113, w_27_114, w_27_115, w_27_118, w_27_119, w_27_122, w_27_123, w_27_124, w_27_127, w_27_128, w_27_131, w_27_132, w_27_133, w_27_134, w_27_137, w_27_138, w_27_139, w_27_142, w_27_143, w_27_146, w_27_147, w_27_150, mm_k_none, mm_k_int, mm_k_ref, mm_k_null, mm_K_inl, mm_tl_some, mm_tl_none, mm_fg_ok, mm_rc_ok, mm_fp_ok, mm_ai_ok, mm_si_ok, mm_az_ok, mm_sz_ok, z01, z11, zb, b2i_t, b2i_f, true_and, and_true, c_g0, c_g1, c_g2, c_g3, c_g4, c_g5, c_g6, c_g7, c_g8, c_g9, c_g10, c_g11, c_g12, c_gl, c_o0, c_o1, c_o2, c_o3, c_ol, c_s0, c_s1, c_s2, c_s3, c_sl, Nat.zero_le, Nat.not_lt_zero, if_true, if_false, m1_lt, m1_ge, mm_inT, pk_mul, nI_add, mm_in_nI, mm_cl_nI, nI_eq, nI_ltI, nI_leI, ↓reduceIte, Nat.add_zero, Nat.reduceLeDiff, oI_some, oI_none, m1_lt, nI_lt0, Rf_fail_eq, Rf_out_eq, eq_self, not_true_eq_false, not_false_eq_true, Nat.reduceEqDiff, Nat.reduceLT, ne_eq, or_true, true_or, or_false, false_or, decide_true, decide_false, Bool.true_eq_false, Bool.false_eq_true, b2i_ne, hnode, z, q1]
end CL9
