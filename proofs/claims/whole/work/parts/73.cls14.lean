/-! the class: rowLength, the relation after a change -/
section CL15
variable {X : Nat × Nat × (Nat → Int32)} {d T n c m l : Nat} {Λ : Lay} {σ : Sg} {β : CS} {M : mm_M} {Q : mm_Out → mm_M → Prop}
theorem StRel_setL (hW : WF T σ) (hl8 : l < 8 * sN σ) (hk : sK σ (l / 8) = 0 ∨ sK σ (l / 8) = 6) (hz : sK σ (l / 8) = 0 → l = 8 * (l / 8)) {L : List Int32} {c : Nat} {β' : CS} (hS : StRel σ β) (ho : oS (l / 8) β β') (hh : holds β' (l / 8) (cat (setL σ l L c) (l / 8))) (h8 : β'.1 8 (l / 8) = upd (β.1 8 (l / 8)) (l % 8) (nI (sC σ l + c))) : StRel (setL σ l L c) β' := by
  have hl : 8 * (l / 8) + l % 8 = l := by omega
  intro q hq hks
  have hq' : q < sN σ := hq
  have hks' : kS (sK σ q) = true := hks
  obtain ⟨a1, a2, a3, a4⟩ := hS q hq' hks'
  by_cases e : q = l / 8
  · subst e
    refine ⟨hh, fun z => ?_, fun z => ?_, fun z k hk8 => ?_⟩
    · have z' : sK σ (l / 8) = 1 ∨ sK σ (l / 8) = 2 := z
      omega
    · have z' : sK σ (l / 8) = 0 := z
      have hm : l % 8 = 0 := by have := hz z'; omega
      rw [h8, hm, up_at]
      show nI (sC σ l + c) = nI (ud (sC σ) l (sC σ l + c) (8 * (l / 8)))
      rw [← hz z', ud_at]
    · have z' : sK σ (l / 8) = 6 := z
      rw [h8]
      show _ = nI (ud (sC σ) l (sC σ l + c) (8 * (l / 8) + k))
      by_cases y : k = l % 8
      · rw [y, up_at, hl, ud_at]
      · rw [up_ne y, ud_ne (by omega)]
        exact a4 z' k hk8
  · have e6 := ho.1 6 q (by omega)
    have e7 := ho.1 7 q (by omega)
    have e8 := ho.1 8 q (by omega)
    have e2 := ho.2 q e
    refine ⟨?_, fun z => ?_, fun z => ?_, fun z k hk8 => ?_⟩
    · rw [cat_other hW hq' e]
      unfold holds at a1 ⊢
      rw [e6, e7, e2]
      exact a1
    · rw [e8]; exact a2 z
    · rw [e8]
      show _ = nI (ud (sC σ) l (sC σ l + c) (8 * q))
      rw [ud_ne (by omega)]
      exact a3 z
    · rw [e8]
      show _ = nI (ud (sC σ) l (sC σ l + c) (8 * q + k))
      rw [ud_ne (by omega)]
      exact a4 z k hk8
/-- the leaf's row and its store -/
theorem leaf_El (hW : WF T σ) (hn : n < sN σ) (hr : kRow (sK σ n) = true) (hb : kBased (sK σ n) = false) : ∃ s k, s < sN σ ∧ kS (sK σ s) = true ∧ vStore Λ σ n = .ref (Λ.1 5 s) ∧ vKey σ n = k ∧ k < c_len σ 8 s ∧ El σ n = sS σ (8 * s + k) ∧ (∀ l, lo σ n = some l → l = 8 * s + k ∧ s = l / 8 ∧ k = l % 8) := by
  have hlf : lf σ n = n := by rw [lf_at hW hn, hb]; rfl
  obtain ⟨s, k, h1, h2, h3, h4, h5, h6⟩ := leaf_st (Λ := Λ) hW hn hr
  rw [hlf] at h3 h4 h6
  have h8 := c_len8_le (σ := σ) (n := s)
  refine ⟨s, k, h1, h2, h3, h4, h5, ?_, fun l hlo => ?_⟩
  · rcases h6 with ⟨hlo, -⟩ | ⟨hlo, hk, rfl, rfl⟩
    · exact (on_leaf hW hn hb hlo).1
    · rcases hk with z | z
      · rw [El_at hW hn, z, ElB_1]; rfl
      · rw [El_at hW hn, z, ElB_2]; rfl
  · rcases h6 with ⟨hlo', -⟩ | ⟨hlo', -⟩
    · rw [hlo] at hlo'
      cases hlo'
      omega
    · rw [hlo] at hlo'
      cases hlo'
theorem Lc_rowLength_lp (hW : WF T σ) (hL : LK Λ σ) (hS : StRel σ β) : ∀ (n : Nat) (a : Nat), n < sN σ → kRow (sK σ n) = true → stale σ n = false → WP X (d + 1) 38 2 [some (.ref a), some (.ref (Λ.1 4 n))] [] (mm_C Λ σ β M) Q = Q (.inl (some (.int (nI (El σ n).length)))) (mm_C Λ σ β M) := by
  intro n
  induction n using Nat.strongRecOn with
  | _ n ih =>
    intro a hn hr hs
    have h12 := hW.k12 hn
    have hnode := c_node_at (M := M) (β := β) hL hn
    rw [w_38_2]
    cases hb : kBased (sK σ n) with
    | true =>
      have ho := hW.o hn (kB_one hb)
      have vb := vBase_b (Λ := Λ) hb
      by_cases h4 : sK σ n = 4
      · have v2 : vLen σ n = sP σ n := if_pos h4
        rw [(len_4 hW hn h4 hs).1]
        simp (disch := omega) only [w_38_0, w_38_1, w_38_3, w_38_6, w_38_7, w_38_10, w_38_10n, w_38_11, w_38_14, w_38_14n, w_38_17, w_38_17n, w_38_18, w_38_21, w_38_21n, w_38_22, w_38_25, w_38_25n, w_38_26, w_38_29, w_38_30, w_38_33, w_38_33n, w_38_34, w_38_37, w_38_40, w_38_40n, w_38_41, w_38_44, w_38_44n, w_38_45, w_38_48, w_38_51, mm_k_none, mm_k_int, mm_k_ref, mm_k_null, mm_K_inl, mm_tl_some, mm_tl_none, mm_fg_ok, mm_rc_ok, mm_fp_ok, mm_ai_ok, mm_si_ok, mm_az_ok, mm_sz_ok, z01, z11, zb, b2i_t, b2i_f, true_and, and_true, c_g0, c_g1, c_g2, c_g3, c_g4, c_g5, c_g6, c_g7, c_g8, c_g9, c_g10, c_g11, c_g12, c_gl, c_o0, c_o1, c_o2, c_o3, c_ol, c_s0, c_s1, c_s2, c_s3, c_sl, Nat.zero_le, Nat.not_lt_zero, if_true, if_false, m1_lt, m1_ge, mm_inT, pk_mul, nI_add, mm_in_nI, mm_cl_nI, nI_eq, nI_ltI, nI_leI, ↓reduceIte, Nat.add_zero, Nat.reduceLeDiff, oI_some, oI_none, m1_lt, nI_lt0, Rf_fail_eq, Rf_out_eq, eq_self, not_true_eq_false, not_false_eq_true, Nat.reduceEqDiff, Nat.reduceLT, ne_eq, or_true, true_or, or_false, false_or, decide_true, decide_false, Bool.true_eq_false, Bool.false_eq_true, b2i_ne, hnode, h4, v2]
      · have hE : (El σ n).length = (El σ (sO σ n)).length := by
          rcases kB_cases hb with z | z | z
          · exact len_3 hW hn z
          · exact absurd z h4
          · exact len_5 hW hn z
        rw [hE]
        refine Eq.trans ?_ (ih _ ho a (by omega) (hW.row hn hb) (stale_o hW hn hs (kB_one hb)))
        simp (disch := omega) only [w_38_0, w_38_1, w_38_3, w_38_6, w_38_7, w_38_10, w_38_10n, w_38_11, w_38_14, w_38_14n, w_38_17, w_38_17n, w_38_18, w_38_21, w_38_21n, w_38_22, w_38_25, w_38_25n, w_38_26, w_38_29, w_38_30, w_38_33, w_38_33n, w_38_34, w_38_37, w_38_40, w_38_40n, w_38_41, w_38_44, w_38_44n, w_38_45, w_38_48, w_38_51, mm_k_none, mm_k_int, mm_k_ref, mm_k_null, mm_K_inl, mm_tl_some, mm_tl_none, mm_fg_ok, mm_rc_ok, mm_fp_ok, mm_ai_ok, mm_si_ok, mm_az_ok, mm_sz_ok, z01, z11, zb, b2i_t, b2i_f, true_and, and_true, c_g0, c_g1, c_g2, c_g3, c_g4, c_g5, c_g6, c_g7, c_g8, c_g9, c_g10, c_g11, c_g12, c_gl, c_o0, c_o1, c_o2, c_o3, c_ol, c_s0, c_s1, c_s2, c_s3, c_sl, Nat.zero_le, Nat.not_lt_zero, if_true, if_false, m1_lt, m1_ge, mm_inT, pk_mul, nI_add, mm_in_nI, mm_cl_nI, nI_eq, nI_ltI, nI_leI, ↓reduceIte, Nat.add_zero, Nat.reduceLeDiff, oI_some, oI_none, m1_lt, nI_lt0, Rf_fail_eq, Rf_out_eq, eq_self, not_true_eq_false, not_false_eq_true, Nat.reduceEqDiff, Nat.reduceLT, ne_eq, or_true, true_or, or_false, false_or, decide_true, decide_false, Bool.true_eq_false, Bool.false_eq_true, b2i_ne, hnode, h4, vb]
    | false =>
      have h4 : ¬ sK σ n = 4 := fun z => by rw [z] at hb; cases hb
      have vb := vBase_0 (Λ := Λ) hb (row_two hr)
      obtain ⟨s, k, h1, h2, h3, h5, h6, h7, -⟩ := leaf_El (Λ := Λ) hW hn hr hb
      have h8 := c_len8_le (σ := σ) (n := s)
      have hct := fun Q => St_countOf_eq (X := X) (d := d) (M := M) (Q := Q) hL h1 h2 (hS s h1 h2).1 (cat_8 hW h1) (cat_len hW h1 h2) (show k < 8 by omega)
      rw [(cat_seg hW h1 h2 h6).1] at hct
      have hst := c_st_at (M := M) (β := β) hL h1 h2
      rw [h7]
      simp (disch := omega) only [w_38_0, w_38_1, w_38_3, w_38_6, w_38_7, w_38_10, w_38_10n, w_38_11, w_38_14, w_38_14n, w_38_17, w_38_17n, w_38_18, w_38_21, w_38_21n, w_38_22, w_38_25, w_38_25n, w_38_26, w_38_29, w_38_30, w_38_33, w_38_33n, w_38_34, w_38_37, w_38_40, w_38_40n, w_38_41, w_38_44, w_38_44n, w_38_45, w_38_48, w_38_51, mm_k_none, mm_k_int, mm_k_ref, mm_k_null, mm_K_inl, mm_tl_some, mm_tl_none, mm_fg_ok, mm_rc_ok, mm_fp_ok, mm_ai_ok, mm_si_ok, mm_az_ok, mm_sz_ok, z01, z11, zb, b2i_t, b2i_f, true_and, and_true, c_g0, c_g1, c_g2, c_g3, c_g4, c_g5, c_g6, c_g7, c_g8, c_g9, c_g10, c_g11, c_g12, c_gl, c_o0, c_o1, c_o2, c_o3, c_ol, c_s0, c_s1, c_s2, c_s3, c_sl, Nat.zero_le, Nat.not_lt_zero, if_true, if_false, m1_lt, m1_ge, mm_inT, pk_mul, nI_add, mm_in_nI, mm_cl_nI, nI_eq, nI_ltI, nI_leI, ↓reduceIte, Nat.add_zero, Nat.reduceLeDiff, oI_some, oI_none, m1_lt, nI_lt0, Rf_fail_eq, Rf_out_eq, eq_self, not_true_eq_false, not_false_eq_true, Nat.reduceEqDiff, Nat.reduceLT, ne_eq, or_true, true_or, or_false, false_or, decide_true, decide_false, Bool.true_eq_false, Bool.false_eq_true, b2i_ne, hnode, h4, vb, h3, h5, hst, hct]
theorem Lc_rowLength_eq (hW : WF T σ) (hL : LK Λ σ) (hS : StRel σ β) (hn : n < sN σ) (hr : kRow (sK σ n) = true) (hs : stale σ n = false) : WPC X (d + 1) 38 [.ref (Λ.1 4 n)] (mm_C Λ σ β M) Q = Q (.inl (some (.int (nI (El σ n).length)))) (mm_C Λ σ β M) := by
  simp only [e_38, w_38_0, w_38_1, w_38_3, w_38_6, w_38_7, w_38_10, w_38_10n, w_38_11, w_38_14, w_38_14n, w_38_17, w_38_17n, w_38_18, w_38_21, w_38_21n, w_38_22, w_38_25, w_38_25n, w_38_26, w_38_29, w_38_30, w_38_33, w_38_33n, w_38_34, w_38_37, w_38_40, w_38_40n, w_38_41, w_38_44, w_38_44n, w_38_45, w_38_48, w_38_51, mm_k_none, mm_k_int, mm_k_ref, mm_k_null, mm_K_inl, mm_tl_some, mm_tl_none, mm_fg_ok, mm_rc_ok, mm_fp_ok, mm_ai_ok, mm_si_ok, mm_az_ok, mm_sz_ok, z01, z11, zb, b2i_t, b2i_f, true_and, and_true]
  exact Lc_rowLength_lp hW hL hS n _ hn hr hs
/-- what the memory shows is what the nodes are -/
theorem mm_C_same {σ' : Sg} (h1 : sN σ' = sN σ) (h2 : sH σ' = sH σ) (h3 : sK σ' = sK σ) (h4 : sO σ' = sO σ) (h5 : sT σ' = sT σ) (h6 : sV σ' = sV σ) (h7 : sP σ' = sP σ) (h8 : sD σ' = sD σ) (h9 : sL σ' = sL σ) (h10 : sG σ' = sG σ) : mm_C Λ σ' β M = mm_C Λ σ β M := by
  have e : ∀ c n, c_cell Λ σ' β c n = c_cell Λ σ β c n := by
    intro c n
    unfold c_cell c_obj c_hand c_node c_len vStore vKey vBase vOther vRow vStart vLen vNoted vBy sB
    rw [h1, h2, h3, h4, h5, h6, h7, h8, h9, h10]
  unfold mm_C
  congr 2
  funext q
  cases Λ.2 q with
  | none => rfl
  | some t => simp only [e]
end CL15
