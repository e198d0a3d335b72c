/-! the law: mean -/
section LW6
variable {X : Nat × Nat × (Nat → Int32)} {d T x rm ao ad sa : Nat} {Λ : Lay} {σ : Sg} {β : CS} {ρ : RS} {B : mm_M}
theorem mean_3 {h : Int32} : (sp_mean σ h).1 ≤ 3 := by
  unfold sp_mean
  split
  · decide
  · split
    · decide
    · split
      · decide
      · exact Nat.zero_le _
theorem Lw_mean_h {h : Int32} (hW : WF T σ) (hD : lw_D Λ rm ao ad sa B) (hB : lw_B rm ao ad sa B) (hL : LK Λ σ) (hS : StRel σ β) : ∃ β' B', StRel σ β' ∧ lw_D Λ rm ao ad sa B' ∧ lw_B rm ao ad sa B' ∧ lw_N B B' ∧ ((sp_mean σ h).1 = 0 → ∃ fd, B'.2.2 ad = some (.inl (4, 1, .inr (.inr (.inr (.inl fd))))) ∧ fd 0 = (sp_mean σ h).2) ∧ ∀ Q, WPC X (d + 17) 129 [.ref (Λ.1 0 0), .int h, .ref ad] (gM Λ σ β rm ρ B) Q = Q (.inl (some (.int (nI (sp_mean σ h).1)))) (gM Λ σ β' rm ρ B') := by
  obtain ⟨b1, b2, b3, b4, b5, ⟨fo, b6⟩, ⟨fd, b7⟩⟩ := hB
  obtain ⟨p1, p2⟩ := opC_mean (X := X) (d := d) (M := mm_R rm ρ B) hW hL hS (h := h)
  have h3 := mean_3 (σ := σ) (h := h)
  generalize sp_mean σ h = o at p1 p2 h3 ⊢
  have hno : Λ.2 ad = none := lw_no hD (Or.inr (Or.inl rfl))
  by_cases h0 : o.1 = 0
  · obtain ⟨β', s1, q⟩ := p1 h0
    refine ⟨β', mm_set B ad (.inl (4, 1, .inr (.inr (.inr (.inl (vf_upd fd 0 o.2)))))), s1, hD, ⟨b1, b2, b3, b4, ?_, ⟨fo, ?_⟩, ⟨_, mm_set_at⟩⟩, ⟨Nat.le_refl _, Nat.le_add_right _ _, Nat.le_refl _, Nat.le_add_right _ _⟩, fun _ => ⟨_, mm_set_at, if_pos rfl⟩, fun Q => ?_⟩
    · rw [mm_set_ne (by omega)]
      exact b5
    · rw [mm_set_ne (by omega)]
      exact b6
    · have q' : ∀ Q, WPC X (d + 16) 60 [.ref (Λ.1 0 0), .int h] (gM Λ σ β rm ρ B) Q = Q (.inl (some (.double o.2))) (gM Λ σ β' rm ρ B) := q
      have a1 : (gM Λ σ β' rm ρ B).2.2 ad = some (.inl (4, 1, .inr (.inr (.inr (.inl fd))))) := (gM_at hno (Or.inr (by omega))).trans b7
      have a2 : ∀ o, mm_set (gM Λ σ β' rm ρ B) ad o = gM Λ σ β' rm ρ (mm_set B ad o) := fun o => gM_set hno (Or.inr (by omega))
      rw [h0]
      simp (disch := omega) only [e_129, w_129_0, w_129_1, w_129_2, w_129_3, w_129_4, w_129_7, w_129_8, w_129_20, w_129_21, mm_k_none, mm_k_int, mm_k_ref, mm_k_null, mm_K_inl, mm_tl_some, mm_tl_none, mm_fg_ok, mm_rc_ok, mm_fp_ok, mm_ai_ok, mm_si_ok, mm_az_ok, mm_sz_ok, z01, z11, zb, b2i_t, b2i_f, true_and, and_true, Nat.zero_le, Nat.not_lt_zero, if_true, if_false, m1_lt, m1_ge, mm_inT, pk_mul, nI_add, mm_in_nI, mm_cl_nI, nI_eq, nI_ltI, nI_leI, ↓reduceIte, Nat.add_zero, Nat.reduceLeDiff, oI_some, oI_none, m1_lt, nI_lt0, Rf_fail_eq, Rf_out_eq, eq_self, not_true_eq_false, not_false_eq_true, Nat.reduceEqDiff, Nat.reduceLT, ne_eq, or_true, true_or, or_false, false_or, decide_true, decide_false, Bool.true_eq_false, Bool.false_eq_true, b2i_ne, gM_ob hL, q', mm_sd_ok, a1, a2]
  · obtain ⟨β', s1, q⟩ := p2 h0
    refine ⟨β', mm_skip B 6, s1, fun q t h => ?_, ⟨b1, b2, ?_, b4, b5, ⟨fo, b6⟩, ⟨fd, b7⟩⟩, ⟨?_, ?_, ?_, ?_⟩, fun z => absurd z h0, fun Q => ?_⟩
    · obtain ⟨y1, y2⟩ := hD q t h
      exact ⟨Nat.lt_succ_of_lt y1, y2⟩
    · show ad < B.1 + 1
      omega
    · show B.1 ≤ B.1 + 1
      omega
    · show B.1 + 1 ≤ B.1 + 10
      omega
    · show B.2.1 ≤ B.2.1 + 6
      omega
    · show B.2.1 + 6 ≤ B.2.1 + 400
      omega
    · have q' : ∀ Q, WPC X (d + 16) 60 [.ref (Λ.1 0 0), .int h] (gM Λ σ β rm ρ B) Q = Q (.inr (exF o.1)) (gM Λ σ β' rm ρ (mm_skip B 6)) := q
      simp (disch := omega) only [e_129, w_129_0, w_129_1, w_129_2, w_129_3, w_129_4, mm_k_none, mm_k_int, mm_k_ref, mm_k_null, mm_K_inl, mm_tl_some, mm_tl_none, mm_fg_ok, mm_rc_ok, mm_fp_ok, mm_ai_ok, mm_si_ok, mm_az_ok, mm_sz_ok, z01, z11, zb, b2i_t, b2i_f, true_and, and_true, Nat.zero_le, Nat.not_lt_zero, if_true, if_false, m1_lt, m1_ge, mm_inT, pk_mul, nI_add, mm_in_nI, mm_cl_nI, nI_eq, nI_ltI, nI_leI, ↓reduceIte, Nat.add_zero, Nat.reduceLeDiff, oI_some, oI_none, m1_lt, nI_lt0, Rf_fail_eq, Rf_out_eq, eq_self, not_true_eq_false, not_false_eq_true, Nat.reduceEqDiff, Nat.reduceLT, ne_eq, or_true, true_or, or_false, false_or, decide_true, decide_false, Bool.true_eq_false, Bool.false_eq_true, b2i_ne, gM_ob hL, q', mm_K_inr]
      have hc : o.1 = 1 ∨ o.1 = 2 ∨ o.1 = 3 := by omega
      have k3 : mm_kd 129 = 3 := by decide +kernel
      have k2 : mm_kd 60 ≠ 2 := by decide +kernel
      unfold mm_G
      rw [if_neg k2, if_pos k3]
      rcases hc with z | z | z
      · rw [z, show mm_hnd 129 4 (exF 1) = some 1 by decide +kernel]
        rfl
      · rw [z, show mm_hnd 129 4 (exF 2) = some 2 by decide +kernel]
        rfl
      · rw [z, show mm_hnd 129 4 (exF 3) = some 3 by decide +kernel]
        rfl
theorem dc_self (v : UInt64) : FP.dcmp v v = some .eq ∨ FP.dcmp v v = none := by
  by_cases h : FP.Core.val64 v = .nan
  · exact Or.inr ((FP.Core.dcmp_none v v).2 (Or.inl h))
  · exact Or.inl (FP.Core.dcmp_self h)
theorem lw_c_mean (hT : T + 24 < 1000000) (hI : lw_I T x rm ao ad X.1 Λ σ β ρ B) {i : Nat} (hi : i + 4 < X.2.1) (hX : X.2.1 ≤ 2560) {l6 l7 l8 : Option Value} : lw_go X d T x rm ao ad i 1320 l6 l7 l8 Λ σ β ρ B := by
  obtain ⟨hW, hL, hS, hR, hD, hB, rfl⟩ := hI
  obtain ⟨β', B', S', D', B1, hN, hfo, qL⟩ := Lw_mean_h (X := X) (d := d) (ρ := ρ) (h := X.2.2 (i + 1)) hW hD hB hL hS
  obtain ⟨ρ', R', f', qR0⟩ := opR_mean (X := X) (d := d + 11) (rm := rm) (M := mm_C Λ σ β' B') (h := X.2.2 (i + 1)) hW hR
  have qR : ∀ Q, WPC X (d + 17) 110 [.ref rm, .int (X.2.2 (i + 1))] (gM Λ σ β' rm ρ B') Q = Q (.inl (some (.double (sp_mean σ (X.2.2 (i + 1))).2))) (gM Λ σ β' rm ρ' B') := by
    intro Q
    rw [gM_swap D', gM_swap D']
    exact qR0 Q
  clear qR0
  have h3 := mean_3 (σ := σ) (h := X.2.2 (i + 1))
  generalize sp_mean σ (X.2.2 (i + 1)) = o at hfo qL f' qR h3 ⊢
  have s0 : (gM Λ σ β rm ρ B).2.2 X.1 = none := gM_sa hD hB
  have s1 : (gM Λ σ β' rm ρ B').2.2 X.1 = none := gM_sa D' B1
  have r1 : (gM Λ σ β' rm ρ B').2.2 rm = some (.inr (3, r_obj rm ρ)) := gM_rm (lw_no D' (Or.inr (Or.inr (Or.inr ⟨by omega, by omega⟩))))
  have r2 : (gM Λ σ β' rm ρ' B').2.2 rm = some (.inr (3, r_obj rm ρ')) := gM_rm (lw_no D' (Or.inr (Or.inr (Or.inr ⟨by omega, by omega⟩))))
  have qT := fun Q => gT (X := X) (d := d + 17) (σ := σ) (β := β') (ρ := ρ') (Q := Q) D'
  rw [f'] at qT
  refine ⟨Λ, σ, β', ρ', B', some (.int (nI o.1)), some (.double o.2), none, ⟨WF_mono hW (by omega) hT, hL, S', R', D', B1, rfl⟩, hN, fun Q => ?_⟩
  by_cases h0 : o.1 = 0
  · obtain ⟨fd, e1, e2⟩ := hfo h0
    have a1 : (gM Λ σ β' rm ρ' B').2.2 ad = some (.inl (4, 1, .inr (.inr (.inr (.inl fd))))) := (gM_at (lw_no D' (Or.inr (Or.inl rfl))) (Or.inr (by have := B1.1; have := B1.2.1; omega))).trans e1
    rcases dc_self o.2 with z | z
    · have c1 : Op.cmpValue (some .eq) .l = nI 0 := rfl
      simp (disch := omega) only [w_133_1320, w_133_1321, w_133_1322, w_133_1324, w_133_1325, w_133_1326, w_133_1327, w_133_1329, w_133_1332, w_133_1334, w_133_1335, w_133_1336, w_133_1338, w_133_1339, w_133_1340, w_133_1341, w_133_1344, w_133_1346, w_133_1347, w_133_1350, w_133_1352, w_133_1355, w_133_1356, w_133_1357, w_133_1359, w_133_1362, w_133_1364, w_133_1365, w_133_1366, w_133_1368, w_133_1369, w_133_1372, w_133_1374, w_133_1375, w_133_1376, w_133_1378, w_133_1379, w_133_1380, w_133_1381, w_133_1384, w_133_1386, w_133_1388, w_133_1389, w_133_1392, w_133_1393, w_133_1394, mm_k_none, mm_k_int, mm_k_ref, mm_k_null, mm_K_inl, mm_tl_some, mm_tl_none, mm_fg_ok, mm_rc_ok, mm_fp_ok, mm_ai_ok, mm_si_ok, mm_az_ok, mm_sz_ok, z01, z11, zb, b2i_t, b2i_f, true_and, and_true, Nat.zero_le, Nat.not_lt_zero, if_true, if_false, m1_lt, m1_ge, mm_inT, pk_mul, nI_add, mm_in_nI, mm_cl_nI, nI_eq, nI_ltI, nI_leI, ↓reduceIte, Nat.add_zero, Nat.reduceLeDiff, oI_some, oI_none, m1_lt, nI_lt0, Rf_fail_eq, Rf_out_eq, eq_self, not_true_eq_false, not_false_eq_true, Nat.reduceEqDiff, Nat.reduceLT, ne_eq, or_true, true_or, or_false, false_or, decide_true, decide_false, Bool.true_eq_false, Bool.false_eq_true, b2i_ne, mm_ai_s, s0, s1, r1, r2, qL, qR, qT, a1, mm_ad_ok, e2, z, c1, h0]
    · have c1 : Op.cmpValue none .l = -1 := rfl
      have c2 : ¬ (-1 : Int32) = nI 0 := by decide
      simp (disch := omega) only [w_133_1320, w_133_1321, w_133_1322, w_133_1324, w_133_1325, w_133_1326, w_133_1327, w_133_1329, w_133_1332, w_133_1334, w_133_1335, w_133_1336, w_133_1338, w_133_1339, w_133_1340, w_133_1341, w_133_1344, w_133_1346, w_133_1347, w_133_1350, w_133_1352, w_133_1355, w_133_1356, w_133_1357, w_133_1359, w_133_1362, w_133_1364, w_133_1365, w_133_1366, w_133_1368, w_133_1369, w_133_1372, w_133_1374, w_133_1375, w_133_1376, w_133_1378, w_133_1379, w_133_1380, w_133_1381, w_133_1384, w_133_1386, w_133_1388, w_133_1389, w_133_1392, w_133_1393, w_133_1394, mm_k_none, mm_k_int, mm_k_ref, mm_k_null, mm_K_inl, mm_tl_some, mm_tl_none, mm_fg_ok, mm_rc_ok, mm_fp_ok, mm_ai_ok, mm_si_ok, mm_az_ok, mm_sz_ok, z01, z11, zb, b2i_t, b2i_f, true_and, and_true, Nat.zero_le, Nat.not_lt_zero, if_true, if_false, m1_lt, m1_ge, mm_inT, pk_mul, nI_add, mm_in_nI, mm_cl_nI, nI_eq, nI_ltI, nI_leI, ↓reduceIte, Nat.add_zero, Nat.reduceLeDiff, oI_some, oI_none, m1_lt, nI_lt0, Rf_fail_eq, Rf_out_eq, eq_self, not_true_eq_false, not_false_eq_true, Nat.reduceEqDiff, Nat.reduceLT, ne_eq, or_true, true_or, or_false, false_or, decide_true, decide_false, Bool.true_eq_false, Bool.false_eq_true, b2i_ne, mm_ai_s, s0, s1, r1, r2, qL, qR, qT, a1, mm_ad_ok, e2, z, c1, c2, h0]
  · simp (disch := omega) only [w_133_1320, w_133_1321, w_133_1322, w_133_1324, w_133_1325, w_133_1326, w_133_1327, w_133_1329, w_133_1332, w_133_1334, w_133_1335, w_133_1336, w_133_1338, w_133_1339, w_133_1340, w_133_1341, w_133_1344, w_133_1346, w_133_1347, w_133_1350, w_133_1352, w_133_1355, w_133_1356, w_133_1357, w_133_1359, w_133_1362, w_133_1364, w_133_1365, w_133_1366, w_133_1368, w_133_1369, w_133_1372, w_133_1374, w_133_1375, w_133_1376, w_133_1378, w_133_1379, w_133_1380, w_133_1381, w_133_1384, w_133_1386, w_133_1388, w_133_1389, w_133_1392, w_133_1393, w_133_1394, mm_k_none, mm_k_int, mm_k_ref, mm_k_null, mm_K_inl, mm_tl_some, mm_tl_none, mm_fg_ok, mm_rc_ok, mm_fp_ok, mm_ai_ok, mm_si_ok, mm_az_ok, mm_sz_ok, z01, z11, zb, b2i_t, b2i_f, true_and, and_true, Nat.zero_le, Nat.not_lt_zero, if_true, if_false, m1_lt, m1_ge, mm_inT, pk_mul, nI_add, mm_in_nI, mm_cl_nI, nI_eq, nI_ltI, nI_leI, ↓reduceIte, Nat.add_zero, Nat.reduceLeDiff, oI_some, oI_none, m1_lt, nI_lt0, Rf_fail_eq, Rf_out_eq, eq_self, not_true_eq_false, not_false_eq_true, Nat.reduceEqDiff, Nat.reduceLT, ne_eq, or_true, true_or, or_false, false_or, decide_true, decide_false, Bool.true_eq_false, Bool.false_eq_true, b2i_ne, mm_ai_s, s0, s1, r1, r2, qL, qR, qT, h0]
end LW6
