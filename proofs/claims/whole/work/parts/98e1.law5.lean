/-! the law: its cases (printed by wip/whole/gen/p99.py) -/
section LW51
variable {X : Nat × Nat × (Nat → Int32)} {d T x rm ao ad sa : Nat} {Λ : Lay} {σ : Sg} {β : CS} {ρ : RS} {B : mm_M}
theorem lw_c_hold (hT : T + 24 < 1000000) (hI : lw_I T x rm ao ad X.1 Λ σ β ρ B) {i : Nat} (hi : i + 4 < X.2.1) (hX : X.2.1 ≤ 2560) {l6 l7 l8 : Option Value} : lw_go X d T x rm ao ad i 696 l6 l7 l8 Λ σ β ρ B := by
  obtain ⟨hW, hL, hS, hR, hD, hB, rfl⟩ := hI
  have hlt : ∀ q t, Λ.2 q = some t → q < (mm_R rm ρ B).1 := fun q t h => (hD q t h).1
  have hop : opC X (d + 16) Λ σ β (mm_R rm ρ B) 43 [.int (X.2.2 (i + 1)), .int (X.2.2 (i + 2))] (sp_hold σ (X.2.2 (i + 1)) (X.2.2 (i + 2))) exA := opC_hold hW hL hS
  have hok : okO σ 1 (sp_hold σ (X.2.2 (i + 1)) (X.2.2 (i + 2))) := ok_hold
  have hWF : WF (T + 24) (sp_hold σ (X.2.2 (i + 1)) (X.2.2 (i + 2))).2.2 := WF_mono (WF_hold hW) (by omega) hT
  obtain ⟨Λ', β', B', L', S', hx', D', B1, hN, hfo, qL⟩ := Lw_hold_h hD hB hL hop hok
  have hr : opR X (d + 17) rm ρ (mm_C Λ' (sp_hold σ (X.2.2 (i + 1)) (X.2.2 (i + 2))).2.2 β' B') 92 [.int (X.2.2 (i + 1)), .int (X.2.2 (i + 2))] (sp_hold σ (X.2.2 (i + 1)) (X.2.2 (i + 2))) := opR_hold (d := d + 11) hW hR
  obtain ⟨ρ', R', f', qR⟩ := gR D' hr
  clear hop hr
  generalize sp_hold σ (X.2.2 (i + 1)) (X.2.2 (i + 2)) = o at hok hWF L' S' hfo qL R' f' qR ⊢
  have s0 : (gM Λ σ β rm ρ B).2.2 X.1 = none := gM_sa hD hB
  have s1 : (gM Λ' o.2.2 β' rm ρ B').2.2 X.1 = none := gM_sa D' B1
  have r1 : (gM Λ' o.2.2 β' rm ρ B').2.2 rm = some (.inr (3, r_obj rm ρ)) := gM_rm (lw_no D' (Or.inr (Or.inr (Or.inr ⟨by omega, by omega⟩))))
  have r2 : (gM Λ' o.2.2 β' rm ρ' B').2.2 rm = some (.inr (3, r_obj rm ρ')) := gM_rm (lw_no D' (Or.inr (Or.inr (Or.inr ⟨by omega, by omega⟩))))
  have qT := fun Q => gT (X := X) (d := d + 17) (σ := o.2.2) (β := β') (ρ := ρ') (Q := Q) D'
  have ho4 : o.1 ≤ 4 := Nat.le_trans hok.1 (by decide)
  rw [f'] at qT
  refine ⟨Λ', o.2.2, β', ρ', B', some (.int (nI o.1)), some (.int o.2.1), l8, ⟨hWF, L', S', R', D', B1, hx'⟩, hN, fun Q => ?_⟩
  by_cases h0 : o.1 = 0
  · obtain ⟨fo, e1, e2⟩ := hfo h0
    have a1 : (gM Λ' o.2.2 β' rm ρ' B').2.2 ao = some (.inl (3, 1, .inr (.inl fo))) := (gM_at (lw_no D' (Or.inl rfl)) (Or.inr B1.1)).trans e1
    simp (disch := omega) only [w_133_696, w_133_697, w_133_698, w_133_700, w_133_701, w_133_702, w_133_703, w_133_704, w_133_706, w_133_707, w_133_708, w_133_709, w_133_710, w_133_713, w_133_715, w_133_716, w_133_717, w_133_719, w_133_720, w_133_721, w_133_722, w_133_723, w_133_725, w_133_726, w_133_727, w_133_728, w_133_731, w_133_733, w_133_734, w_133_737, w_133_739, w_133_742, w_133_743, w_133_744, w_133_746, w_133_749, w_133_750, w_133_751, w_133_752, w_133_754, w_133_755, w_133_756, w_133_759, w_133_760, w_133_761, mm_k_none, mm_k_int, mm_k_ref, mm_k_null, mm_K_inl, mm_tl_some, mm_tl_none, mm_fg_ok, mm_rc_ok, mm_fp_ok, mm_ai_ok, mm_si_ok, mm_az_ok, mm_sz_ok, z01, z11, zb, b2i_t, b2i_f, true_and, and_true, Nat.zero_le, Nat.not_lt_zero, if_true, if_false, m1_lt, m1_ge, mm_inT, pk_mul, nI_add, mm_in_nI, mm_cl_nI, nI_eq, nI_ltI, nI_leI, ↓reduceIte, Nat.add_zero, Nat.reduceLeDiff, oI_some, oI_none, m1_lt, nI_lt0, Rf_fail_eq, Rf_out_eq, eq_self, not_true_eq_false, not_false_eq_true, Nat.reduceEqDiff, Nat.reduceLT, ne_eq, or_true, true_or, or_false, false_or, decide_true, decide_false, Bool.true_eq_false, Bool.false_eq_true, b2i_ne, mm_ai_s, s0, s1, r1, r2, qL, qR, qT, a1, mm_al_ok, e2, lg_self, h0]
  · simp (disch := omega) only [w_133_696, w_133_697, w_133_698, w_133_700, w_133_701, w_133_702, w_133_703, w_133_704, w_133_706, w_133_707, w_133_708, w_133_709, w_133_710, w_133_713, w_133_715, w_133_716, w_133_717, w_133_719, w_133_720, w_133_721, w_133_722, w_133_723, w_133_725, w_133_726, w_133_727, w_133_728, w_133_731, w_133_733, w_133_734, w_133_737, w_133_739, w_133_742, w_133_743, w_133_744, w_133_746, w_133_749, w_133_750, w_133_751, w_133_752, w_133_754, w_133_755, w_133_756, w_133_759, w_133_760, w_133_761, mm_k_none, mm_k_int, mm_k_ref, mm_k_null, mm_K_inl, mm_tl_some, mm_tl_none, mm_fg_ok, mm_rc_ok, mm_fp_ok, mm_ai_ok, mm_si_ok, mm_az_ok, mm_sz_ok, z01, z11, zb, b2i_t, b2i_f, true_and, and_true, Nat.zero_le, Nat.not_lt_zero, if_true, if_false, m1_lt, m1_ge, mm_inT, pk_mul, nI_add, mm_in_nI, mm_cl_nI, nI_eq, nI_ltI, nI_leI, ↓reduceIte, Nat.add_zero, Nat.reduceLeDiff, oI_some, oI_none, m1_lt, nI_lt0, Rf_fail_eq, Rf_out_eq, eq_self, not_true_eq_false, not_false_eq_true, Nat.reduceEqDiff, Nat.reduceLT, ne_eq, or_true, true_or, or_false, false_or, decide_true, decide_false, Bool.true_eq_false, Bool.false_eq_true, b2i_ne, mm_ai_s, s0, s1, r1, r2, qL, qR, qT, h0]
theorem lw_c_size (hT : T + 24 < 1000000) (hI : lw_I T x rm ao ad X.1 Λ σ β ρ B) {i : Nat} (hi : i + 4 < X.2.1) (hX : X.2.1 ≤ 2560) {l6 l7 l8 : Option Value} : lw_go X d T x rm ao ad i 764 l6 l7 l8 Λ σ β ρ B := by
  obtain ⟨hW, hL, hS, hR, hD, hB, rfl⟩ := hI
  have hlt : ∀ q t, Λ.2 q = some t → q < (mm_R rm ρ B).1 := fun q t h => (hD q t h).1
  have hop : opC X (d + 16) Λ σ β (mm_R rm ρ B) 44 [.int (X.2.2 (i + 1))] (sp_size σ (X.2.2 (i + 1))) exA := opC_size hW hL hS
  have hok : okO σ 2 (sp_size σ (X.2.2 (i + 1))) := ok_size
  have hWF : WF (T + 24) (sp_size σ (X.2.2 (i + 1))).2.2 := by rw [st_size]; exact WF_mono hW (by omega) hT
  obtain ⟨Λ', β', B', L', S', hx', D', B1, hN, hfo, qL⟩ := Lw_size_h hD hB hL hop hok
  have hr : opR X (d + 17) rm ρ (mm_C Λ' (sp_size σ (X.2.2 (i + 1))).2.2 β' B') 93 [.int (X.2.2 (i + 1))] (sp_size σ (X.2.2 (i + 1))) := opR_size (d := d + 11) hW hR
  obtain ⟨ρ', R', f', qR⟩ := gR D' hr
  clear hop hr
  generalize sp_size σ (X.2.2 (i + 1)) = o at hok hWF L' S' hfo qL R' f' qR ⊢
  have s0 : (gM Λ σ β rm ρ B).2.2 X.1 = none := gM_sa hD hB
  have s1 : (gM Λ' o.2.2 β' rm ρ B').2.2 X.1 = none := gM_sa D' B1
  have r1 : (gM Λ' o.2.2 β' rm ρ B').2.2 rm = some (.inr (3, r_obj rm ρ)) := gM_rm (lw_no D' (Or.inr (Or.inr (Or.inr ⟨by omega, by omega⟩))))
  have r2 : (gM Λ' o.2.2 β' rm ρ' B').2.2 rm = some (.inr (3, r_obj rm ρ')) := gM_rm (lw_no D' (Or.inr (Or.inr (Or.inr ⟨by omega, by omega⟩))))
  have qT := fun Q => gT (X := X) (d := d + 17) (σ := o.2.2) (β := β') (ρ := ρ') (Q := Q) D'
  have ho4 : o.1 ≤ 4 := Nat.le_trans hok.1 (by decide)
  rw [f'] at qT
  refine ⟨Λ', o.2.2, β', ρ', B', some (.int (nI o.1)), some (.int o.2.1), l8, ⟨hWF, L', S', R', D', B1, hx'⟩, hN, fun Q => ?_⟩
  by_cases h0 : o.1 = 0
  · obtain ⟨fo, e1, e2⟩ := hfo h0
    have a1 : (gM Λ' o.2.2 β' rm ρ' B').2.2 ao = some (.inl (3, 1, .inr (.inl fo))) := (gM_at (lw_no D' (Or.inl rfl)) (Or.inr B1.1)).trans e1
    simp (disch := omega) only [w_133_764, w_133_765, w_133_766, w_133_768, w_133_769, w_133_770, w_133_771, w_133_772, w_133_775, w_133_777, w_133_778, w_133_779, w_133_781, w_133_782, w_133_783, w_133_784, w_133_787, w_133_789, w_133_790, w_133_793, w_133_795, w_133_798, w_133_799, w_133_800, w_133_802, w_133_805, w_133_806, w_133_807, w_133_808, w_133_810, w_133_811, w_133_812, w_133_815, w_133_816, w_133_817, mm_k_none, mm_k_int, mm_k_ref, mm_k_null, mm_K_inl, mm_tl_some, mm_tl_none, mm_fg_ok, mm_rc_ok, mm_fp_ok, mm_ai_ok, mm_si_ok, mm_az_ok, mm_sz_ok, z01, z11, zb, b2i_t, b2i_f, true_and, and_true, Nat.zero_le, Nat.not_lt_zero, if_true, if_false, m1_lt, m1_ge, mm_inT, pk_mul, nI_add, mm_in_nI, mm_cl_nI, nI_eq, nI_ltI, nI_leI, ↓reduceIte, Nat.add_zero, Nat.reduceLeDiff, oI_some, oI_none, m1_lt, nI_lt0, Rf_fail_eq, Rf_out_eq, eq_self, not_true_eq_false, not_false_eq_true, Nat.reduceEqDiff, Nat.reduceLT, ne_eq, or_true, true_or, or_false, false_or, decide_true, decide_false, Bool.true_eq_false, Bool.false_eq_true, b2i_ne, mm_ai_s, s0, s1, r1, r2, qL, qR, qT, a1, mm_al_ok, e2, lg_self, h0]
  · simp (disch := omega) only [w_133_764, w_133_765, w_133_766, w_133_768, w_133_769, w_133_770, w_133_771, w_133_772, w_133_775, w_133_777, w_133_778, w_133_779, w_133_781, w_133_782, w_133_783, w_133_784, w_133_787, w_133_789, w_133_790, w_133_793, w_133_795, w_133_798, w_133_799, w_133_800, w_133_802, w_133_805, w_133_806, w_133_807, w_133_808, w_133_810, w_133_811, w_133_812, w_133_815, w_133_816, w_133_817, mm_k_none, mm_k_int, mm_k_ref, mm_k_null, mm_K_inl, mm_tl_some, mm_tl_none, mm_fg_ok, mm_rc_ok, mm_fp_ok, mm_ai_ok, mm_si_ok, mm_az_ok, mm_sz_ok, z01, z11, zb, b2i_t, b2i_f, true_and, and_true, Nat.zero_le, Nat.not_lt_zero, if_true, if_false, m1_lt, m1_ge, mm_inT, pk_mul, nI_add, mm_in_nI, mm_cl_nI, nI_eq, nI_ltI, nI_leI, ↓reduceIte, Nat.add_zero, Nat.reduceLeDiff, oI_some, oI_none, m1_lt, nI_lt0, Rf_fail_eq, Rf_out_eq, eq_self, not_true_eq_false, not_false_eq_true, Nat.reduceEqDiff, Nat.reduceLT, ne_eq, or_true, true_or, or_false, false_or, decide_true, decide_false, Bool.true_eq_false, Bool.false_eq_true, b2i_ne, mm_ai_s, s0, s1, r1, r2, qL, qR, qT, h0]
theorem lw_c_at (hT : T + 24 < 1000000) (hI : lw_I T x rm ao ad X.1 Λ σ β ρ B) {i : Nat} (hi : i + 4 < X.2.1) (hX : X.2.1 ≤ 2560) {l6 l7 l8 : Option Value} : lw_go X d T x rm ao ad i 820 l6 l7 l8 Λ σ β ρ B := by
  obtain ⟨hW, hL, hS, hR, hD, hB, rfl⟩ := hI
  have hlt : ∀ q t, Λ.2 q = some t → q < (mm_R rm ρ B).1 := fun q t h => (hD q t h).1
  have hop : opC X (d + 16) Λ σ β (mm_R rm ρ B) 45 [.int (X.2.2 (i + 1)), .int (X.2.2 (i + 2))] (sp_at σ (X.2.2 (i + 1)) (X.2.2 (i + 2))) exA := opC_at hW hL hS
  have hok : okO σ 3 (sp_at σ (X.2.2 (i + 1)) (X.2.2 (i + 2))) := ok_at
  have hWF : WF (T + 24) (sp_at σ (X.2.2 (i + 1)) (X.2.2 (i + 2))).2.2 := by rw [st_at]; exact WF_mono hW (by omega) hT
  obtain ⟨Λ', β', B', L', S', hx', D', B1, hN, hfo, qL⟩ := Lw_at_h hD hB hL hop hok
  have hr : opR X (d + 17) rm ρ (mm_C Λ' (sp_at σ (X.2.2 (i + 1)) (X.2.2 (i + 2))).2.2 β' B') 94 [.int (X.2.2 (i + 1)), .int (X.2.2 (i + 2))] (sp_at σ (X.2.2 (i + 1)) (X.2.2 (i + 2))) := opR_at (d := d + 11) hW hR
  obtain ⟨ρ', R', f', qR⟩ := gR D' hr
  clear hop hr
  generalize sp_at σ (X.2.2 (i + 1)) (X.2.2 (i + 2)) = o at hok hWF L' S' hfo qL R' f' qR ⊢
  have s0 : (gM Λ σ β rm ρ B).2.2 X.1 = none := gM_sa hD hB
  have s1 : (gM Λ' o.2.2 β' rm ρ B').2.2 X.1 = none := gM_sa D' B1
  have r1 : (gM Λ' o.2.2 β' rm ρ B').2.2 rm = some (.inr (3, r_obj rm ρ)) := gM_rm (lw_no D' (Or.inr (Or.inr (Or.inr ⟨by omega, by omega⟩))))
  have r2 : (gM Λ' o.2.2 β' rm ρ' B').2.2 rm = some (.inr (3, r_obj rm ρ')) := gM_rm (lw_no D' (Or.inr (Or.inr (Or.inr ⟨by omega, by omega⟩))))
  have qT := fun Q => gT (X := X) (d := d + 17) (σ := o.2.2) (β := β') (ρ := ρ') (Q := Q) D'
  have ho4 : o.1 ≤ 4 := Nat.le_trans hok.1 (by decide)
  rw [f'] at qT
  refine ⟨Λ', o.2.2, β', ρ', B', some (.int (nI o.1)), some (.int o.2.1), l8, ⟨hWF, L', S', R', D', B1, hx'⟩, hN, fun Q => ?_⟩
  by_cases h0 : o.1 = 0
  · obtain ⟨fo, e1, e2⟩ := hfo h0
    have a1 : (gM Λ' o.2.2 β' rm ρ' B').2.2 ao = some (.inl (3, 1, .inr (.inl fo))) := (gM_at (lw_no D' (Or.inl rfl)) (Or.inr B1.1)).trans e1
    simp (disch := omega) only [w_133_820, w_133_821, w_133_822, w_133_824, w_133_825, w_133_826, w_133_827, w_133_828, w_133_830, w_133_831, w_133_832, w_133_833, w_133_834, w_133_837, w_133_839, w_133_840, w_133_841, w_133_843, w_133_844, w_133_845, w_133_846, w_133_847, w_133_849, w_133_850, w_133_851, w_133_852, w_133_855, w_133_857, w_133_858, w_133_861, w_133_863, w_133_866, w_133_867, w_133_868, w_133_870, w_133_873, w_133_874, w_133_875, w_133_876, w_133_878, w_133_879, w_133_880, w_133_883, w_133_884, w_133_885, mm_k_none, mm_k_int, mm_k_ref, mm_k_null, mm_K_inl, mm_tl_some, mm_tl_none, mm_fg_ok, mm_rc_ok, mm_fp_ok, mm_ai_ok, mm_si_ok, mm_az_ok, mm_sz_ok, z01, z11, zb, b2i_t, b2i_f, true_and, and_true, Nat.zero_le, Nat.not_lt_zero, if_true, if_false, m1_lt, m1_ge, mm_inT, pk_mul, nI_add, mm_in_nI, mm_cl_nI, nI_eq, nI_ltI, nI_leI, ↓reduceIte, Nat.add_zero, Nat.reduceLeDiff, oI_some, oI_none, m1_lt, nI_lt0, Rf_fail_eq, Rf_out_eq, eq_self, not_true_eq_false, not_false_eq_true, Nat.reduceEqDiff, Nat.reduceLT, ne_eq, or_true, true_or, or_false, false_or, decide_true, decide_false, Bool.true_eq_false, Bool.false_eq_true, b2i_ne, mm_ai_s, s0, s1, r1, r2, qL, qR, qT, a1, mm_al_ok, e2, lg_self, h0]
  · simp (disch := omega) only [w_133_820, w_133_821, w_133_822, w_133_824, w_133_825, w_133_826, w_133_827, w_133_828, w_133_830, w_133_831, w_133_832, w_133_833, w_133_834, w_133_837, w_133_839, w_133_840, w_133_841, w_133_843, w_133_844, w_133_845, w_133_846, w_133_847, w_133_849, w_133_850, w_133_851, w_133_852, w_133_855, w_133_857, w_133_858, w_133_861, w_133_863, w_133_866, w_133_867, w_133_868, w_133_870, w_133_873, w_133_874, w_133_875, w_133_876, w_133_878, w_133_879, w_133_880, w_133_883, w_133_884, w_133_885, mm_k_none, mm_k_int, mm_k_ref, mm_k_null, mm_K_inl, mm_tl_some, mm_tl_none, mm_fg_ok, mm_rc_ok, mm_fp_ok, mm_ai_ok, mm_si_ok, mm_az_ok, mm_sz_ok, z01, z11, zb, b2i_t, b2i_f, true_and, and_true, Nat.zero_le, Nat.not_lt_zero, if_true, if_false, m1_lt, m1_ge, mm_inT, pk_mul, nI_add, mm_in_nI, mm_cl_nI, nI_eq, nI_ltI, nI_leI, ↓reduceIte, Nat.add_zero, Nat.reduceLeDiff, oI_some, oI_none, m1_lt, nI_lt0, Rf_fail_eq, Rf_out_eq, eq_self, not_true_eq_false, not_false_eq_true, Nat.reduceEqDiff, Nat.reduceLT, ne_eq, or_true, true_or, or_false, false_or, decide_true, decide_false, Bool.true_eq_false, Bool.false_eq_true, b2i_ne, mm_ai_s, s0, s1, r1, r2, qL, qR, qT, h0]
theorem lw_c_find (hT : T + 24 < 1000000) (hI : lw_I T x rm ao ad X.1 Λ σ β ρ B) {i : Nat} (hi : i + 4 < X.2.1) (hX : X.2.1 ≤ 2560) {l6 l7 l8 : Option Value} : lw_go X d T x rm ao ad i 888 l6 l7 l8 Λ σ β ρ B := by
  obtain ⟨hW, hL, hS, hR, hD, hB, rfl⟩ := hI
  have hlt : ∀ q t, Λ.2 q = some t → q < (mm_R rm ρ B).1 := fun q t h => (hD q t h).1
  have hop : opC X (d + 16) Λ σ β (mm_R rm ρ B) 46 [.int (X.2.2 (i + 1)), .int (X.2.2 (i + 2))] (sp_find σ (X.2.2 (i + 1)) (X.2.2 (i + 2))) exF := opC_find hW hL hS
  have hok : okO σ 3 (sp_find σ (X.2.2 (i + 1)) (X.2.2 (i + 2))) := ok_find
  have hWF : WF (T + 24) (sp_find σ (X.2.2 (i + 1)) (X.2.2 (i + 2))).2.2 := by rw [st_find]; exact WF_mono hW (by omega) hT
  obtain ⟨Λ', β', B', L', S', hx', D', B1, hN, hfo, qL⟩ := Lw_find_h hD hB hL hop hok
  have hr : opR X (d + 17) rm ρ (mm_C Λ' (sp_find σ (X.2.2 (i + 1)) (X.2.2 (i + 2))).2.2 β' B') 95 [.int (X.2.2 (i + 1)), .int (X.2.2 (i + 2))] (sp_find σ (X.2.2 (i + 1)) (X.2.2 (i + 2))) := opR_find (d := d + 11) hW hR
  obtain ⟨ρ', R', f', qR⟩ := gR D' hr
  clear hop hr
  generalize sp_find σ (X.2.2 (i + 1)) (X.2.2 (i + 2)) = o at hok hWF L' S' hfo qL R' f' qR ⊢
  have s0 : (gM Λ σ β rm ρ B).2.2 X.1 = none := gM_sa hD hB
  have s1 : (gM Λ' o.2.2 β' rm ρ B').2.2 X.1 = none := gM_sa D' B1
  have r1 : (gM Λ' o.2.2 β' rm ρ B').2.2 rm = some (.inr (3, r_obj rm ρ)) := gM_rm (lw_no D' (Or.inr (Or.inr (Or.inr ⟨by omega, by omega⟩))))
  have r2 : (gM Λ' o.2.2 β' rm ρ' B').2.2 rm = some (.inr (3, r_obj rm ρ')) := gM_rm (lw_no D' (Or.inr (Or.inr (Or.inr ⟨by omega, by omega⟩))))
  have qT := fun Q => gT (X := X) (d := d + 17) (σ := o.2.2) (β := β') (ρ := ρ') (Q := Q) D'
  have ho4 : o.1 ≤ 4 := Nat.le_trans hok.1 (by decide)
  rw [f'] at qT
  refine ⟨Λ', o.2.2, β', ρ', B', some (.int (nI o.1)), some (.int o.2.1), l8, ⟨hWF, L', S', R', D', B1, hx'⟩, hN, fun Q => ?_⟩
  by_cases h0 : o.1 = 0
  · obtain ⟨fo, e1, e2⟩ := hfo h0
    have a1 : (gM Λ' o.2.2 β' rm ρ' B').2.2 ao = some (.inl (3, 1, .inr (.inl fo))) := (gM_at (lw_no D' (Or.inl rfl)) (Or.inr B1.1)).trans e1
    simp (disch := omega) only [w_133_888, w_133_889, w_133_890, w_133_892, w_133_893, w_133_894, w_133_895, w_133_896, w_133_898, w_133_899, w_133_900, w_133_901, w_133_902, w_133_905, w_133_907, w_133_908, w_133_909, w_133_911, w_133_912, w_133_913, w_133_914, w_133_915, w_133_917, w_133_918, w_133_919, w_133_920, w_133_923, w_133_925, w_133_926, w_133_929, w_133_931, w_133_934, w_133_935, w_133_936, w_133_938, w_133_941, w_133_942, w_133_943, w_133_944, w_133_946, w_133_947, w_133_948, w_133_951, w_133_952, w_133_953, mm_k_none, mm_k_int, mm_k_ref, mm_k_null, mm_K_inl, mm_tl_some, mm_tl_none, mm_fg_ok, mm_rc_ok, mm_fp_ok, mm_ai_ok, mm_si_ok, mm_az_ok, mm_sz_ok, z01, z11, zb, b2i_t, b2i_f, true_and, and_true, Nat.zero_le, Nat.not_lt_zero, if_true, if_false, m1_lt, m1_ge, mm_inT, pk_mul, nI_add, mm_in_nI, mm_cl_nI, nI_eq, nI_ltI, nI_leI, ↓reduceIte, Nat.add_zero, Nat.reduceLeDiff, oI_some, oI_none, m1_lt, nI_lt0, Rf_fail_eq, Rf_out_eq, eq_self, not_true_eq_false, not_false_eq_true, Nat.reduceEqDiff, Nat.reduceLT, ne_eq, or_true, true_or, or_false, false_or, decide_true, decide_false, Bool.true_eq_false, Bool.false_eq_true, b2i_ne, mm_ai_s, s0, s1, r1, r2, qL, qR, qT, a1, mm_al_ok, e2, lg_self, h0]
  · simp (disch := omega) only [w_133_888, w_133_889, w_133_890, w_133_892, w_133_893, w_133_894, w_133_895, w_133_896, w_133_898, w_133_899, w_133_900, w_133_901, w_133_902, w_133_905, w_133_907, w_133_908, w_133_909, w_133_911, w_133_912, w_133_913, w_133_914, w_133_915, w_133_917, w_133_918, w_133_919, w_133_920, w_133_923, w_133_925, w_133_926, w_133_929, w_133_931, w_133_934, w_133_935, w_133_936, w_133_938, w_133_941, w_133_942, w_133_943, w_133_944, w_133_946, w_133_947, w_133_948, w_133_951, w_133_952, w_133_953, mm_k_none, mm_k_int, mm_k_ref, mm_k_null, mm_K_inl, mm_tl_some, mm_tl_none, mm_fg_ok, mm_rc_ok, mm_fp_ok, mm_ai_ok, mm_si_ok, mm_az_ok, mm_sz_ok, z01, z11, zb, b2i_t, b2i_f, true_and, and_true, Nat.zero_le, Nat.not_lt_zero, if_true, if_false, m1_lt, m1_ge, mm_inT, pk_mul, nI_add, mm_in_nI, mm_cl_nI, nI_eq, nI_ltI, nI_leI, ↓reduceIte, Nat.add_zero, Nat.reduceLeDiff, oI_some, oI_none, m1_lt, nI_lt0, Rf_fail_eq, Rf_out_eq, eq_self, not_true_eq_false, not_false_eq_true, Nat.reduceEqDiff, Nat.reduceLT, ne_eq, or_true, true_or, or_false, false_or, decide_true, decide_false, Bool.true_eq_false, Bool.false_eq_true, b2i_ne, mm_ai_s, s0, s1, r1, r2, qL, qR, qT, h0]
theorem lw_c_add (hT : T + 24 < 1000000) (hI : lw_I T x rm ao ad X.1 Λ σ β ρ B) {i : Nat} (hi : i + 4 < X.2.1) (hX : X.2.1 ≤ 2560) {l6 l7 l8 : Option Value} : lw_go X d T x rm ao ad i 956 l6 l7 l8 Λ σ β ρ B := by
  obtain ⟨hW, hL, hS, hR, hD, hB, rfl⟩ := hI
  have hlt : ∀ q t, Λ.2 q = some t → q < (mm_R rm ρ B).1 := fun q t h => (hD q t h).1
  have hop : opC X (d + 16) Λ σ β (mm_R rm ρ B) 48 [.int (X.2.2 (i + 1)), .int (X.2.2 (i + 2))] (sp_add σ (X.2.2 (i + 1)) (X.2.2 (i + 2))) exI := opC_add hW (by omega) hL hS
  have hok : okO σ 3 (sp_add σ (X.2.2 (i + 1)) (X.2.2 (i + 2))) := ok_add
  have hWF : WF (T + 24) (sp_add σ (X.2.2 (i + 1)) (X.2.2 (i + 2))).2.2 := WF_mono (WF_add hW (by omega)) (by omega) hT
  obtain ⟨Λ', β', B', L', S', hx', D', B1, hN, hfo, qL⟩ := Lw_add_h hD hB hL hop hok
  have hr : opR X (d + 17) rm ρ (mm_C Λ' (sp_add σ (X.2.2 (i + 1)) (X.2.2 (i + 2))).2.2 β' B') 96 [.int (X.2.2 (i + 1)), .int (X.2.2 (i + 2))] (sp_add σ (X.2.2 (i + 1)) (X.2.2 (i + 2))) := opR_add (d := d + 11) hW (by omega) hR
  obtain ⟨ρ', R', f', qR⟩ := gR D' hr
  clear hop hr
  generalize sp_add σ (X.2.2 (i + 1)) (X.2.2 (i + 2)) = o at hok hWF L' S' hfo qL R' f' qR ⊢
  have s0 : (gM Λ σ β rm ρ B).2.2 X.1 = none := gM_sa hD hB
  have s1 : (gM Λ' o.2.2 β' rm ρ B').2.2 X.1 = none := gM_sa D' B1
  have r1 : (gM Λ' o.2.2 β' rm ρ B').2.2 rm = some (.inr (3, r_obj rm ρ)) := gM_rm (lw_no D' (Or.inr (Or.inr (Or.inr ⟨by omega, by omega⟩))))
  have r2 : (gM Λ' o.2.2 β' rm ρ' B').2.2 rm = some (.inr (3, r_obj rm ρ')) := gM_rm (lw_no D' (Or.inr (Or.inr (Or.inr ⟨by omega, by omega⟩))))
  have qT := fun Q => gT (X := X) (d := d + 17) (σ := o.2.2) (β := β') (ρ := ρ') (Q := Q) D'
  have ho4 : o.1 ≤ 4 := Nat.le_trans hok.1 (by decide)
  rw [f'] at qT
  refine ⟨Λ', o.2.2, β', ρ', B', some (.int (nI o.1)), some (.int o.2.1), l8, ⟨hWF, L', S', R', D', B1, hx'⟩, hN, fun Q => ?_⟩
  by_cases h0 : o.1 = 0
  · obtain ⟨fo, e1, e2⟩ := hfo h0
    have a1 : (gM Λ' o.2.2 β' rm ρ' B').2.2 ao = some (.inl (3, 1, .inr (.inl fo))) := (gM_at (lw_no D' (Or.inl rfl)) (Or.inr B1.1)).trans e1
    simp (disch := omega) only [w_133_956, w_133_957, w_133_958, w_133_960, w_133_961, w_133_962, w_133_963, w_133_964, w_133_966, w_133_967, w_133_968, w_133_969, w_133_970, w_133_973, w_133_975, w_133_976, w_133_977, w_133_979, w_133_980, w_133_981, w_133_982, w_133_983, w_133_985, w_133_986, w_133_987, w_133_988, w_133_991, w_133_993, w_133_994, w_133_997, w_133_999, w_133_1002, w_133_1003, w_133_1004, w_133_1006, w_133_1009, w_133_1010, w_133_1011, w_133_1012, w_133_1014, w_133_1015, w_133_1016, w_133_1019, w_133_1020, w_133_1021, mm_k_none, mm_k_int, mm_k_ref, mm_k_null, mm_K_inl, mm_tl_some, mm_tl_none, mm_fg_ok, mm_rc_ok, mm_fp_ok, mm_ai_ok, mm_si_ok, mm_az_ok, mm_sz_ok, z01, z11, zb, b2i_t, b2i_f, true_and, and_true, Nat.zero_le, Nat.not_lt_zero, if_true, if_false, m1_lt, m1_ge, mm_inT, pk_mul, nI_add, mm_in_nI, mm_cl_nI, nI_eq, nI_ltI, nI_leI, ↓reduceIte, Nat.add_zero, Nat.reduceLeDiff, oI_some, oI_none, m1_lt, nI_lt0, Rf_fail_eq, Rf_out_eq, eq_self, not_true_eq_false, not_false_eq_true, Nat.reduceEqDiff, Nat.reduceLT, ne_eq, or_true, true_or, or_false, false_or, decide_true, decide_false, Bool.true_eq_false, Bool.false_eq_true, b2i_ne, mm_ai_s, s0, s1, r1, r2, qL, qR, qT, a1, mm_al_ok, e2, lg_self, h0]
  · simp (disch := omega) only [w_133_956, w_133_957, w_133_958, w_133_960, w_133_961, w_133_962, w_133_963, w_133_964, w_133_966, w_133_967, w_133_968, w_133_969, w_133_970, w_133_973, w_133_975, w_133_976, w_133_977, w_133_979, w_133_980, w_133_981, w_133_982, w_133_983, w_133_985, w_133_986, w_133_987, w_133_988, w_133_991, w_133_993, w_133_994, w_133_997, w_133_999, w_133_1002, w_133_1003, w_133_1004, w_133_1006, w_133_1009, w_133_1010, w_133_1011, w_133_1012, w_133_1014, w_133_1015, w_133_1016, w_133_1019, w_133_1020, w_133_1021, mm_k_none, mm_k_int, mm_k_ref, mm_k_null, mm_K_inl, mm_tl_some, mm_tl_none, mm_fg_ok, mm_rc_ok, mm_fp_ok, mm_ai_ok, mm_si_ok, mm_az_ok, mm_sz_ok, z01, z11, zb, b2i_t, b2i_f, true_and, and_true, Nat.zero_le, Nat.not_lt_zero, if_true, if_false, m1_lt, m1_ge, mm_inT, pk_mul, nI_add, mm_in_nI, mm_cl_nI, nI_eq, nI_ltI, nI_leI, ↓reduceIte, Nat.add_zero, Nat.reduceLeDiff, oI_some, oI_none, m1_lt, nI_lt0, Rf_fail_eq, Rf_out_eq, eq_self, not_true_eq_false, not_false_eq_true, Nat.reduceEqDiff, Nat.reduceLT, ne_eq, or_true, true_or, or_false, false_or, decide_true, decide_false, Bool.true_eq_false, Bool.false_eq_true, b2i_ne, mm_ai_s, s0, s1, r1, r2, qL, qR, qT, h0]
theorem lw_c_insert (hT : T + 24 < 1000000) (hI : lw_I T x rm ao ad X.1 Λ σ β ρ B) {i : Nat} (hi : i + 4 < X.2.1) (hX : X.2.1 ≤ 2560) {l6 l7 l8 : Option Value} : lw_go X d T x rm ao ad i 1024 l6 l7 l8 Λ σ β ρ B := by
  obtain ⟨hW, hL, hS, hR, hD, hB, rfl⟩ := hI
  have hlt : ∀ q t, Λ.2 q = some t → q < (mm_R rm ρ B).1 := fun q t h => (hD q t h).1
  have hop : opC X (d + 16) Λ σ β (mm_R rm ρ B) 53 [.int (X.2.2 (i + 1)), .int (X.2.2 (i + 2)), .int (X.2.2 (i + 3))] (sp_insert σ (X.2.2 (i + 1)) (X.2.2 (i + 2)) (X.2.2 (i + 3))) exI := opC_insert hW (by omega) hL hS
  have hok : okO σ 4 (sp_insert σ (X.2.2 (i + 1)) (X.2.2 (i + 2)) (X.2.2 (i + 3))) := ok_insert
  have hWF : WF (T + 24) (sp_insert σ (X.2.2 (i + 1)) (X.2.2 (i + 2)) (X.2.2 (i + 3))).2.2 := WF_mono (WF_insert hW (by omega)) (by omega) hT
  obtain ⟨Λ', β', B', L', S', hx', D', B1, hN, hfo, qL⟩ := Lw_insert_h hD hB hL hop hok
  have hr : opR X (d + 17) rm ρ (mm_C Λ' (sp_insert σ (X.2.2 (i + 1)) (X.2.2 (i + 2)) (X.2.2 (i + 3))).2.2 β' B') 104 [.int (X.2.2 (i + 1)), .int (X.2.2 (i + 2)), .int (X.2.2 (i + 3))] (sp_insert σ (X.2.2 (i + 1)) (X.2.2 (i + 2)) (X.2.2 (i + 3))) := opR_insert (d := d + 11) hW (by omega) hR
  obtain ⟨ρ', R', f', qR⟩ := gR D' hr
  clear hop hr
  generalize sp_insert σ (X.2.2 (i + 1)) (X.2.2 (i + 2)) (X.2.2 (i + 3)) = o at hok hWF L' S' hfo qL R' f' qR ⊢
  have s0 : (gM Λ σ β rm ρ B).2.2 X.1 = none := gM_sa hD hB
  have s1 : (gM Λ' o.2.2 β' rm ρ B').2.2 X.1 = none := gM_sa D' B1
  have r1 : (gM Λ' o.2.2 β' rm ρ B').2.2 rm = some (.inr (3, r_obj rm ρ)) := gM_rm (lw_no D' (Or.inr (Or.inr (Or.inr ⟨by omega, by omega⟩))))
  have r2 : (gM Λ' o.2.2 β' rm ρ' B').2.2 rm = some (.inr (3, r_obj rm ρ')) := gM_rm (lw_no D' (Or.inr (Or.inr (Or.inr ⟨by omega, by omega⟩))))
  have qT := fun Q => gT (X := X) (d := d + 17) (σ := o.2.2) (β := β') (ρ := ρ') (Q := Q) D'
  have ho4 : o.1 ≤ 4 := Nat.le_trans hok.1 (by decide)
  rw [f'] at qT
  refine ⟨Λ', o.2.2, β', ρ', B', some (.int (nI o.1)), some (.int o.2.1), l8, ⟨hWF, L', S', R', D', B1, hx'⟩, hN, fun Q => ?_⟩
  by_cases h0 : o.1 = 0
  · obtain ⟨fo, e1, e2⟩ := hfo h0
    have a1 : (gM Λ' o.2.2 β' rm ρ' B').2.2 ao = some (.inl (3, 1, .inr (.inl fo))) := (gM_at (lw_no D' (Or.inl rfl)) (Or.inr B1.1)).trans e1
    simp (disch := omega) only [w_133_1024, w_133_1025, w_133_1026, w_133_1028, w_133_1029, w_133_1030, w_133_1031, w_133_1032, w_133_1034, w_133_1035, w_133_1036, w_133_1037, w_133_1038, w_133_1040, w_133_1041, w_133_1042, w_133_1043, w_133_1044, w_133_1047, w_133_1049, w_133_1050, w_133_1051, w_133_1053, w_133_1054, w_133_1055, w_133_1056, w_133_1057, w_133_1059, w_133_1060, w_133_1061, w_133_1062, w_133_1063, w_133_1065, w_133_1066, w_133_1067, w_133_1068, w_133_1071, w_133_1073, w_133_1074, w_133_1077, w_133_1079, w_133_1082, w_133_1083, w_133_1084, w_133_1086, w_133_1089, w_133_1090, w_133_1091, w_133_1092, w_133_1094, w_133_1095, w_133_1096, w_133_1099, w_133_1100, w_133_1101, mm_k_none, mm_k_int, mm_k_ref, mm_k_null, mm_K_inl, mm_tl_some, mm_tl_none, mm_fg_ok, mm_rc_ok, mm_fp_ok, mm_ai_ok, mm_si_ok, mm_az_ok, mm_sz_ok, z01, z11, zb, b2i_t, b2i_f, true_and, and_true, Nat.zero_le, Nat.not_lt_zero, if_true, if_false, m1_lt, m1_ge, mm_inT, pk_mul, nI_add, mm_in_nI, mm_cl_nI, nI_eq, nI_ltI, nI_leI, ↓reduceIte, Nat.add_zero, Nat.reduceLeDiff, oI_some, oI_none, m1_lt, nI_lt0, Rf_fail_eq, Rf_out_eq, eq_self, not_true_eq_false, not_false_eq_true, Nat.reduceEqDiff, Nat.reduceLT, ne_eq, or_true, true_or, or_false, false_or, decide_true, decide_false, Bool.true_eq_false, Bool.false_eq_true, b2i_ne, mm_ai_s, s0, s1, r1, r2, qL, qR, qT, a1, mm_al_ok, e2, lg_self, h0]
  · simp (disch := omega) only [w_133_1024, w_133_1025, w_133_1026, w_133_1028, w_133_1029, w_133_1030, w_133_1031, w_133_1032, w_133_1034, w_133_1035, w_133_1036, w_133_1037, w_133_1038, w_133_1040, w_133_1041, w_133_1042, w_133_1043, w_133_1044, w_133_1047, w_133_1049, w_133_1050, w_133_1051, w_133_1053, w_133_1054, w_133_1055, w_133_1056, w_133_1057, w_133_1059, w_133_1060, w_133_1061, w_133_1062, w_133_1063, w_133_1065, w_133_1066, w_133_1067, w_133_1068, w_133_1071, w_133_1073, w_133_1074, w_133_1077, w_133_1079, w_133_1082, w_133_1083, w_133_1084, w_133_1086, w_133_1089, w_133_1090, w_133_1091, w_133_1092, w_133_1094, w_133_1095, w_133_1096, w_133_1099, w_133_1100, w_133_1101, mm_k_none, mm_k_int, mm_k_ref, mm_k_null, mm_K_inl, mm_tl_some, mm_tl_none, mm_fg_ok, mm_rc_ok, mm_fp_ok, mm_ai_ok, mm_si_ok, mm_az_ok, mm_sz_ok, z01, z11, zb, b2i_t, b2i_f, true_and, and_true, Nat.zero_le, Nat.not_lt_zero, if_true, if_false, m1_lt, m1_ge, mm_inT, pk_mul, nI_add, mm_in_nI, mm_cl_nI, nI_eq, nI_ltI, nI_leI, ↓reduceIte, Nat.add_zero, Nat.reduceLeDiff, oI_some, oI_none, m1_lt, nI_lt0, Rf_fail_eq, Rf_out_eq, eq_self, not_true_eq_false, not_false_eq_true, Nat.reduceEqDiff, Nat.reduceLT, ne_eq, or_true, true_or, or_false, false_or, decide_true, decide_false, Bool.true_eq_false, Bool.false_eq_true, b2i_ne, mm_ai_s, s0, s1, r1, r2, qL, qR, qT, h0]
end LW51
