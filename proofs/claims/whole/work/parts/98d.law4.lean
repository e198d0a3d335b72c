/-! the law: its cases (printed by wip/whole/gen/p99.py) -/
def lw_I (T x rm ao ad sa : Nat) (Λ : Lay) (σ : Sg) (β : CS) (ρ : RS) (B : mm_M) : Prop := WF T σ ∧ LK Λ σ ∧ StRel σ β ∧ RRel σ ρ ∧ lw_D Λ rm ao ad sa B ∧ lw_B rm ao ad sa B ∧ Λ.1 0 0 = x
def lw_N (B B' : mm_M) : Prop := B.1 ≤ B'.1 ∧ B'.1 ≤ B.1 + 10 ∧ B.2.1 ≤ B'.2.1 ∧ B'.2.1 ≤ B.2.1 + 400
def lw_go (X : Nat × Nat × (Nat → Int32)) (d T x rm ao ad i pc : Nat) (l6 l7 l8 : Option Value) (Λ : Lay) (σ : Sg) (β : CS) (ρ : RS) (B : mm_M) : Prop := ∃ Λ' σ' β' ρ' B' l6' l7' l8', lw_I (T + 24) x rm ao ad X.1 Λ' σ' β' ρ' B' ∧ lw_N B B' ∧ ∀ Q, WP X (d + 18) 133 pc [some (.ref X.1), some (.ref x), some (.ref rm), some (.ref ao), some (.ref ad), some (.int (nI i)), l6, l7, l8] [] (gM Λ σ β rm ρ B) Q = WP X (d + 18) 133 1540 [some (.ref X.1), some (.ref x), some (.ref rm), some (.ref ao), some (.ref ad), some (.int (nI i)), l6', l7', l8'] [] (gM Λ' σ' β' rm ρ' B') Q
section LW4
variable {X : Nat × Nat × (Nat → Int32)} {d T x rm ao ad sa : Nat} {Λ : Lay} {σ : Sg} {β : CS} {ρ : RS} {B : mm_M}
theorem gM_sa (hD : lw_D Λ rm ao ad sa B) (hB : lw_B rm ao ad sa B) : (gM Λ σ β rm ρ B).2.2 sa = none := (gM_at (lw_no hD (Or.inr (Or.inr (Or.inl rfl)))) (Or.inl hB.2.2.2.1)).trans hB.2.2.2.2.1
theorem WF_take (hW : WF T σ) (hT : T + 24 < 1000000) (hR : RRel σ ρ) {h i : Int32} : WF (T + 24) (sp_take σ h i).2.2 := by
  have hW1 := WF_mono hW (show T ≤ T + 24 by omega) hT
  unfold sp_take
  split
  · exact hW1
  · rename_i n hn
    have hlt := ndo_lt hW hn
    have h72 := El_72 hW hlt
    refine ite_wf (fun _ => hW1) (fun h1 => ite_wf (fun _ => hW1) (fun h2 => ite_wf (fun _ => hW1) (fun hi => ?_)))
    have hs : stale σ n = false := by simpa using h2
    have hsup : sup σ 1 n = true := by simpa using h1
    obtain ⟨ρ1, g1, g2, -⟩ := Rf_show_yes (X := (0, 0, fun _ => 0)) (d := 0) (rm := 0) (M := (0, 0, fun _ => none)) hW hR hlt hs
    obtain ⟨j, hj, rfl⟩ := nI_of' (fun z => hi (Or.inl z))
    have hjl : j < (El σ n).length := Nat.lt_of_not_le fun z => hi (Or.inr (nI_nlt z hj))
    show WF (T + 24) (tkAt σ n (nI j).toNatClampNeg)
    rw [nI_clamp hj]
    exact (Rf_takeAt_eq (X := (0, 0, fun _ => 0)) (d := 0) (rm := 0) (M := (0, 0, fun _ => none)) hW hT (hR.same g1) hlt hs g2 hsup hjl).1
theorem WF_remove (hW : WF T σ) (hT : T + 24 < 1000000) (hR : RRel σ ρ) {h v : Int32} : WF (T + 24) (sp_remove σ h v).2.2 := by
  have hW1 := WF_mono hW (show T ≤ T + 24 by omega) hT
  unfold sp_remove
  split
  · exact hW1
  · rename_i n hn
    have hlt := ndo_lt hW hn
    refine ite_wf (fun _ => hW1) (fun h1 => ite_wf (fun _ => hW1) (fun h2 => ?_))
    have hs : stale σ n = false := by simpa using h2
    have hsup : sup σ 1 n = true := by simpa using h1
    obtain ⟨ρ1, g1, g2, -⟩ := Rf_show_yes (X := (0, 0, fun _ => 0)) (d := 0) (rm := 0) (M := (0, 0, fun _ => none)) hW hR hlt hs
    cases hf : fst1 v (El σ n) with
    | none => exact hW1
    | some k => exact (Rf_takeAt_eq (X := (0, 0, fun _ => 0)) (d := 0) (rm := 0) (M := (0, 0, fun _ => none)) hW hT (hR.same g1) hlt hs g2 hsup (fst1_lt hf)).1
theorem lw_c_make (hT : T + 24 < 1000000) (hI : lw_I T x rm ao ad X.1 Λ σ β ρ B) {i : Nat} (hi : i + 4 < X.2.1) (hX : X.2.1 ≤ 2560) {l6 l7 l8 : Option Value} : lw_go X d T x rm ao ad i 136 l6 l7 l8 Λ σ β ρ B := by
  obtain ⟨hW, hL, hS, hR, hD, hB, rfl⟩ := hI
  have hlt : ∀ q t, Λ.2 q = some t → q < (mm_R rm ρ B).1 := fun q t h => (hD q t h).1
  have hop : opC X (d + 16) Λ σ β (mm_R rm ρ B) 15 [.int (X.2.2 (i + 1)), .int (X.2.2 (i + 2))] (sp_make σ (X.2.2 (i + 1)) (X.2.2 (i + 2))) exA := opC_make hW hL hlt hS
  have hok : okO σ 2 (sp_make σ (X.2.2 (i + 1)) (X.2.2 (i + 2))) := ok_make
  have hWF : WF (T + 24) (sp_make σ (X.2.2 (i + 1)) (X.2.2 (i + 2))).2.2 := WF_mono (WF_make hW) (by omega) hT
  obtain ⟨Λ', β', B', L', S', hx', D', B1, hN, hfo, qL⟩ := Lw_make_h hD hB hL hop hok
  have hr : opR X (d + 17) rm ρ (mm_C Λ' (sp_make σ (X.2.2 (i + 1)) (X.2.2 (i + 2))).2.2 β' B') 65 [.int (X.2.2 (i + 1)), .int (X.2.2 (i + 2))] (sp_make σ (X.2.2 (i + 1)) (X.2.2 (i + 2))) := opR_make (d := d + 11) hW hR
  obtain ⟨ρ', R', f', qR⟩ := gR D' hr
  clear hop hr
  generalize sp_make σ (X.2.2 (i + 1)) (X.2.2 (i + 2)) = o at hok hWF L' S' hfo qL R' f' qR ⊢
  have s0 : (gM Λ σ β rm ρ B).2.2 X.1 = none := gM_sa hD hB
  have s1 : (gM Λ' o.2.2 β' rm ρ B').2.2 X.1 = none := gM_sa D' B1
  have r1 : (gM Λ' o.2.2 β' rm ρ B').2.2 rm = some (.inr (3, r_obj rm ρ)) := gM_rm (lw_no D' (Or.inr (Or.inr (Or.inr ⟨by omega, by omega⟩))))
  have r2 : (gM Λ' o.2.2 β' rm ρ' B').2.2 rm = some (.inr (3, r_obj rm ρ')) := gM_rm (lw_no D' (Or.inr (Or.inr (Or.inr ⟨by omega, by omega⟩))))
  have qT := fun Q => gT (X := X) (d := d + 17) (σ := o.2.2) (β := β') (ρ := ρ') (Q := Q) D'
  have ho4 : o.1 ≤ 4 := Nat.le_trans hok.1 (by decide)
  rw [f'] at qT
  refine ⟨Λ', o.2.2, β', ρ', B', some (.int (nI o.1)), some (.int o.2.1), l8, ⟨hWF, L', S', R', D', B1, hx'⟩, hN, fun Q => ?_⟩
  by_cases h0 : o.1 = 0
  · obtain ⟨fo, e1, e2⟩ := hfo h0
    have a1 : (gM Λ' o.2.2 β' rm ρ' B').2.2 ao = some (.inl (3, 1, .inr (.inl fo))) := (gM_at (lw_no D' (Or.inl rfl)) (Or.inr B1.1)).trans e1
    simp (disch := omega) only [w_133_136, w_133_137, w_133_138, w_133_140, w_133_141, w_133_142, w_133_143, w_133_144, w_133_146, w_133_147, w_133_148, w_133_149, w_133_150, w_133_153, w_133_155, w_133_156, w_133_157, w_133_159, w_133_160, w_133_161, w_133_162, w_133_163, w_133_165, w_133_166, w_133_167, w_133_168, w_133_171, w_133_173, w_133_174, w_133_177, w_133_179, w_133_182, w_133_183, w_133_184, w_133_186, w_133_189, w_133_190, w_133_191, w_133_192, w_133_194, w_133_195, w_133_196, w_133_199, w_133_200, w_133_201, mm_k_none, mm_k_int, mm_k_ref, mm_k_null, mm_K_inl, mm_tl_some, mm_tl_none, mm_fg_ok, mm_rc_ok, mm_fp_ok, mm_ai_ok, mm_si_ok, mm_az_ok, mm_sz_ok, z01, z11, zb, b2i_t, b2i_f, true_and, and_true, Nat.zero_le, Nat.not_lt_zero, if_true, if_false, m1_lt, m1_ge, mm_inT, pk_mul, nI_add, mm_in_nI, mm_cl_nI, nI_eq, nI_ltI, nI_leI, ↓reduceIte, Nat.add_zero, Nat.reduceLeDiff, oI_some, oI_none, m1_lt, nI_lt0, Rf_fail_eq, Rf_out_eq, eq_self, not_true_eq_false, not_false_eq_true, Nat.reduceEqDiff, Nat.reduceLT, ne_eq, or_true, true_or, or_false, false_or, decide_true, decide_false, Bool.true_eq_false, Bool.false_eq_true, b2i_ne, mm_ai_s, s0, s1, r1, r2, qL, qR, qT, a1, mm_al_ok, e2, lg_self, h0]
  · simp (disch := omega) only [w_133_136, w_133_137, w_133_138, w_133_140, w_133_141, w_133_142, w_133_143, w_133_144, w_133_146, w_133_147, w_133_148, w_133_149, w_133_150, w_133_153, w_133_155, w_133_156, w_133_157, w_133_159, w_133_160, w_133_161, w_133_162, w_133_163, w_133_165, w_133_166, w_133_167, w_133_168, w_133_171, w_133_173, w_133_174, w_133_177, w_133_179, w_133_182, w_133_183, w_133_184, w_133_186, w_133_189, w_133_190, w_133_191, w_133_192, w_133_194, w_133_195, w_133_196, w_133_199, w_133_200, w_133_201, mm_k_none, mm_k_int, mm_k_ref, mm_k_null, mm_K_inl, mm_tl_some, mm_tl_none, mm_fg_ok, mm_rc_ok, mm_fp_ok, mm_ai_ok, mm_si_ok, mm_az_ok, mm_sz_ok, z01, z11, zb, b2i_t, b2i_f, true_and, and_true, Nat.zero_le, Nat.not_lt_zero, if_true, if_false, m1_lt, m1_ge, mm_inT, pk_mul, nI_add, mm_in_nI, mm_cl_nI, nI_eq, nI_ltI, nI_leI, ↓reduceIte, Nat.add_zero, Nat.reduceLeDiff, oI_some, oI_none, m1_lt, nI_lt0, Rf_fail_eq, Rf_out_eq, eq_self, not_true_eq_false, not_false_eq_true, Nat.reduceEqDiff, Nat.reduceLT, ne_eq, or_true, true_or, or_false, false_or, decide_true, decide_false, Bool.true_eq_false, Bool.false_eq_true, b2i_ne, mm_ai_s, s0, s1, r1, r2, qL, qR, qT, h0]
end LW4
