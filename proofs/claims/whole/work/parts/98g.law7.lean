/-! the law: its loop (printed by wip/whole/gen/p99.py) -/
theorem and31 (y : Int32) : ∃ v : Nat, v < 32 ∧ y &&& nI 31 = nI v := by
  have h31 : (nI 31).toBitVec.toNat = 31 := by decide
  have h : (y &&& nI 31).toBitVec.toNat ≤ 31 := by
    rw [Int32.toBitVec_and, BitVec.toNat_and, h31]
    exact Nat.and_le_right
  refine ⟨(y &&& nI 31).toBitVec.toNat, by omega, ?_⟩
  apply Int32.toBitVec_inj.1
  show _ = BitVec.ofNat 32 _
  rw [BitVec.ofNat_toNat, BitVec.setWidth_eq]
section LW7
variable {X : Nat × Nat × (Nat → Int32)} {d T x rm ao ad sa : Nat} {Λ : Lay} {σ : Sg} {β : CS} {ρ : RS} {B : mm_M}
theorem mm_ln_s {K : Int32 → Prop} : mm_ln X X.1 none K = K (nI X.2.1) := by
  show (X.1 = X.1 ∧ K (Int32.ofNat X.2.1)) = _
  rw [eq_self, true_and]
  rfl
theorem lw_go0 (hT : T + 24 < 1000000) (hI : lw_I T x rm ao ad X.1 Λ σ β ρ B) {i : Nat} {l6 l7 l8 : Option Value} : lw_go X d T x rm ao ad i 1540 l6 l7 l8 Λ σ β ρ B := by
  obtain ⟨hW, h⟩ := hI
  exact ⟨Λ, σ, β, ρ, B, l6, l7, l8, ⟨WF_mono hW (by omega) hT, h⟩, ⟨Nat.le_refl _, Nat.le_add_right _ _, Nat.le_refl _, Nat.le_add_right _ _⟩, fun _ => rfl⟩
theorem lw_sw (hT : T + 24 < 1000000) (hI : lw_I T x rm ao ad X.1 Λ σ β ρ B) {i : Nat} (hi : i + 4 < X.2.1) (hX : X.2.1 ≤ 2560) {l6 l7 l8 : Option Value} : ∃ pc, lw_go X d T x rm ao ad i pc l6 l7 l8 Λ σ β ρ B ∧ ∀ Q, WP X (d + 18) 133 28 [some (.ref X.1), some (.ref x), some (.ref rm), some (.ref ao), some (.ref ad), some (.int (nI i)), l6, l7, l8] [] (gM Λ σ β rm ρ B) Q = WP X (d + 18) 133 pc [some (.ref X.1), some (.ref x), some (.ref rm), some (.ref ao), some (.ref ad), some (.int (nI i)), l6, l7, l8] [] (gM Λ σ β rm ρ B) Q := by
  obtain ⟨v, hv, e⟩ := and31 (X.2.2 i)
  have s0 : (gM Λ σ β rm ρ B).2.2 X.1 = none := gM_sa hI.2.2.2.2.1 hI.2.2.2.2.2.1
  have hg : ¬ X.2.1 - 5 < i := by omega
  have hd : ∀ Q, WP X (d + 18) 133 28 [some (.ref X.1), some (.ref x), some (.ref rm), some (.ref ao), some (.ref ad), some (.int (nI i)), l6, l7, l8] [] (gM Λ σ β rm ρ B) Q = WP X (d + 18) 133 44 [some (.ref X.1), some (.ref x), some (.ref rm), some (.ref ao), some (.ref ad), some (.int (nI i)), l6, l7, l8] [.int (nI v)] (gM Λ σ β rm ρ B) Q := by
    intro Q
    rw [← e, w_133_28]
    simp (disch := omega) only [w_133_30, w_133_31, w_133_32, w_133_33, w_133_34, w_133_37, w_133_38, w_133_40, w_133_41, w_133_43, mm_k_none, mm_k_int, mm_k_ref, mm_k_null, mm_K_inl, mm_tl_some, mm_tl_none, mm_fg_ok, mm_rc_ok, mm_fp_ok, mm_ai_ok, mm_si_ok, mm_az_ok, mm_sz_ok, z01, z11, zb, b2i_t, b2i_f, true_and, and_true, Nat.zero_le, Nat.not_lt_zero, if_true, if_false, m1_lt, m1_ge, mm_inT, pk_mul, nI_add, mm_in_nI, mm_cl_nI, nI_eq, nI_ltI, nI_leI, ↓reduceIte, Nat.add_zero, Nat.reduceLeDiff, oI_some, oI_none, m1_lt, nI_lt0, Rf_fail_eq, Rf_out_eq, eq_self, not_true_eq_false, not_false_eq_true, Nat.reduceEqDiff, Nat.reduceLT, ne_eq, or_true, true_or, or_false, false_or, decide_true, decide_false, Bool.true_eq_false, Bool.false_eq_true, b2i_ne, nI_m, mm_ln_s, mm_ai_s, s0, hg]
  have hc : v = 0 ∨ v = 1 ∨ v = 2 ∨ v = 3 ∨ v = 4 ∨ v = 5 ∨ v = 6 ∨ v = 7 ∨ v = 8 ∨ v = 9 ∨ v = 10 ∨ v = 11 ∨ v = 12 ∨ v = 13 ∨ v = 14 ∨ v = 15 ∨ v = 16 ∨ v = 17 ∨ v = 18 ∨ v = 19 ∨ v = 20 ∨ v = 21 ∨ v = 22 ∨ v = 23 ∨ v = 24 ∨ v = 25 ∨ v = 26 ∨ v = 27 ∨ v = 28 ∨ v = 29 ∨ v = 30 ∨ v = 31 := by omega
  rcases hc with rfl | rfl | rfl | rfl | rfl | rfl | rfl | rfl | rfl | rfl | rfl | rfl | rfl | rfl | rfl | rfl | rfl | rfl | rfl | rfl | rfl | rfl | rfl | rfl | rfl | rfl | rfl | rfl | rfl | rfl | rfl | rfl
  · exact ⟨136, lw_c_make hT hI hi hX, fun Q => by rw [hd, w_133_44_0]⟩
  · exact ⟨204, lw_c_copy hT hI hi hX, fun Q => by rw [hd, w_133_44_1]⟩
  · exact ⟨284, lw_c_reversed hT hI hi hX, fun Q => by rw [hd, w_133_44_2]⟩
  · exact ⟨352, lw_c_part hT hI hi hX, fun Q => by rw [hd, w_133_44_3]⟩
  · exact ⟨444, lw_c_shifted hT hI hi hX, fun Q => by rw [hd, w_133_44_4]⟩
  · exact ⟨524, lw_c_ofMap hT hI hi hX, fun Q => by rw [hd, w_133_44_5]⟩
  · exact ⟨604, lw_c_combine hT hI hi hX, fun Q => by rw [hd, w_133_44_6]⟩
  · exact ⟨696, lw_c_hold hT hI hi hX, fun Q => by rw [hd, w_133_44_7]⟩
  · exact ⟨764, lw_c_size hT hI hi hX, fun Q => by rw [hd, w_133_44_8]⟩
  · exact ⟨820, lw_c_at hT hI hi hX, fun Q => by rw [hd, w_133_44_9]⟩
  · exact ⟨888, lw_c_find hT hI hi hX, fun Q => by rw [hd, w_133_44_10]⟩
  · exact ⟨956, lw_c_add hT hI hi hX, fun Q => by rw [hd, w_133_44_11]⟩
  · exact ⟨1024, lw_c_insert hT hI hi hX, fun Q => by rw [hd, w_133_44_12]⟩
  · exact ⟨1104, lw_c_put hT hI hi hX, fun Q => by rw [hd, w_133_44_13]⟩
  · exact ⟨1184, lw_c_take hT hI hi hX, fun Q => by rw [hd, w_133_44_14]⟩
  · exact ⟨1252, lw_c_remove hT hI hi hX, fun Q => by rw [hd, w_133_44_15]⟩
  · exact ⟨1320, lw_c_mean hT hI hi hX, fun Q => by rw [hd, w_133_44_16]⟩
  · exact ⟨1397, lw_c_alike hT hI hi hX, fun Q => by rw [hd, w_133_44_17]⟩
  · exact ⟨1472, lw_c_about hT hI hi hX, fun Q => by rw [hd, w_133_44_18]⟩
  · exact ⟨1540, lw_go0 hT hI, fun Q => by rw [hd, w_133_44_19]⟩
  · exact ⟨1540, lw_go0 hT hI, fun Q => by rw [hd, w_133_44_20]⟩
  · exact ⟨1540, lw_go0 hT hI, fun Q => by rw [hd, w_133_44_21]⟩
  · exact ⟨1540, lw_go0 hT hI, fun Q => by rw [hd, w_133_44_22]⟩
  · exact ⟨1540, lw_go0 hT hI, fun Q => by rw [hd, w_133_44_23]⟩
  · exact ⟨1540, lw_go0 hT hI, fun Q => by rw [hd, w_133_44_24]⟩
  · exact ⟨1540, lw_go0 hT hI, fun Q => by rw [hd, w_133_44_25]⟩
  · exact ⟨1540, lw_go0 hT hI, fun Q => by rw [hd, w_133_44_26]⟩
  · exact ⟨1540, lw_go0 hT hI, fun Q => by rw [hd, w_133_44_27]⟩
  · exact ⟨1540, lw_go0 hT hI, fun Q => by rw [hd, w_133_44_28]⟩
  · exact ⟨1540, lw_go0 hT hI, fun Q => by rw [hd, w_133_44_29]⟩
  · exact ⟨1540, lw_go0 hT hI, fun Q => by rw [hd, w_133_44_30]⟩
  · exact ⟨1540, lw_go0 hT hI, fun Q => by rw [hd, w_133_44_31]⟩
theorem lw_step (hT : T + 24 < 1000000) (hI : lw_I T x rm ao ad X.1 Λ σ β ρ B) {i : Nat} (hi : i + 4 < X.2.1) (hX : X.2.1 ≤ 2560) {l6 l7 l8 : Option Value} : ∃ Λ' σ' β' ρ' B' l6' l7' l8', lw_I (T + 24) x rm ao ad X.1 Λ' σ' β' ρ' B' ∧ lw_N B B' ∧ ∀ Q, WP X (d + 18) 133 28 [some (.ref X.1), some (.ref x), some (.ref rm), some (.ref ao), some (.ref ad), some (.int (nI i)), l6, l7, l8] [] (gM Λ σ β rm ρ B) Q = WP X (d + 18) 133 28 [some (.ref X.1), some (.ref x), some (.ref rm), some (.ref ao), some (.ref ad), some (.int (nI (i + 5))), l6', l7', l8'] [] (gM Λ' σ' β' rm ρ' B') Q := by
  obtain ⟨pc, ⟨Λ', σ', β', ρ', B', l6', l7', l8', h1, h2, q⟩, q0⟩ := lw_sw (d := d) hT hI hi hX (l6 := l6) (l7 := l7) (l8 := l8)
  refine ⟨Λ', σ', β', ρ', B', l6', l7', l8', h1, h2, fun Q => ?_⟩
  rw [q0, q]
  simp (disch := omega) only [w_133_1540, w_133_1543, mm_k_none, mm_k_int, mm_k_ref, mm_k_null, mm_K_inl, mm_tl_some, mm_tl_none, mm_fg_ok, mm_rc_ok, mm_fp_ok, mm_ai_ok, mm_si_ok, mm_az_ok, mm_sz_ok, z01, z11, zb, b2i_t, b2i_f, true_and, and_true, Nat.zero_le, Nat.not_lt_zero, if_true, if_false, m1_lt, m1_ge, mm_inT, pk_mul, nI_add, mm_in_nI, mm_cl_nI, nI_eq, nI_ltI, nI_leI, ↓reduceIte, Nat.add_zero, Nat.reduceLeDiff, oI_some, oI_none, m1_lt, nI_lt0, Rf_fail_eq, Rf_out_eq, eq_self, not_true_eq_false, not_false_eq_true, Nat.reduceEqDiff, Nat.reduceLT, ne_eq, or_true, true_or, or_false, false_or, decide_true, decide_false, Bool.true_eq_false, Bool.false_eq_true, b2i_ne]
theorem lw_lp (hX : X.2.1 ≤ 2560) : ∀ (r i T : Nat) (l6 l7 l8 : Option Value) (Λ : Lay) (σ : Sg) (β : CS) (ρ : RS) (B : mm_M), i + 5 * r = 5 * (X.2.1 / 5) → T + 24 * r < 1000000 → lw_I T x rm ao ad X.1 Λ σ β ρ B → ∃ M' : mm_M, B.1 ≤ M'.1 ∧ M'.1 ≤ B.1 + 10 * r ∧ B.2.1 ≤ M'.2.1 ∧ M'.2.1 ≤ B.2.1 + 400 * r ∧ ∀ Q, WP X (d + 18) 133 28 [some (.ref X.1), some (.ref x), some (.ref rm), some (.ref ao), some (.ref ad), some (.int (nI i)), l6, l7, l8] [] (gM Λ σ β rm ρ B) Q = Q (.inl (some (.int (nI 1)))) M' := by
  intro r
  induction r with
  | zero =>
    intro i T l6 l7 l8 Λ σ β ρ B hi hT hI
    refine ⟨gM Λ σ β rm ρ B, Nat.le_refl _, Nat.le_refl _, Nat.le_refl _, Nat.le_refl _, fun Q => ?_⟩
    have s0 : (gM Λ σ β rm ρ B).2.2 X.1 = none := gM_sa hI.2.2.2.2.1 hI.2.2.2.2.2.1
    have hg : nI X.2.1 - nI 5 < nI i := by
      by_cases h5 : 5 ≤ X.2.1
      · rw [nI_m h5]
        exact nI_lt (by omega) (by omega)
      · have hi0 : i = 0 := by omega
        have hc : X.2.1 = 0 ∨ X.2.1 = 1 ∨ X.2.1 = 2 ∨ X.2.1 = 3 ∨ X.2.1 = 4 := by omega
        rw [hi0]
        rcases hc with z | z | z | z | z <;> rw [z] <;> decide
    rw [w_133_28]
    simp (disch := omega) only [w_133_30, w_133_31, w_133_32, w_133_33, w_133_34, w_133_37, w_133_38, w_133_40, w_133_41, w_133_43, w_133_1546, w_133_1547, mm_k_none, mm_k_int, mm_k_ref, mm_k_null, mm_K_inl, mm_tl_some, mm_tl_none, mm_fg_ok, mm_rc_ok, mm_fp_ok, mm_ai_ok, mm_si_ok, mm_az_ok, mm_sz_ok, z01, z11, zb, b2i_t, b2i_f, true_and, and_true, mm_ln_s, s0, hg, if_true]
  | succ r ih =>
    intro i T l6 l7 l8 Λ σ β ρ B hi hT hI
    obtain ⟨Λ', σ', β', ρ', B', l6', l7', l8', h1, h2, q⟩ := lw_step (d := d) (by omega) hI (i := i) (by omega) hX (l6 := l6) (l7 := l7) (l8 := l8)
    obtain ⟨M', m1, m2, m3, m4, q2⟩ := ih (i + 5) (T + 24) l6' l7' l8' Λ' σ' β' ρ' B' (by omega) (by omega) h1
    obtain ⟨n1, n2, n3, n4⟩ := h2
    exact ⟨M', by omega, by omega, by omega, by omega, fun Q => (q Q).trans (q2 Q)⟩
end LW7
