/-! the class: make -/
def g5 (c : Nat) : Nat := if c = 4 then 4 else c - 5
def f5 (j : Nat) : Nat := if j = 4 then 4 else j + 5
def g1 (_ : Nat) : Nat := 0
def f1 (_ : Nat) : Nat := 4
def g3 (c : Nat) : Nat := if c = 4 then 0 else c - 8
def f3 (j : Nat) : Nat := if j = 0 then 4 else j + 8
theorem gf5 {k : Nat} (hk : kTwo k = false) : gfOK k 5 g5 f5 := by
  refine ⟨fun j hj => ?_, ⟨by decide, rfl⟩, fun _ c c1 c2 => ?_, fun h => by rw [hk] at h; cases h⟩
  · unfold f5 g5
    by_cases h : j = 4
    · simp [h]
    · rw [if_neg h, if_neg (by omega)]
      exact ⟨by omega, by omega, fun z => by omega⟩
  · unfold f5 g5
    rw [if_neg (by omega), if_neg (by omega)]
    exact ⟨by omega, by omega⟩
theorem gf1 {k : Nat} (hk : kTwo k = false) (h2 : kS k = false) : gfOK k 1 g1 f1 := by
  refine ⟨fun j hj => ⟨Nat.le_refl _, ?_, fun z => absurd (show 9 ≤ 4 from z) (by decide)⟩, ⟨by decide, rfl⟩, fun h => absurd (h2.symm.trans h) (by decide), fun h => absurd (hk.symm.trans h) (by decide)⟩
  show 0 = j
  omega
theorem gf3 {k : Nat} (hk : kTwo k = true) (h2 : kS k = false) : gfOK k 3 g3 f3 := by
  refine ⟨fun j hj => ?_, ⟨by decide, rfl⟩, fun h => absurd (h2.symm.trans h) (by decide), fun _ c hc => ?_⟩
  · unfold f3 g3
    by_cases h : j = 0
    · simp [h]
    · rw [if_neg h, if_neg (by omega)]
      exact ⟨by omega, by omega, fun z => hk⟩
  · unfold f3 g3
    rcases hc with rfl | rfl <;> decide
theorem opC.made {X : Nat × Nat × (Nat → Int32)} {d : Nat} {Λ : Lay} {σ : Sg} {β β1 : CS} {M : mm_M} {kk : Nat} {args : List Value} {o : Out} {ex : Nat → Nat} {k a s : Nat} {g f : Nat → Nat} {x y p dd lv gv to : Nat} {v x' : Int32} {L : List Int32} {F : Nat → Nat → Int32} (hL : LK Λ σ) (hlt : ∀ q t, Λ.2 q = some t → q < M.1) (hg : gfOK k a g f) (e : o = (0, nI (sN σ + 1), addN σ to k x y v p dd lv gv L)) (hst : StRel (addN σ to k x y v p dd lv gv L) (newB β1 (sN σ) F x')) (ha : a ≤ 10) (hs : s ≤ 400) (q : ∀ Q, WPC X d kk (.ref (Λ.1 0 0) :: args) (mm_C Λ σ β M) Q = Q (.inl (some (.int (nI (sN σ + 1))))) (mm_C (layN Λ (sN σ) M.1 a g f) (addN σ to k x y v p dd lv gv L) (newB β1 (sN σ) F x') (M.1 + a, M.2.1 + s, M.2.2))) : opC X d Λ σ β M kk args o ex := by
  subst e
  refine ⟨fun _ => ⟨layN Λ (sN σ) M.1 a g f, newB β1 (sN σ) F x', a, s, LK_new hL hlt hg rfl rfl, hst, lay_o (by omega), fun r t h => ?_, ha, hs, q⟩, fun z => absurd rfl z⟩
  by_cases z : M.1 ≤ r ∧ r < M.1 + a
  · exact Or.inr z
  · rw [lay_2o z] at h
    exact Or.inl h
section CL29
variable {X : Nat × Nat × (Nat → Int32)} {d T n A k : Nat} {Λ : Lay} {σ σ' : Sg} {β : CS} {M N : mm_M} {Q : mm_Out → mm_M → Prop} {F : Nat → Nat → Int32} {x' : Int32}
theorem n00 : nI 0 = (0 : Int32) := rfl
theorem cell5_st : c_cell (layN Λ (sN σ) A 5 g5 f5) σ' (newB β (sN σ) F x') (f5 0) (sN σ) = .inr (1, [.ref (A + 1), .ref (A + 1 + 1), .ref (A + 1 + 1 + 1), .int x']) := by
  show (.inr (1, c_st _ _ (sN σ)) : mm_O) = _
  unfold c_st
  rw [lay_n (by decide), lay_n (by decide), lay_n (by decide), newB_2n]
  rfl
theorem cell5_a {j l : Nat} (hj : 1 ≤ j ∧ j ≤ 3) (hl : c_len σ' (j + 5) (sN σ) = l) : c_cell (layN Λ (sN σ) A 5 g5 f5) σ' (newB β (sN σ) F x') (f5 j) (sN σ) = .inl (0, l, .inl (F (j + 5))) := by
  have e : f5 j = j + 5 := if_neg (by omega)
  rw [e]
  unfold c_cell
  rw [if_neg (by omega), if_neg (by omega), if_neg (by omega), if_neg (by omega), hl, newB_n (by omega)]
theorem cell5_n (hk : sK σ' (sN σ) = k) (hkS : kS k = true) (hl : sL σ' (sN σ) = 1) (hg : sG σ' (sN σ) = 1) : c_cell (layN Λ (sN σ) A 5 g5 f5) σ' (newB β (sN σ) F x') (f5 4) (sN σ) = .inr (0, [.int (nI k), .int (nI 1), .int (nI 1), .ref A, .int (nI 0), .null, .null, .null, .null, .int 0, .int 0, .int 0, .int 0]) := by
  show (.inr (0, c_node _ σ' (sN σ)) : mm_O) = _
  have hc : k = 0 ∨ k = 1 ∨ k = 2 ∨ k = 6 := by simp [kS] at hkS; omega
  have e5 : (layN Λ (sN σ) A 5 g5 f5).1 5 (sN σ) = A := lay_n (by decide)
  unfold c_node vStore vKey vBase vOther vRow vStart vLen vNoted vBy
  rw [hk, hl, hg, e5]
  rcases hc with rfl | rfl | rfl | rfl <;> rfl
theorem keep5 (hW : WF T σ) (hL : LK Λ σ) (hlt : ∀ q t, Λ.2 q = some t → q < M.1) (hn : sN σ < 40) (hk : kS k = true) {to most kc : Nat} (hto : to < 10) {L : List Int32} (hm : (if k = 0 then 16 else 24) = most) (hc : (if k = 6 then 8 else 1) = kc) : WPC X d 20 [.ref (Λ.1 0 0), .int (nI to), .ref (M.1 + 4)] (mm_push (mm_push (mm_push (mm_push (mm_push (mm_C Λ σ β M) 4 (.inr (1, [.ref (M.1 + 1), .ref (M.1 + 1 + 1), .ref (M.1 + 1 + 1 + 1), .int x']))) most (.inl (0, most, .inl (F 6)))) most (.inl (0, most, .inl (F 7)))) kc (.inl (0, kc, .inl (F 8)))) 13 (.inr (0, [.int (nI k), .int (nI 1), .int (nI 1), .ref M.1, .int (nI 0), .null, .null, .null, .null, .int 0, .int 0, .int 0, .int 0]))) Q = Q (.inl (some (.int (nI (sN σ + 1))))) (mm_C (layN Λ (sN σ) M.1 5 g5 f5) (addN σ to k 0 0 (nI 0) 0 0 1 1 L) (newB β (sN σ) F x') (M.1 + 5, M.2.1 + (4 + (most + (most + (kc + 13)))), M.2.2)) := by
  have h2 : kTwo k = false := by
    have hc : k = 0 ∨ k = 1 ∨ k = 2 ∨ k = 6 := by simp [kS] at hk; omega
    rcases hc with rfl | rfl | rfl | rfl <;> rfl
  obtain ⟨-, -, e3, -, -, -, -, -, e9, e10, -⟩ := addN_f (σ := σ) (to := to) (k := k) (x := 0) (y := 0) (v := nI 0) (p := 0) (dd := 0) (lv := 1) (gv := 1) (L := L)
  have eK : sK (addN σ to k 0 0 (nI 0) 0 0 1 1 L) (sN σ) = k := by rw [e3, ud_at]
  have eL : sL (addN σ to k 0 0 (nI 0) 0 0 1 1 L) (sN σ) = 1 := by rw [e9, ud_at]
  have eG : sG (addN σ to k 0 0 (nI 0) 0 0 1 1 L) (sN σ) = 1 := by rw [e10, ud_at]
  have l6 : c_len (addN σ to k 0 0 (nI 0) 0 0 1 1 L) 6 (sN σ) = most := by rw [c_len6, eK]; exact hm
  have l7 : c_len (addN σ to k 0 0 (nI 0) 0 0 1 1 L) 7 (sN σ) = most := l6
  have l8 : c_len (addN σ to k 0 0 (nI 0) 0 0 1 1 L) 8 (sN σ) = kc := by
    show (if sK (addN σ to k 0 0 (nI 0) 0 0 1 1 L) (sN σ) = 6 then 8 else 1) = kc
    rw [eK]; exact hc
  have h := keep_fin (X := X) (d := d) (Q := Q) (A := M.1 + 4) (Λ := Λ) (β := β) (k := k) (a := 5) (g := g5) (f := f5) (to := to) (x := 0) (y := 0) (p := 0) (dd := 0) (lv := 1) (gv := 1) (v := nI 0) (x' := x') (L := L) (F := F) (Ls := [(4, .inr (1, [.ref (M.1 + 1), .ref (M.1 + 1 + 1), .ref (M.1 + 1 + 1 + 1), .int x'])), (most, .inl (0, most, .inl (F 6))), (most, .inl (0, most, .inl (F 7))), (kc, .inl (0, kc, .inl (F 8))), (13, .inr (0, [.int (nI k), .int (nI 1), .int (nI 1), .ref M.1, .int (nI 0), .null, .null, .null, .null, .int 0, .int 0, .int 0, .int 0]))]) hW hL hlt hn (gf5 h2) hto rfl rfl (fun j hj => by
    have hj5 : j = 0 ∨ j = 1 ∨ j = 2 ∨ j = 3 ∨ j = 4 := by
      have : j < 5 := hj
      omega
    rcases hj5 with rfl | rfl | rfl | rfl | rfl
    · exact cell5_st.symm
    · exact (cell5_a (j := 1) (by decide) l6).symm
    · exact (cell5_a (j := 2) (by decide) l7).symm
    · exact (cell5_a (j := 3) (by decide) l8).symm
    · exact (cell5_n eK hk eL eG).symm)
  exact h
theorem opC_make (hW : WF T σ) (hL : LK Λ σ) (hlt : ∀ q t, Λ.2 q = some t → q < M.1) (hS : StRel σ β) {to kind : Int32} : opC X (d + 16) Λ σ β M 15 [.int to, .int kind] (sp_make σ to kind) exA := by
  have qh := fun h Q => Lc_isHandle_eq (X := X) (d := d + 15) (M := mm_C Λ σ β M) (Q := Q) (h := h)
  rcases bad_cases to with h1 | ⟨h1, t, ht, rfl⟩
  · have qb := qh to
    rw [h1] at qb
    refine opC.no (β' := β) 1 (by decide) (by simp only [sp_make, h1, true_or, if_true]) hS fun Q => ?_
    simp (disch := omega) only [e_15, w_15_0, w_15_1, w_15_4, w_15_7, w_15_8, w_15_11, w_15_12, w_15_14, w_15_17, w_15_18, w_15_21, w_15_22, w_15_25, w_15_26, w_15_27, w_15_28, w_15_31, w_15_32, w_15_35, w_15_38, w_15_39, w_15_41, w_15_42, w_15_45, w_15_48, w_15_51, w_15_52, w_15_54, w_15_56, w_15_59, w_15_60, w_15_61, w_15_62, w_15_65, w_15_66, w_15_67, w_15_68, w_15_69, w_15_72, w_15_75, mm_k_none, mm_k_int, mm_k_ref, mm_k_null, mm_K_inl, mm_tl_some, mm_tl_none, mm_fg_ok, mm_rc_ok, mm_fp_ok, mm_ai_ok, mm_si_ok, mm_az_ok, mm_sz_ok, z01, z11, zb, b2i_t, b2i_f, true_and, and_true, c_g0, c_g1, c_g2, c_g3, c_g4, c_g5, c_g6, c_g7, c_g8, c_g9, c_g10, c_g11, c_g12, c_gl, c_o0, c_o1, c_o2, c_o3, c_ol, c_s0, c_s1, c_s2, c_s3, c_sl, Nat.zero_le, Nat.not_lt_zero, if_true, if_false, m1_lt, m1_ge, mm_inT, pk_mul, nI_add, mm_in_nI, mm_cl_nI, nI_eq, nI_ltI, nI_leI, ↓reduceIte, Nat.add_zero, Nat.reduceLeDiff, oI_some, oI_none, m1_lt, nI_lt0, Rf_fail_eq, Rf_out_eq, eq_self, not_true_eq_false, not_false_eq_true, Nat.reduceEqDiff, Nat.reduceLT, ne_eq, or_true, true_or, or_false, false_or, decide_true, decide_false, Bool.true_eq_false, Bool.false_eq_true, b2i_ne, mm_K_inr, mm_G_ok, c_skip, rf_n, rf_s, Lc_needTold_1, Lc_needTold_0, Lc_needTold_eq, Lc_needRoom_1, Lc_needRoom_0, Lc_needRoom_eq, Lc_needPlace_1, Lc_needPlace_0, Lc_needPlace_eq, Lc_needThere_1, Lc_needThere_0, Lc_needThere_eq, Lc_needSupported_1, Lc_needSupported_0, Lc_needSupported_eq, qb, Bool.not_true, Bool.not_false]
    rfl
  · have ht1 : (nI t).toNatClampNeg = t := nI_clamp (by omega)
    have qb := qh (nI t)
    rw [h1] at qb
    by_cases hk : kind = nI 0 ∨ kind = nI 6
    · have hc : ¬ (bad (nI t) = true ∨ ¬ (kind = nI 0 ∨ kind = nI 6)) := by
        rintro (z | z)
        · rw [h1] at z; cases z
        · exact z hk
      by_cases hr : sN σ = 40 ∨ 3 < 1 ∨ 6 < 1
      · have esp : sp_make σ (nI t) kind = bade σ 2 := by simp only [sp_make, if_neg hc, crt, if_pos hr]
        have qroom := fun Q => Lc_roomN_no (X := X) (d := d + 8) (β := β) (M := M) (Q := Q) hW hL (lv := 1) (hv := 1) (by decide) (by decide) hr
        refine opC.no (β' := β) 2 (by decide) esp hS fun Q => ?_
        rcases hk with rfl | rfl
        · simp (disch := omega) only [e_15, w_15_0, w_15_1, w_15_4, w_15_7, w_15_8, w_15_11, w_15_12, w_15_14, w_15_17, w_15_18, w_15_21, w_15_22, w_15_25, w_15_26, w_15_27, w_15_28, w_15_31, w_15_32, w_15_35, w_15_38, w_15_39, w_15_41, w_15_42, w_15_45, w_15_48, w_15_51, w_15_52, w_15_54, w_15_56, w_15_59, w_15_60, w_15_61, w_15_62, w_15_65, w_15_66, w_15_67, w_15_68, w_15_69, w_15_72, w_15_75, mm_k_none, mm_k_int, mm_k_ref, mm_k_null, mm_K_inl, mm_tl_some, mm_tl_none, mm_fg_ok, mm_rc_ok, mm_fp_ok, mm_ai_ok, mm_si_ok, mm_az_ok, mm_sz_ok, z01, z11, zb, b2i_t, b2i_f, true_and, and_true, c_g0, c_g1, c_g2, c_g3, c_g4, c_g5, c_g6, c_g7, c_g8, c_g9, c_g10, c_g11, c_g12, c_gl, c_o0, c_o1, c_o2, c_o3, c_ol, c_s0, c_s1, c_s2, c_s3, c_sl, Nat.zero_le, Nat.not_lt_zero, if_true, if_false, m1_lt, m1_ge, mm_inT, pk_mul, nI_add, mm_in_nI, mm_cl_nI, nI_eq, nI_ltI, nI_leI, ↓reduceIte, Nat.add_zero, Nat.reduceLeDiff, oI_some, oI_none, m1_lt, nI_lt0, Rf_fail_eq, Rf_out_eq, eq_self, not_true_eq_false, not_false_eq_true, Nat.reduceEqDiff, Nat.reduceLT, ne_eq, or_true, true_or, or_false, false_or, decide_true, decide_false, Bool.true_eq_false, Bool.false_eq_true, b2i_ne, mm_K_inr, mm_G_ok, c_skip, rf_n, rf_s, Lc_needTold_1, Lc_needTold_0, Lc_needTold_eq, Lc_needRoom_1, Lc_needRoom_0, Lc_needRoom_eq, Lc_needPlace_1, Lc_needPlace_0, Lc_needPlace_eq, Lc_needThere_1, Lc_needThere_0, Lc_needThere_eq, Lc_needSupported_1, Lc_needSupported_0, Lc_needSupported_eq, qb, Bool.not_true, Bool.not_false, c_obj_at hL, qroom]
          rfl
        · simp (disch := omega) only [e_15, w_15_0, w_15_1, w_15_4, w_15_7, w_15_8, w_15_11, w_15_12, w_15_14, w_15_17, w_15_18, w_15_21, w_15_22, w_15_25, w_15_26, w_15_27, w_15_28, w_15_31, w_15_32, w_15_35, w_15_38, w_15_39, w_15_41, w_15_42, w_15_45, w_15_48, w_15_51, w_15_52, w_15_54, w_15_56, w_15_59, w_15_60, w_15_61, w_15_62, w_15_65, w_15_66, w_15_67, w_15_68, w_15_69, w_15_72, w_15_75, mm_k_none, mm_k_int, mm_k_ref, mm_k_null, mm_K_inl, mm_tl_some, mm_tl_none, mm_fg_ok, mm_rc_ok, mm_fp_ok, mm_ai_ok, mm_si_ok, mm_az_ok, mm_sz_ok, z01, z11, zb, b2i_t, b2i_f, true_and, and_true, c_g0, c_g1, c_g2, c_g3, c_g4, c_g5, c_g6, c_g7, c_g8, c_g9, c_g10, c_g11, c_g12, c_gl, c_o0, c_o1, c_o2, c_o3, c_ol, c_s0, c_s1, c_s2, c_s3, c_sl, Nat.zero_le, Nat.not_lt_zero, if_true, if_false, m1_lt, m1_ge, mm_inT, pk_mul, nI_add, mm_in_nI, mm_cl_nI, nI_eq, nI_ltI, nI_leI, ↓reduceIte, Nat.add_zero, Nat.reduceLeDiff, oI_some, oI_none, m1_lt, nI_lt0, Rf_fail_eq, Rf_out_eq, eq_self, not_true_eq_false, not_false_eq_true, Nat.reduceEqDiff, Nat.reduceLT, ne_eq, or_true, true_or, or_false, false_or, decide_true, decide_false, Bool.true_eq_false, Bool.false_eq_true, b2i_ne, mm_K_inr, mm_G_ok, c_skip, rf_n, rf_s, Lc_needTold_1, Lc_needTold_0, Lc_needTold_eq, Lc_needRoom_1, Lc_needRoom_0, Lc_needRoom_eq, Lc_needPlace_1, Lc_needPlace_0, Lc_needPlace_eq, Lc_needThere_1, Lc_needThere_0, Lc_needThere_eq, Lc_needSupported_1, Lc_needSupported_0, Lc_needSupported_eq, qb, Bool.not_true, Bool.not_false, c_obj_at hL, qroom]
          rfl
      · have hn : sN σ < 40 := by have := hW.n40; omega
        have qroom := fun Q => Lc_roomN_ok (X := X) (d := d + 8) (β := β) (M := M) (Q := Q) hW hL (lv := 1) (hv := 1) (by decide) (by decide) hr
        have esp : sp_make σ (nI t) kind = (0, nI (sN σ + 1), addN σ t kind.toNatClampNeg 0 0 (nI 0) 0 0 1 1 []) := by simp only [sp_make, if_neg hc, crt, if_neg hr, ht1]
        rcases hk with rfl | rfl
        · refine opC.made (k := 0) (a := 5) (g := g5) (f := f5) (s := 50) (β1 := β) (F := fun _ _ => 0) (x' := 0) hL hlt (gf5 rfl) esp (StRel_new hW hS (k := 0) (L := []) rfl rfl rfl rfl rfl (fun _ => rfl) (fun _ i h => absurd h (Nat.not_lt_zero i)) (fun _ _ => rfl) (fun _ _ => rfl) (fun _ => rfl)) (by decide) (by decide) fun Q => ?_
          have l0 := hlt _ _ (hL.2.1 0 (by decide))
          simp (disch := first | omega | (simp only [mm_push_1, mm_C_1]; omega)) only [e_15, w_15_0, w_15_1, w_15_4, w_15_7, w_15_8, w_15_11, w_15_12, w_15_14, w_15_17, w_15_18, w_15_21, w_15_22, w_15_25, w_15_26, w_15_27, w_15_28, w_15_31, w_15_32, w_15_35, w_15_38, w_15_39, w_15_41, w_15_42, w_15_45, w_15_48, w_15_51, w_15_52, w_15_54, w_15_56, w_15_59, w_15_60, w_15_61, w_15_62, w_15_65, w_15_66, w_15_67, w_15_68, w_15_69, w_15_72, w_15_75, mm_k_none, mm_k_int, mm_k_ref, mm_k_null, mm_K_inl, mm_tl_some, mm_tl_none, mm_fg_ok, mm_rc_ok, mm_fp_ok, mm_ai_ok, mm_si_ok, mm_az_ok, mm_sz_ok, z01, z11, zb, b2i_t, b2i_f, true_and, and_true, c_g0, c_g1, c_g2, c_g3, c_g4, c_g5, c_g6, c_g7, c_g8, c_g9, c_g10, c_g11, c_g12, c_gl, c_o0, c_o1, c_o2, c_o3, c_ol, c_s0, c_s1, c_s2, c_s3, c_sl, Nat.zero_le, Nat.not_lt_zero, if_true, if_false, m1_lt, m1_ge, mm_inT, pk_mul, nI_add, mm_in_nI, mm_cl_nI, nI_eq, nI_ltI, nI_leI, ↓reduceIte, Nat.add_zero, Nat.reduceLeDiff, oI_some, oI_none, m1_lt, nI_lt0, Rf_fail_eq, Rf_out_eq, eq_self, not_true_eq_false, not_false_eq_true, Nat.reduceEqDiff, Nat.reduceLT, ne_eq, or_true, true_or, or_false, false_or, decide_true, decide_false, Bool.true_eq_false, Bool.false_eq_true, b2i_ne, mm_K_inr, mm_G_ok, c_skip, rf_n, rf_s, Lc_needTold_1, Lc_needTold_0, Lc_needTold_eq, Lc_needRoom_1, Lc_needRoom_0, Lc_needRoom_eq, Lc_needPlace_1, Lc_needPlace_0, Lc_needPlace_eq, Lc_needThere_1, Lc_needThere_0, Lc_needThere_eq, Lc_needSupported_1, Lc_needSupported_0, Lc_needSupported_eq, qb, Bool.not_true, Bool.not_false, c_obj_at hL, qroom, St_new, Nd_newS, mm_push_ne]
          refine (keep5 (F := fun _ _ => 0) (x' := 0) (L := []) (k := 0) hW hL hlt hn rfl ht rfl rfl).trans ?_
          simp (disch := omega) only [w_15_0, w_15_1, w_15_4, w_15_7, w_15_8, w_15_11, w_15_12, w_15_14, w_15_17, w_15_18, w_15_21, w_15_22, w_15_25, w_15_26, w_15_27, w_15_28, w_15_31, w_15_32, w_15_35, w_15_38, w_15_39, w_15_41, w_15_42, w_15_45, w_15_48, w_15_51, w_15_52, w_15_54, w_15_56, w_15_59, w_15_60, w_15_61, w_15_62, w_15_65, w_15_66, w_15_67, w_15_68, w_15_69, w_15_72, w_15_75, mm_k_none, mm_k_int, mm_k_ref, mm_k_null, mm_K_inl, mm_tl_some, mm_tl_none, mm_fg_ok, mm_rc_ok, mm_fp_ok, mm_ai_ok, mm_si_ok, mm_az_ok, mm_sz_ok, z01, z11, zb, b2i_t, b2i_f, true_and, and_true, c_g0, c_g1, c_g2, c_g3, c_g4, c_g5, c_g6, c_g7, c_g8, c_g9, c_g10, c_g11, c_g12, c_gl, c_o0, c_o1, c_o2, c_o3, c_ol, c_s0, c_s1, c_s2, c_s3, c_sl, Nat.zero_le, Nat.not_lt_zero, if_true, if_false, m1_lt, m1_ge, mm_inT, pk_mul, nI_add, mm_in_nI, mm_cl_nI, nI_eq, nI_ltI, nI_leI, ↓reduceIte, Nat.add_zero, Nat.reduceLeDiff, oI_some, oI_none, m1_lt, nI_lt0, Rf_fail_eq, Rf_out_eq, eq_self, not_true_eq_false, not_false_eq_true, Nat.reduceEqDiff, Nat.reduceLT, ne_eq, or_true, true_or, or_false, false_or, decide_true, decide_false, Bool.true_eq_false, Bool.false_eq_true, b2i_ne]
        · refine opC.made (k := 6) (a := 5) (g := g5) (f := f5) (s := 73) (β1 := β) (F := fun _ _ => 0) (x' := 0) hL hlt (gf5 rfl) esp (StRel_new hW hS (k := 6) (L := []) rfl rfl rfl rfl rfl (fun _ => rfl) (fun _ i h => absurd h (Nat.not_lt_zero i)) (fun _ _ => rfl) (fun _ _ => rfl) (fun _ => rfl)) (by decide) (by decide) fun Q => ?_
          have l0 := hlt _ _ (hL.2.1 0 (by decide))
          simp (disch := first | omega | (simp only [mm_push_1, mm_C_1]; omega)) only [e_15, w_15_0, w_15_1, w_15_4, w_15_7, w_15_8, w_15_11, w_15_12, w_15_14, w_15_17, w_15_18, w_15_21, w_15_22, w_15_25, w_15_26, w_15_27, w_15_28, w_15_31, w_15_32, w_15_35, w_15_38, w_15_39, w_15_41, w_15_42, w_15_45, w_15_48, w_15_51, w_15_52, w_15_54, w_15_56, w_15_59, w_15_60, w_15_61, w_15_62, w_15_65, w_15_66, w_15_67, w_15_68, w_15_69, w_15_72, w_15_75, mm_k_none, mm_k_int, mm_k_ref, mm_k_null, mm_K_inl, mm_tl_some, mm_tl_none, mm_fg_ok, mm_rc_ok, mm_fp_ok, mm_ai_ok, mm_si_ok, mm_az_ok, mm_sz_ok, z01, z11, zb, b2i_t, b2i_f, true_and, and_true, c_g0, c_g1, c_g2, c_g3, c_g4, c_g5, c_g6, c_g7, c_g8, c_g9, c_g10, c_g11, c_g12, c_gl, c_o0, c_o1, c_o2, c_o3, c_ol, c_s0, c_s1, c_s2, c_s3, c_sl, Nat.zero_le, Nat.not_lt_zero, if_true, if_false, m1_lt, m1_ge, mm_inT, pk_mul, nI_add, mm_in_nI, mm_cl_nI, nI_eq, nI_ltI, nI_leI, ↓reduceIte, Nat.add_zero, Nat.reduceLeDiff, oI_some, oI_none, m1_lt, nI_lt0, Rf_fail_eq, Rf_out_eq, eq_self, not_true_eq_false, not_false_eq_true, Nat.reduceEqDiff, Nat.reduceLT, ne_eq, or_true, true_or, or_false, false_or, decide_true, decide_false, Bool.true_eq_false, Bool.false_eq_true, b2i_ne, mm_K_inr, mm_G_ok, c_skip, rf_n, rf_s, Lc_needTold_1, Lc_needTold_0, Lc_needTold_eq, Lc_needRoom_1, Lc_needRoom_0, Lc_needRoom_eq, Lc_needPlace_1, Lc_needPlace_0, Lc_needPlace_eq, Lc_needThere_1, Lc_needThere_0, Lc_needThere_eq, Lc_needSupported_1, Lc_needSupported_0, Lc_needSupported_eq, qb, Bool.not_true, Bool.not_false, c_obj_at hL, qroom, St_new, Nd_newS, mm_push_ne]
          refine (keep5 (F := fun _ _ => 0) (x' := 0) (L := []) (k := 6) hW hL hlt hn rfl ht rfl rfl).trans ?_
          simp (disch := omega) only [w_15_0, w_15_1, w_15_4, w_15_7, w_15_8, w_15_11, w_15_12, w_15_14, w_15_17, w_15_18, w_15_21, w_15_22, w_15_25, w_15_26, w_15_27, w_15_28, w_15_31, w_15_32, w_15_35, w_15_38, w_15_39, w_15_41, w_15_42, w_15_45, w_15_48, w_15_51, w_15_52, w_15_54, w_15_56, w_15_59, w_15_60, w_15_61, w_15_62, w_15_65, w_15_66, w_15_67, w_15_68, w_15_69, w_15_72, w_15_75, mm_k_none, mm_k_int, mm_k_ref, mm_k_null, mm_K_inl, mm_tl_some, mm_tl_none, mm_fg_ok, mm_rc_ok, mm_fp_ok, mm_ai_ok, mm_si_ok, mm_az_ok, mm_sz_ok, z01, z11, zb, b2i_t, b2i_f, true_and, and_true, c_g0, c_g1, c_g2, c_g3, c_g4, c_g5, c_g6, c_g7, c_g8, c_g9, c_g10, c_g11, c_g12, c_gl, c_o0, c_o1, c_o2, c_o3, c_ol, c_s0, c_s1, c_s2, c_s3, c_sl, Nat.zero_le, Nat.not_lt_zero, if_true, if_false, m1_lt, m1_ge, mm_inT, pk_mul, nI_add, mm_in_nI, mm_cl_nI, nI_eq, nI_ltI, nI_leI, ↓reduceIte, Nat.add_zero, Nat.reduceLeDiff, oI_some, oI_none, m1_lt, nI_lt0, Rf_fail_eq, Rf_out_eq, eq_self, not_true_eq_false, not_false_eq_true, Nat.reduceEqDiff, Nat.reduceLT, ne_eq, or_true, true_or, or_false, false_or, decide_true, decide_false, Bool.true_eq_false, Bool.false_eq_true, b2i_ne]
    · have hc : bad (nI t) = true ∨ ¬ (kind = nI 0 ∨ kind = nI 6) := Or.inr hk
      have k0 : ¬ kind = nI 0 := fun z => hk (Or.inl z)
      have k6 : ¬ kind = nI 6 := fun z => hk (Or.inr z)
      refine opC.no (β' := β) 1 (by decide) (by simp only [sp_make, if_pos hc]) hS fun Q => ?_
      simp (disch := omega) only [e_15, w_15_0, w_15_1, w_15_4, w_15_7, w_15_8, w_15_11, w_15_12, w_15_14, w_15_17, w_15_18, w_15_21, w_15_22, w_15_25, w_15_26, w_15_27, w_15_28, w_15_31, w_15_32, w_15_35, w_15_38, w_15_39, w_15_41, w_15_42, w_15_45, w_15_48, w_15_51, w_15_52, w_15_54, w_15_56, w_15_59, w_15_60, w_15_61, w_15_62, w_15_65, w_15_66, w_15_67, w_15_68, w_15_69, w_15_72, w_15_75, mm_k_none, mm_k_int, mm_k_ref, mm_k_null, mm_K_inl, mm_tl_some, mm_tl_none, mm_fg_ok, mm_rc_ok, mm_fp_ok, mm_ai_ok, mm_si_ok, mm_az_ok, mm_sz_ok, z01, z11, zb, b2i_t, b2i_f, true_and, and_true, c_g0, c_g1, c_g2, c_g3, c_g4, c_g5, c_g6, c_g7, c_g8, c_g9, c_g10, c_g11, c_g12, c_gl, c_o0, c_o1, c_o2, c_o3, c_ol, c_s0, c_s1, c_s2, c_s3, c_sl, Nat.zero_le, Nat.not_lt_zero, if_true, if_false, m1_lt, m1_ge, mm_inT, pk_mul, nI_add, mm_in_nI, mm_cl_nI, nI_eq, nI_ltI, nI_leI, ↓reduceIte, Nat.add_zero, Nat.reduceLeDiff, oI_some, oI_none, m1_lt, nI_lt0, Rf_fail_eq, Rf_out_eq, eq_self, not_true_eq_false, not_false_eq_true, Nat.reduceEqDiff, Nat.reduceLT, ne_eq, or_true, true_or, or_false, false_or, decide_true, decide_false, Bool.true_eq_false, Bool.false_eq_true, b2i_ne, mm_K_inr, mm_G_ok, c_skip, rf_n, rf_s, Lc_needTold_1, Lc_needTold_0, Lc_needTold_eq, Lc_needRoom_1, Lc_needRoom_0, Lc_needRoom_eq, Lc_needPlace_1, Lc_needPlace_0, Lc_needPlace_eq, Lc_needThere_1, Lc_needThere_0, Lc_needThere_eq, Lc_needSupported_1, Lc_needSupported_0, Lc_needSupported_eq, qb, Bool.not_true, Bool.not_false, k0, k6]
      rfl
end CL29
