/-! the class: stores are read -/
theorem nI_lt00 {n : Nat} (h : n < 2147483648) : ¬ nI n < 0 := nI_pos h
theorem mm_cpT {n0 n1 a b c : Nat} {f g : Nat → Int32} {K : mm_O → Prop} (h0 : a + c ≤ n0) (h1 : b + c ≤ n1) (g0 : n0 < 2147483648) (g1 : n1 < 2147483648) : mm_cp (some (.inl (0, n0, .inl f))) (some (.inl (0, n1, .inl g))) (nI a) (nI b) (nI c) K = K (.inl (0, n1, .inl (va_cpy f g a b c))) := by
  have ha : a < 2147483648 := by omega
  have hb : b < 2147483648 := by omega
  have hc : c < 2147483648 := by omega
  show (¬ (nI a < 0 ∨ nI b < 0 ∨ nI c < 0 ∨ n0 < (nI a).toNatClampNeg + (nI c).toNatClampNeg ∨ n1 < (nI b).toNatClampNeg + (nI c).toNatClampNeg) ∧ K (.inl (0, n1, .inl (va_cpy f g (nI a).toNatClampNeg (nI b).toNatClampNeg (nI c).toNatClampNeg)))) = _
  rw [nI_clamp ha, nI_clamp hb, nI_clamp hc]
  have e : (¬ (nI a < 0 ∨ nI b < 0 ∨ nI c < 0 ∨ n0 < a + c ∨ n1 < b + c)) = True := by
    apply eq_true
    rintro (z | z | z | z | z)
    · exact nI_lt00 ha z
    · exact nI_lt00 hb z
    · exact nI_lt00 hc z
    · omega
    · omega
  rw [e, true_and]
/-- a row that elements are written into -/
def isB (σ : Sg) (c m : Nat) : Prop := ((c = 2 ∨ c = 3) ∧ m = 0) ∨ ((c = 9 ∨ c = 10) ∧ m < sN σ ∧ kTwo (sK σ m) = true)
def bfAt (β : CS) (c m : Nat) (L : List Int32) : Prop := ∀ i (hi : i < L.length), β.1 c m i = L[i]
/-- the first with this key -/
def fsK (key : Nat) : List (Nat × Int32) → Nat
  | [] => 0
  | p :: ps => if p.1 = key then 0 else fsK key ps + 1
def ctK (key : Nat) : List (Nat × Int32) → Nat
  | [] => 0
  | p :: ps => (if p.1 = key then 1 else 0) + ctK key ps
theorem fsK_le {key : Nat} : ∀ P, fsK key P ≤ P.length
  | [] => Nat.le_refl _
  | p :: ps => by
    have := fsK_le (key := key) ps
    unfold fsK
    simp only [List.length_cons]
    split <;> omega
theorem ctK_le {key : Nat} : ∀ P, ctK key P ≤ P.length
  | [] => Nat.le_refl _
  | p :: ps => by
    have := ctK_le (key := key) ps
    unfold ctK
    simp only [List.length_cons]
    split <;> omega
/-- the keys, each where it differs from the one before -/
def dk : Option Nat → List (Nat × Int32) → List Nat
  | _, [] => []
  | pr, p :: ps => if pr = some p.1 then dk (some p.1) ps else p.1 :: dk (some p.1) ps
theorem dk_le : ∀ (P : List (Nat × Int32)) (pr : Option Nat), (dk pr P).length ≤ P.length
  | [], _ => Nat.le_refl _
  | p :: ps, pr => by
    have := dk_le ps (some p.1)
    unfold dk
    split <;> simp <;> omega
section CL4
variable {X : Nat × Nat × (Nat → Int32)} {d T n c m : Nat} {Λ : Lay} {σ : Sg} {β : CS} {M : mm_M} {Q : mm_Out → mm_M → Prop}
theorem isB_A (hL : LK Λ σ) (h : isB σ c m) : Λ.2 (Λ.1 c m) = some (c, m) := by
  rcases h with ⟨z | z, rfl⟩ | ⟨z, h1, h2⟩
  · subst z; exact hL.2.1 2 (by decide)
  · subst z; exact hL.2.1 3 (by decide)
  · exact (hL.2.2 m h1).2.2 h2 c z
theorem isB_c (h : isB σ c m) : c = 2 ∨ c = 3 ∨ c = 9 ∨ c = 10 := by
  rcases h with ⟨z | z, -⟩ | ⟨z | z, -⟩ <;> omega
theorem c_b_at (hL : LK Λ σ) (h : isB σ c m) : (mm_C Λ σ β M).2.2 (Λ.1 c m) = some (.inl (0, c_len σ c m, .inl (β.1 c m))) := by
  rw [c_at (isB_A hL h)]
  have := isB_c h
  unfold c_cell
  rw [if_neg (by omega), if_neg (by omega), if_neg (by omega), if_neg (by omega)]
theorem c_set_b (hL : LK Λ σ) (h : isB σ c m) {f : Nat → Int32} : mm_set (mm_C Λ σ β M) (Λ.1 c m) (.inl (0, c_len σ c m, .inl f)) = mm_C Λ σ (c_put β c m f) M := c_set_arr hL (isB_A hL h) (by have := isB_c h; omega) rfl
theorem c_len_le (hW : WF T σ) (h : isB σ c m) : c_len σ c m ≤ 72 := by
  rcases h with ⟨z | z, rfl⟩ | ⟨z, h1, h2⟩
  · subst z; exact Nat.le_refl _
  · subst z; exact Nat.le_refl _
  · have hk1 : kOne (sK σ m) = true := by simp [kTwo] at h2; simp [kOne]; omega
    have h3 := hW.o h1 hk1
    have h4 := hW.t h1 h2
    have g1 := hW.lg (show sO σ m < sN σ by omega)
    have g2 := hW.lg (show sT σ m < sN σ by omega)
    rcases z with z | z
    · subst z
      show 24 * sL σ (sO σ m) ≤ 72
      omega
    · subst z
      show 24 * sL σ (sT σ m) ≤ 72
      omega
theorem c_len6 : c_len σ 6 n = (if sK σ n = 0 then 16 else 24) := rfl
theorem c_len7 : c_len σ 7 n = c_len σ 6 n := rfl
theorem c_len6_le : c_len σ 6 n ≤ 24 := by
  rw [c_len6]
  split <;> omega
theorem St_countOf_lp (hL : LK Λ σ) (hn : n < sN σ) (hk : kS (sK σ n) = true) {P : List (Nat × Int32)} (hP : holds β n P) (h8 : ∀ p, p ∈ P → p.1 < 8) (hl : P.length ≤ c_len σ 6 n) {key : Nat} (hkey : key < 8) : ∀ (j k s : Nat), j + k = P.length → s ≤ k → WP X d 6 4 [some (.ref (Λ.1 5 n)), some (.int (nI key)), some (.int (nI s)), some (.int (nI k))] [] (mm_C Λ σ β M) Q = Q (.inl (some (.int (nI (s + ctK key (P.drop k)))))) (mm_C Λ σ β M) := by
  have hst := c_st_at (β := β) (M := M) hL hn hk
  have h7 := c_arr_at (β := β) (M := M) hL hn hk (c := 7) (Or.inr (Or.inl rfl))
  have g := c_len6_le (σ := σ) (n := n)
  have g7 : c_len σ 7 n = c_len σ 6 n := rfl
  intro j
  induction j with
  | zero =>
    intro k s hk2 hs
    have e : P.length ≤ k := by omega
    rw [w_6_4, List.drop_eq_nil_of_le e]
    simp (disch := omega) only [w_6_0, w_6_1, w_6_2, w_6_3, w_6_5, w_6_6, w_6_9, w_6_12, w_6_13, w_6_16, w_6_17, w_6_18, w_6_19, w_6_22, w_6_25, w_6_28, w_6_31, w_6_32, mm_k_none, mm_k_int, mm_k_ref, mm_k_null, mm_K_inl, mm_tl_some, mm_tl_none, mm_fg_ok, mm_rc_ok, mm_fp_ok, mm_ai_ok, mm_si_ok, mm_az_ok, mm_sz_ok, z01, z11, zb, b2i_t, b2i_f, true_and, and_true, c_g0, c_g1, c_g2, c_g3, c_g4, c_g5, c_g6, c_g7, c_g8, c_g9, c_g10, c_g11, c_g12, c_gl, c_o0, c_o1, c_o2, c_o3, c_ol, c_s0, c_s1, c_s2, c_s3, c_sl, Nat.zero_le, Nat.not_lt_zero, if_true, if_false, m1_lt, m1_ge, mm_inT, pk_mul, nI_add, mm_in_nI, mm_cl_nI, nI_eq, nI_ltI, nI_leI, ↓reduceIte, Nat.add_zero, Nat.reduceLeDiff, oI_some, oI_none, m1_lt, nI_lt0, Rf_fail_eq, Rf_out_eq, eq_self, not_true_eq_false, not_false_eq_true, Nat.reduceEqDiff, Nat.reduceLT, ne_eq, or_true, true_or, or_false, false_or, decide_true, decide_false, Bool.true_eq_false, Bool.false_eq_true, b2i_ne, hst, hP.1, e, ctK]
  | succ j ih =>
    intro k s hk2 hs
    have e : ¬ P.length ≤ k := by omega
    have hkl : k < P.length := by omega
    have hd : P.drop k = P[k] :: P.drop (k + 1) := List.drop_eq_getElem_cons hkl
    have hp8 := h8 _ (List.getElem_mem hkl)
    rw [w_6_4, hd]
    unfold ctK
    by_cases hv : P[k].1 = key
    · rw [if_pos hv, ← Nat.add_assoc]
      refine Eq.trans ?_ (ih (k + 1) (s + 1) (by omega) (by omega))
      simp (disch := omega) only [w_6_0, w_6_1, w_6_2, w_6_3, w_6_5, w_6_6, w_6_9, w_6_12, w_6_13, w_6_16, w_6_17, w_6_18, w_6_19, w_6_22, w_6_25, w_6_28, w_6_31, w_6_32, mm_k_none, mm_k_int, mm_k_ref, mm_k_null, mm_K_inl, mm_tl_some, mm_tl_none, mm_fg_ok, mm_rc_ok, mm_fp_ok, mm_ai_ok, mm_si_ok, mm_az_ok, mm_sz_ok, z01, z11, zb, b2i_t, b2i_f, true_and, and_true, c_g0, c_g1, c_g2, c_g3, c_g4, c_g5, c_g6, c_g7, c_g8, c_g9, c_g10, c_g11, c_g12, c_gl, c_o0, c_o1, c_o2, c_o3, c_ol, c_s0, c_s1, c_s2, c_s3, c_sl, Nat.zero_le, Nat.not_lt_zero, if_true, if_false, m1_lt, m1_ge, mm_inT, pk_mul, nI_add, mm_in_nI, mm_cl_nI, nI_eq, nI_ltI, nI_leI, ↓reduceIte, Nat.add_zero, Nat.reduceLeDiff, oI_some, oI_none, m1_lt, nI_lt0, Rf_fail_eq, Rf_out_eq, eq_self, not_true_eq_false, not_false_eq_true, Nat.reduceEqDiff, Nat.reduceLT, ne_eq, or_true, true_or, or_false, false_or, decide_true, decide_false, Bool.true_eq_false, Bool.false_eq_true, b2i_ne, hst, h7, hP.1, e, (hP.2 k hkl).2, hv]
    · rw [if_neg hv, Nat.zero_add]
      refine Eq.trans ?_ (ih (k + 1) s (by omega) (by omega))
      simp (disch := omega) only [w_6_0, w_6_1, w_6_2, w_6_3, w_6_5, w_6_6, w_6_9, w_6_12, w_6_13, w_6_16, w_6_17, w_6_18, w_6_19, w_6_22, w_6_25, w_6_28, w_6_31, w_6_32, mm_k_none, mm_k_int, mm_k_ref, mm_k_null, mm_K_inl, mm_tl_some, mm_tl_none, mm_fg_ok, mm_rc_ok, mm_fp_ok, mm_ai_ok, mm_si_ok, mm_az_ok, mm_sz_ok, z01, z11, zb, b2i_t, b2i_f, true_and, and_true, c_g0, c_g1, c_g2, c_g3, c_g4, c_g5, c_g6, c_g7, c_g8, c_g9, c_g10, c_g11, c_g12, c_gl, c_o0, c_o1, c_o2, c_o3, c_ol, c_s0, c_s1, c_s2, c_s3, c_sl, Nat.zero_le, Nat.not_lt_zero, if_true, if_false, m1_lt, m1_ge, mm_inT, pk_mul, nI_add, mm_in_nI, mm_cl_nI, nI_eq, nI_ltI, nI_leI, ↓reduceIte, Nat.add_zero, Nat.reduceLeDiff, oI_some, oI_none, m1_lt, nI_lt0, Rf_fail_eq, Rf_out_eq, eq_self, not_true_eq_false, not_false_eq_true, Nat.reduceEqDiff, Nat.reduceLT, ne_eq, or_true, true_or, or_false, false_or, decide_true, decide_false, Bool.true_eq_false, Bool.false_eq_true, b2i_ne, hst, h7, hP.1, e, (hP.2 k hkl).2, hv]
theorem St_countOf_eq (hL : LK Λ σ) (hn : n < sN σ) (hk : kS (sK σ n) = true) {P : List (Nat × Int32)} (hP : holds β n P) (h8 : ∀ p, p ∈ P → p.1 < 8) (hl : P.length ≤ c_len σ 6 n) {key : Nat} (hkey : key < 8) : WPC X d 6 [.ref (Λ.1 5 n), .int (nI key)] (mm_C Λ σ β M) Q = Q (.inl (some (.int (nI (ctK key P))))) (mm_C Λ σ β M) := by
  simp (disch := omega) only [e_6, w_6_0, w_6_1, w_6_2, w_6_3, w_6_5, w_6_6, w_6_9, w_6_12, w_6_13, w_6_16, w_6_17, w_6_18, w_6_19, w_6_22, w_6_25, w_6_28, w_6_31, w_6_32, mm_k_none, mm_k_int, mm_k_ref, mm_k_null, mm_K_inl, mm_tl_some, mm_tl_none, mm_fg_ok, mm_rc_ok, mm_fp_ok, mm_ai_ok, mm_si_ok, mm_az_ok, mm_sz_ok, z01, z11, zb, b2i_t, b2i_f, true_and, and_true, Nat.zero_le, Nat.not_lt_zero, if_true, if_false, m1_lt, m1_ge, mm_inT, pk_mul, nI_add, mm_in_nI, mm_cl_nI, nI_eq, nI_ltI, nI_leI, ↓reduceIte, Nat.add_zero, Nat.reduceLeDiff, oI_some, oI_none, m1_lt, nI_lt0, Rf_fail_eq, Rf_out_eq, eq_self, not_true_eq_false, not_false_eq_true, Nat.reduceEqDiff, Nat.reduceLT, ne_eq, or_true, true_or, or_false, false_or, decide_true, decide_false, Bool.true_eq_false, Bool.false_eq_true, b2i_ne]
  rw [St_countOf_lp hL hn hk hP h8 hl hkey P.length 0 0 (by omega) (by omega), List.drop_zero, Nat.zero_add]
theorem St_firstOf_lp (hL : LK Λ σ) (hn : n < sN σ) (hk : kS (sK σ n) = true) {P : List (Nat × Int32)} (hP : holds β n P) (h8 : ∀ p, p ∈ P → p.1 < 8) (hl : P.length ≤ c_len σ 6 n) {key : Nat} (hkey : key < 8) : ∀ (j k : Nat), j + k = P.length → WP X d 7 2 [some (.ref (Λ.1 5 n)), some (.int (nI key)), some (.int (nI k))] [] (mm_C Λ σ β M) Q = Q (.inl (some (.int (nI (k + fsK key (P.drop k)))))) (mm_C Λ σ β M) := by
  have hst := c_st_at (β := β) (M := M) hL hn hk
  have h7 := c_arr_at (β := β) (M := M) hL hn hk (c := 7) (Or.inr (Or.inl rfl))
  have g := c_len6_le (σ := σ) (n := n)
  have g7 : c_len σ 7 n = c_len σ 6 n := rfl
  intro j
  induction j with
  | zero =>
    intro k hk2
    have e : P.length ≤ k := by omega
    rw [w_7_2, List.drop_eq_nil_of_le e]
    simp (disch := omega) only [w_7_0, w_7_1, w_7_3, w_7_4, w_7_7, w_7_10, w_7_11, w_7_14, w_7_15, w_7_16, w_7_17, w_7_20, w_7_23, w_7_26, w_7_27, mm_k_none, mm_k_int, mm_k_ref, mm_k_null, mm_K_inl, mm_tl_some, mm_tl_none, mm_fg_ok, mm_rc_ok, mm_fp_ok, mm_ai_ok, mm_si_ok, mm_az_ok, mm_sz_ok, z01, z11, zb, b2i_t, b2i_f, true_and, and_true, c_g0, c_g1, c_g2, c_g3, c_g4, c_g5, c_g6, c_g7, c_g8, c_g9, c_g10, c_g11, c_g12, c_gl, c_o0, c_o1, c_o2, c_o3, c_ol, c_s0, c_s1, c_s2, c_s3, c_sl, Nat.zero_le, Nat.not_lt_zero, if_true, if_false, m1_lt, m1_ge, mm_inT, pk_mul, nI_add, mm_in_nI, mm_cl_nI, nI_eq, nI_ltI, nI_leI, ↓reduceIte, Nat.add_zero, Nat.reduceLeDiff, oI_some, oI_none, m1_lt, nI_lt0, Rf_fail_eq, Rf_out_eq, eq_self, not_true_eq_false, not_false_eq_true, Nat.reduceEqDiff, Nat.reduceLT, ne_eq, or_true, true_or, or_false, false_or, decide_true, decide_false, Bool.true_eq_false, Bool.false_eq_true, b2i_ne, hst, hP.1, e, fsK]
  | succ j ih =>
    intro k hk2
    have e : ¬ P.length ≤ k := by omega
    have hkl : k < P.length := by omega
    have hd : P.drop k = P[k] :: P.drop (k + 1) := List.drop_eq_getElem_cons hkl
    have hp8 := h8 _ (List.getElem_mem hkl)
    rw [w_7_2, hd]
    unfold fsK
    by_cases hv : P[k].1 = key
    · rw [if_pos hv]
      simp (disch := omega) only [w_7_0, w_7_1, w_7_3, w_7_4, w_7_7, w_7_10, w_7_11, w_7_14, w_7_15, w_7_16, w_7_17, w_7_20, w_7_23, w_7_26, w_7_27, mm_k_none, mm_k_int, mm_k_ref, mm_k_null, mm_K_inl, mm_tl_some, mm_tl_none, mm_fg_ok, mm_rc_ok, mm_fp_ok, mm_ai_ok, mm_si_ok, mm_az_ok, mm_sz_ok, z01, z11, zb, b2i_t, b2i_f, true_and, and_true, c_g0, c_g1, c_g2, c_g3, c_g4, c_g5, c_g6, c_g7, c_g8, c_g9, c_g10, c_g11, c_g12, c_gl, c_o0, c_o1, c_o2, c_o3, c_ol, c_s0, c_s1, c_s2, c_s3, c_sl, Nat.zero_le, Nat.not_lt_zero, if_true, if_false, m1_lt, m1_ge, mm_inT, pk_mul, nI_add, mm_in_nI, mm_cl_nI, nI_eq, nI_ltI, nI_leI, ↓reduceIte, Nat.add_zero, Nat.reduceLeDiff, oI_some, oI_none, m1_lt, nI_lt0, Rf_fail_eq, Rf_out_eq, eq_self, not_true_eq_false, not_false_eq_true, Nat.reduceEqDiff, Nat.reduceLT, ne_eq, or_true, true_or, or_false, false_or, decide_true, decide_false, Bool.true_eq_false, Bool.false_eq_true, b2i_ne, hst, h7, hP.1, e, (hP.2 k hkl).2, hv]
    · rw [if_neg hv, Nat.add_comm (fsK key (P.drop (k + 1))) 1, ← Nat.add_assoc]
      refine Eq.trans ?_ (ih (k + 1) (by omega))
      simp (disch := omega) only [w_7_0, w_7_1, w_7_3, w_7_4, w_7_7, w_7_10, w_7_11, w_7_14, w_7_15, w_7_16, w_7_17, w_7_20, w_7_23, w_7_26, w_7_27, mm_k_none, mm_k_int, mm_k_ref, mm_k_null, mm_K_inl, mm_tl_some, mm_tl_none, mm_fg_ok, mm_rc_ok, mm_fp_ok, mm_ai_ok, mm_si_ok, mm_az_ok, mm_sz_ok, z01, z11, zb, b2i_t, b2i_f, true_and, and_true, c_g0, c_g1, c_g2, c_g3, c_g4, c_g5, c_g6, c_g7, c_g8, c_g9, c_g10, c_g11, c_g12, c_gl, c_o0, c_o1, c_o2, c_o3, c_ol, c_s0, c_s1, c_s2, c_s3, c_sl, Nat.zero_le, Nat.not_lt_zero, if_true, if_false, m1_lt, m1_ge, mm_inT, pk_mul, nI_add, mm_in_nI, mm_cl_nI, nI_eq, nI_ltI, nI_leI, ↓reduceIte, Nat.add_zero, Nat.reduceLeDiff, oI_some, oI_none, m1_lt, nI_lt0, Rf_fail_eq, Rf_out_eq, eq_self, not_true_eq_false, not_false_eq_true, Nat.reduceEqDiff, Nat.reduceLT, ne_eq, or_true, true_or, or_false, false_or, decide_true, decide_false, Bool.true_eq_false, Bool.false_eq_true, b2i_ne, hst, h7, hP.1, e, (hP.2 k hkl).2, hv]
theorem St_firstOf_eq (hL : LK Λ σ) (hn : n < sN σ) (hk : kS (sK σ n) = true) {P : List (Nat × Int32)} (hP : holds β n P) (h8 : ∀ p, p ∈ P → p.1 < 8) (hl : P.length ≤ c_len σ 6 n) {key : Nat} (hkey : key < 8) : WPC X d 7 [.ref (Λ.1 5 n), .int (nI key)] (mm_C Λ σ β M) Q = Q (.inl (some (.int (nI (fsK key P))))) (mm_C Λ σ β M) := by
  simp (disch := omega) only [e_7, w_7_0, w_7_1, w_7_3, w_7_4, w_7_7, w_7_10, w_7_11, w_7_14, w_7_15, w_7_16, w_7_17, w_7_20, w_7_23, w_7_26, w_7_27, mm_k_none, mm_k_int, mm_k_ref, mm_k_null, mm_K_inl, mm_tl_some, mm_tl_none, mm_fg_ok, mm_rc_ok, mm_fp_ok, mm_ai_ok, mm_si_ok, mm_az_ok, mm_sz_ok, z01, z11, zb, b2i_t, b2i_f, true_and, and_true, Nat.zero_le, Nat.not_lt_zero, if_true, if_false, m1_lt, m1_ge, mm_inT, pk_mul, nI_add, mm_in_nI, mm_cl_nI, nI_eq, nI_ltI, nI_leI, ↓reduceIte, Nat.add_zero, Nat.reduceLeDiff, oI_some, oI_none, m1_lt, nI_lt0, Rf_fail_eq, Rf_out_eq, eq_self, not_true_eq_false, not_false_eq_true, Nat.reduceEqDiff, Nat.reduceLT, ne_eq, or_true, true_or, or_false, false_or, decide_true, decide_false, Bool.true_eq_false, Bool.false_eq_true, b2i_ne]
  rw [St_firstOf_lp hL hn hk hP h8 hl hkey P.length 0 (by omega), List.drop_zero, Nat.zero_add]
theorem St_fillAll_eq (hW : WF T σ) (hL : LK Λ σ) (hn : n < sN σ) (hk : kS (sK σ n) = true) {P : List (Nat × Int32)} (hP : holds β n P) (hl : P.length ≤ c_len σ 6 n) (hB : isB σ c m) (hl2 : P.length ≤ c_len σ c m) : ∃ f, bfAt (c_put β c m f) c m (P.map (·.2)) ∧ ∀ Q, WPC X (d + 1) 3 [.ref (Λ.1 5 n), .ref (Λ.1 c m)] (mm_C Λ σ β M) Q = Q (.inl (some (.int (nI P.length)))) (mm_C Λ σ (c_put β c m f) M) := by
  have hst := fun β => c_st_at (β := β) (M := M) hL hn hk
  have h6 := c_arr_at (β := β) (M := M) hL hn hk (c := 6) (Or.inl rfl)
  have g := c_len6_le (σ := σ) (n := n)
  have g2 := c_len_le hW hB
  refine ⟨va_cpy (β.1 6 n) (β.1 c m) 0 0 P.length, fun i hi => ?_, fun Q => ?_⟩
  · rw [List.length_map] at hi
    rw [c_put_at, pk_cpy_in (by omega) (by omega), List.getElem_map, ← (hP.2 i hi).1, show 0 + (i - 0) = i by omega]
  · simp (disch := omega) only [e_3, w_3_0, w_3_1, w_3_4, w_3_5, w_3_6, w_3_7, w_3_8, w_3_11, w_3_14, w_3_15, w_3_18, mm_k_none, mm_k_int, mm_k_ref, mm_k_null, mm_K_inl, mm_tl_some, mm_tl_none, mm_fg_ok, mm_rc_ok, mm_fp_ok, mm_ai_ok, mm_si_ok, mm_az_ok, mm_sz_ok, z01, z11, zb, b2i_t, b2i_f, true_and, and_true, c_g0, c_g1, c_g2, c_g3, c_g4, c_g5, c_g6, c_g7, c_g8, c_g9, c_g10, c_g11, c_g12, c_gl, c_o0, c_o1, c_o2, c_o3, c_ol, c_s0, c_s1, c_s2, c_s3, c_sl, Nat.zero_le, Nat.not_lt_zero, if_true, if_false, m1_lt, m1_ge, mm_inT, pk_mul, nI_add, mm_in_nI, mm_cl_nI, nI_eq, nI_ltI, nI_leI, ↓reduceIte, Nat.add_zero, Nat.reduceLeDiff, oI_some, oI_none, m1_lt, nI_lt0, Rf_fail_eq, Rf_out_eq, eq_self, not_true_eq_false, not_false_eq_true, Nat.reduceEqDiff, Nat.reduceLT, ne_eq, or_true, true_or, or_false, false_or, decide_true, decide_false, Bool.true_eq_false, Bool.false_eq_true, b2i_ne, hst, h6, hP.1, c_b_at hL hB, mm_cpT, c_set_b hL hB, c_put_2]
theorem St_fillOf_eq (hW : WF T σ) (hL : LK Λ σ) (hn : n < sN σ) (hk : kS (sK σ n) = true) {P : List (Nat × Int32)} (hP : holds β n P) (h8 : ∀ p, p ∈ P → p.1 < 8) (hl : P.length ≤ c_len σ 6 n) {key : Nat} (hkey : key < 8) (hB : isB σ c m) {L : List Int32} (hL1 : ctK key P = L.length) (hL2 : ∀ i (hi : i < L.length), ∃ h : fsK key P + i < P.length, P[fsK key P + i].2 = L[i]) (hl2 : L.length ≤ c_len σ c m) : ∃ f, bfAt (c_put β c m f) c m L ∧ ∀ Q, WPC X (d + 1) 5 [.ref (Λ.1 5 n), .int (nI key), .ref (Λ.1 c m)] (mm_C Λ σ β M) Q = Q (.inl (some (.int (nI L.length)))) (mm_C Λ σ (c_put β c m f) M) := by
  have hst := fun β => c_st_at (β := β) (M := M) hL hn hk
  have h6 := c_arr_at (β := β) (M := M) hL hn hk (c := 6) (Or.inl rfl)
  have g := c_len6_le (σ := σ) (n := n)
  have g2 := c_len_le hW hB
  have hfl : fsK key P + L.length ≤ P.length := by
    have := fsK_le (key := key) P
    by_cases z : L.length = 0
    · omega
    · obtain ⟨h, -⟩ := hL2 (L.length - 1) (by omega)
      omega
  have hct := fun d Q => St_countOf_eq (X := X) (d := d) (M := M) (Q := Q) hL hn hk hP h8 hl hkey
  have hfs := fun d Q => St_firstOf_eq (X := X) (d := d) (M := M) (Q := Q) hL hn hk hP h8 hl hkey
  rw [hL1] at hct
  refine ⟨va_cpy (β.1 6 n) (β.1 c m) (fsK key P) 0 L.length, fun i hi => ?_, fun Q => ?_⟩
  · obtain ⟨h, e⟩ := hL2 i hi
    rw [c_put_at, pk_cpy_in (by omega) (by omega), ← e, ← (hP.2 _ h).1, show i - 0 = i by omega]
  · simp (disch := omega) only [e_5, w_5_0, w_5_1, w_5_2, w_5_5, w_5_6, w_5_7, w_5_10, w_5_11, w_5_12, w_5_15, w_5_16, w_5_17, w_5_18, w_5_21, w_5_22, mm_k_none, mm_k_int, mm_k_ref, mm_k_null, mm_K_inl, mm_tl_some, mm_tl_none, mm_fg_ok, mm_rc_ok, mm_fp_ok, mm_ai_ok, mm_si_ok, mm_az_ok, mm_sz_ok, z01, z11, zb, b2i_t, b2i_f, true_and, and_true, c_g0, c_g1, c_g2, c_g3, c_g4, c_g5, c_g6, c_g7, c_g8, c_g9, c_g10, c_g11, c_g12, c_gl, c_o0, c_o1, c_o2, c_o3, c_ol, c_s0, c_s1, c_s2, c_s3, c_sl, Nat.zero_le, Nat.not_lt_zero, if_true, if_false, m1_lt, m1_ge, mm_inT, pk_mul, nI_add, mm_in_nI, mm_cl_nI, nI_eq, nI_ltI, nI_leI, ↓reduceIte, Nat.add_zero, Nat.reduceLeDiff, oI_some, oI_none, m1_lt, nI_lt0, Rf_fail_eq, Rf_out_eq, eq_self, not_true_eq_false, not_false_eq_true, Nat.reduceEqDiff, Nat.reduceLT, ne_eq, or_true, true_or, or_false, false_or, decide_true, decide_false, Bool.true_eq_false, Bool.false_eq_true, b2i_ne, hst, h6, hct, hfs, c_b_at hL hB, mm_cpT, c_set_b hL hB]
end CL4
