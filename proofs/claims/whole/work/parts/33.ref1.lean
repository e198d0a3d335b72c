/-! the reference holds a state; its small methods -/
def oI (o : Option Nat) : Int32 := match o with
  | some n => nI n
  | none => -1
def RRel (σ : Sg) (ρ : RS) : Prop := ρ.2.1 = nI (sN σ) ∧ (∀ h, h < 10 → ρ.2.2 1 h = oI (sH σ h)) ∧
  (∀ n, n < sN σ → ρ.2.2 2 n = nI (sK σ n) ∧ ρ.2.2 3 n = (if kOne (sK σ n) = true then nI (sO σ n) else -1) ∧ ρ.2.2 4 n = (if kTwo (sK σ n) = true then nI (sT σ n) else -1) ∧ ρ.2.2 5 n = sV σ n ∧ (sK σ n = 4 → ρ.2.2 6 n = nI (sP σ n) ∧ ρ.2.2 7 n = nI (sD σ n)) ∧ ρ.2.2 8 n = nI (sL σ n) ∧ ρ.2.2 9 n = nI (sG σ n)) ∧
  (∀ l, l < 320 → ρ.2.2 11 l = nI (sS σ l).length ∧ ρ.2.2 12 l = nI (sC σ l) ∧ ∀ i (hi : i < (sS σ l).length), ρ.2.2 10 (24 * l + i) = (sS σ l)[i]) ∧
  (∀ n, n < 40 → ρ.2.2 14 n = nI (sR σ n).length ∧ ∀ i (hi : i < (sR σ n).length), ρ.2.2 13 (8 * n + i) = nI (sR σ n)[i])
theorem nI_m1 {n : Nat} (h : n < 2147483648) : ¬ nI n = -1 := by
  intro z
  have h1 := nI_toInt h
  rw [z] at h1
  have h2 : (-1 : Int32).toInt = -1 := by decide
  rw [h2] at h1
  omega
theorem m1_lt : ((-1 : Int32) < nI 0) = True := by decide
theorem mm_inT {n N : Nat} (h : n < N) (hN : N < 2147483648) : mm_in (nI n) N = True := by simp [mm_in_nI (Nat.lt_trans h hN), h]
theorem m1_ge : (nI 0 ≤ (-1 : Int32)) = False := by decide
/-- the nodes alone, but for what PARTs note -/
def RNo (σ : Sg) (ρ : RS) : Prop := (∀ n, n < sN σ → ρ.2.2 2 n = nI (sK σ n) ∧ ρ.2.2 3 n = (if kOne (sK σ n) = true then nI (sO σ n) else -1) ∧ ρ.2.2 5 n = sV σ n) ∧ ∀ l, l < 320 → ρ.2.2 12 l = nI (sC σ l)
theorem RRel.no {σ : Sg} {ρ : RS} (h : RRel σ ρ) : RNo σ ρ := ⟨fun n hn => ⟨(h.2.2.1 n hn).1, (h.2.2.1 n hn).2.1, (h.2.2.1 n hn).2.2.2.1⟩, fun l hl => (h.2.2.2.1 l hl).2.1⟩
section RF2
variable {X : Nat × Nat × (Nat → Int32)} {d rm T n : Nat} {σ : Sg} {ρ : RS} {M : mm_M} {Q : mm_Out → mm_M → Prop}
theorem RRel.k (h : RRel σ ρ) (hn : n < sN σ) : ρ.2.2 2 n = nI (sK σ n) := (h.2.2.1 n hn).1
theorem RRel.o (h : RRel σ ρ) (hn : n < sN σ) (hk : kOne (sK σ n) = true) : ρ.2.2 3 n = nI (sO σ n) := by have := (h.2.2.1 n hn).2.1; rwa [if_pos hk] at this
theorem RRel.o' (h : RRel σ ρ) (hn : n < sN σ) (hk : kOne (sK σ n) = false) : ρ.2.2 3 n = -1 := by have := (h.2.2.1 n hn).2.1; rwa [if_neg (by rw [hk]; decide)] at this
theorem RRel.t (h : RRel σ ρ) (hn : n < sN σ) (hk : kTwo (sK σ n) = true) : ρ.2.2 4 n = nI (sT σ n) := by have := (h.2.2.1 n hn).2.2.1; rwa [if_pos hk] at this
theorem RRel.t' (h : RRel σ ρ) (hn : n < sN σ) (hk : kTwo (sK σ n) = false) : ρ.2.2 4 n = -1 := by have := (h.2.2.1 n hn).2.2.1; rwa [if_neg (by rw [hk]; decide)] at this
theorem RRel.v (h : RRel σ ρ) (hn : n < sN σ) : ρ.2.2 5 n = sV σ n := (h.2.2.1 n hn).2.2.2.1
theorem RNo.k (h : RNo σ ρ) (hn : n < sN σ) : ρ.2.2 2 n = nI (sK σ n) := (h.1 n hn).1
theorem RNo.o (h : RNo σ ρ) (hn : n < sN σ) (hk : kOne (sK σ n) = true) : ρ.2.2 3 n = nI (sO σ n) := by have := (h.1 n hn).2.1; rwa [if_pos hk] at this
theorem RNo.v (h : RNo σ ρ) (hn : n < sN σ) : ρ.2.2 5 n = sV σ n := (h.1 n hn).2.2
theorem WF.n40 (h : WF T σ) : sN σ ≤ 40 := h.1
theorem WF.k12 (h : WF T σ) (hn : n < sN σ) : sK σ n < 12 := (h.2.2.2.1 n hn).1
theorem WF.o (h : WF T σ) (hn : n < sN σ) (hk : kOne (sK σ n) = true) : sO σ n < n := (h.2.2.2.1 n hn).2.1 hk
theorem WF.t (h : WF T σ) (hn : n < sN σ) (hk : kTwo (sK σ n) = true) : sT σ n < n := (h.2.2.2.1 n hn).2.2.1 hk
theorem WF.row (h : WF T σ) (hn : n < sN σ) (hk : kBased (sK σ n) = true) : kRow (sK σ (sO σ n)) = true := (h.2.2.2.1 n hn).2.2.2.1 hk
theorem WF.map (h : WF T σ) (hn : n < sN σ) (hk : sK σ n = 7 ∨ sK σ n = 8) : sK σ (sO σ n) = 6 := (h.2.2.2.1 n hn).2.2.2.2.1 hk
theorem kB_one {k : Nat} (h : kBased k = true) : kOne k = true := by simp [kBased] at h; simp [kOne]; omega
theorem Rf_row_eq (hW : WF T σ) (hR : RNo σ ρ) (hn : n < sN σ) : WPC X d 87 [.ref rm, .int (nI n)] (mm_R rm ρ M) Q = Q (.inl (some (.int (b2i (kRow (sK σ n)))))) (mm_R rm ρ M) := by
  have h40 := hW.n40
  have h12 := hW.k12 hn
  have hk := hR.k hn
  apply WP_det
  change WPC X d 87 [.ref rm, .int (nI n)] (mm_R rm ρ M) _
  simp (disch := omega) only [e_87, w_87_0, w_87_1, w_87_4, w_87_5, w_87_6, w_87_8, w_87_11, w_87_12, w_87_15, w_87_16, w_87_17, w_87_19, w_87_22, w_87_23, w_87_26, w_87_27, mm_k_none, mm_k_int, mm_k_ref, mm_k_null, mm_K_inl, mm_tl_some, mm_tl_none, mm_fg_ok, mm_rc_ok, mm_fp_ok, mm_ai_ok, mm_si_ok, mm_az_ok, mm_sz_ok, z01, z11, zb, b2i_t, b2i_f, true_and, and_true, r_at, r_at_1, r_at_2, r_at_3, r_at_4, r_at_5, r_at_6, r_at_7, r_at_8, r_at_9, r_at_10, r_at_11, r_at_12, r_at_13, r_at_14, r_at_15, r_at_16, r_at_17, r_set_1, r_set_2, r_set_3, r_set_4, r_set_5, r_set_6, r_set_7, r_set_8, r_set_9, r_set_10, r_set_11, r_set_12, r_set_13, r_set_14, r_set_15, r_set_16, r_set_17, r_set_f, r_set_n, r_g_0, r_g_1, r_g_2, r_g_3, r_g_4, r_g_5, r_g_6, r_g_7, r_g_8, r_g_9, r_g_10, r_g_11, r_g_12, r_g_13, r_g_14, r_g_15, r_g_16, r_g_17, r_g_18, r_olen, Nat.zero_le, Nat.not_lt_zero, if_true, if_false, m1_lt, m1_ge, mm_inT, pk_mul, nI_add, mm_in_nI, mm_cl_nI, nI_eq, nI_ltI, nI_leI, hk]
  by_cases h6 : sK σ n < 6
  · simp [h6, kRow]; (repeat' apply And.intro) <;> first | rfl | omega | assumption | trivial
  · by_cases h7 : sK σ n = 7
    · simp [h7, kRow]; (repeat' apply And.intro) <;> first | rfl | omega | assumption | trivial
    · simp [h6, h7, kRow]; (repeat' apply And.intro) <;> first | rfl | omega | assumption | trivial
theorem Rf_based_eq (hW : WF T σ) (hR : RNo σ ρ) (hn : n < sN σ) : WPC X d 76 [.ref rm, .int (nI n)] (mm_R rm ρ M) Q = Q (.inl (some (.int (b2i (kBased (sK σ n)))))) (mm_R rm ρ M) := by
  have h40 := hW.n40
  have h12 := hW.k12 hn
  have hk := hR.k hn
  apply WP_det
  change WPC X d 76 [.ref rm, .int (nI n)] (mm_R rm ρ M) _
  simp (disch := omega) only [e_76, w_76_0, w_76_1, w_76_4, w_76_5, w_76_6, w_76_7, w_76_10, w_76_11, w_76_14, w_76_15, w_76_16, w_76_17, w_76_20, w_76_21, w_76_24, w_76_25, mm_k_none, mm_k_int, mm_k_ref, mm_k_null, mm_K_inl, mm_tl_some, mm_tl_none, mm_fg_ok, mm_rc_ok, mm_fp_ok, mm_ai_ok, mm_si_ok, mm_az_ok, mm_sz_ok, z01, z11, zb, b2i_t, b2i_f, true_and, and_true, r_at, r_at_1, r_at_2, r_at_3, r_at_4, r_at_5, r_at_6, r_at_7, r_at_8, r_at_9, r_at_10, r_at_11, r_at_12, r_at_13, r_at_14, r_at_15, r_at_16, r_at_17, r_set_1, r_set_2, r_set_3, r_set_4, r_set_5, r_set_6, r_set_7, r_set_8, r_set_9, r_set_10, r_set_11, r_set_12, r_set_13, r_set_14, r_set_15, r_set_16, r_set_17, r_set_f, r_set_n, r_g_0, r_g_1, r_g_2, r_g_3, r_g_4, r_g_5, r_g_6, r_g_7, r_g_8, r_g_9, r_g_10, r_g_11, r_g_12, r_g_13, r_g_14, r_g_15, r_g_16, r_g_17, r_g_18, r_olen, Nat.zero_le, Nat.not_lt_zero, if_true, if_false, m1_lt, m1_ge, mm_inT, pk_mul, nI_add, mm_in_nI, mm_cl_nI, nI_eq, nI_ltI, nI_leI, hk]
  by_cases h6 : sK σ n < 3
  · have h7 : ¬ 3 ≤ sK σ n := by omega
    simp [h6, h7, kBased]; (repeat' apply And.intro) <;> first | rfl | omega | assumption | trivial
  · by_cases h7 : sK σ n ≤ 5
    · have h8 : 3 ≤ sK σ n := by omega
      have h9 : ¬ 5 < sK σ n := by omega
      simp [h6, h7, h8, h9, kBased]; (repeat' apply And.intro) <;> first | rfl | omega | assumption | trivial
    · have h8 : 3 ≤ sK σ n := by omega
      have h9 : 5 < sK σ n := by omega
      simp [h6, h7, h8, h9, kBased]; (repeat' apply And.intro) <;> first | rfl | omega | assumption | trivial
theorem Rf_leaf_lp (hW : WF T σ) (hR : RNo σ ρ) : ∀ (n : Nat) (l1 : Option Value), n < sN σ → WP X (d + 1) 75 2 [some (.ref rm), l1, some (.int (nI n))] [] (mm_R rm ρ M) Q = Q (.inl (some (.int (nI (lf σ n))))) (mm_R rm ρ M) := by
  intro n
  induction n using Nat.strongRecOn with
  | _ n ih =>
    intro l1 hn
    have h40 := hW.n40
    rw [lf_at hW hn]
    rw [w_75_2]
    simp (disch := omega) only [w_75_0, w_75_1, w_75_3, w_75_4, w_75_7, w_75_10, w_75_11, w_75_14, w_75_15, w_75_16, w_75_17, w_75_20, w_75_21, mm_k_none, mm_k_int, mm_k_ref, mm_k_null, mm_K_inl, mm_tl_some, mm_tl_none, mm_fg_ok, mm_rc_ok, mm_fp_ok, mm_ai_ok, mm_si_ok, mm_az_ok, mm_sz_ok, z01, z11, zb, b2i_t, b2i_f, true_and, and_true, r_at, r_at_1, r_at_2, r_at_3, r_at_4, r_at_5, r_at_6, r_at_7, r_at_8, r_at_9, r_at_10, r_at_11, r_at_12, r_at_13, r_at_14, r_at_15, r_at_16, r_at_17, r_set_1, r_set_2, r_set_3, r_set_4, r_set_5, r_set_6, r_set_7, r_set_8, r_set_9, r_set_10, r_set_11, r_set_12, r_set_13, r_set_14, r_set_15, r_set_16, r_set_17, r_set_f, r_set_n, r_g_0, r_g_1, r_g_2, r_g_3, r_g_4, r_g_5, r_g_6, r_g_7, r_g_8, r_g_9, r_g_10, r_g_11, r_g_12, r_g_13, r_g_14, r_g_15, r_g_16, r_g_17, r_g_18, r_olen, Nat.zero_le, Nat.not_lt_zero, if_true, if_false, m1_lt, m1_ge, mm_inT, pk_mul, nI_add, mm_in_nI, mm_cl_nI, nI_eq, nI_ltI, nI_leI, Rf_based_eq hW hR hn, b2i_ne]
    cases hk : kBased (sK σ n) with
    | false => simp (disch := omega) only [w_75_0, w_75_1, w_75_3, w_75_4, w_75_7, w_75_10, w_75_11, w_75_14, w_75_15, w_75_16, w_75_17, w_75_20, w_75_21, mm_k_none, mm_k_int, mm_k_ref, mm_k_null, mm_K_inl, mm_tl_some, mm_tl_none, mm_fg_ok, mm_rc_ok, mm_fp_ok, mm_ai_ok, mm_si_ok, mm_az_ok, mm_sz_ok, z01, z11, zb, b2i_t, b2i_f, true_and, and_true, if_true, Bool.false_eq_true, if_false]
    | true =>
      have h1 := hW.o hn (kB_one hk)
      simp (disch := omega) only [w_75_0, w_75_1, w_75_3, w_75_4, w_75_7, w_75_10, w_75_11, w_75_14, w_75_15, w_75_16, w_75_17, w_75_20, w_75_21, mm_k_none, mm_k_int, mm_k_ref, mm_k_null, mm_K_inl, mm_tl_some, mm_tl_none, mm_fg_ok, mm_rc_ok, mm_fp_ok, mm_ai_ok, mm_si_ok, mm_az_ok, mm_sz_ok, z01, z11, zb, b2i_t, b2i_f, true_and, and_true, r_at, r_at_1, r_at_2, r_at_3, r_at_4, r_at_5, r_at_6, r_at_7, r_at_8, r_at_9, r_at_10, r_at_11, r_at_12, r_at_13, r_at_14, r_at_15, r_at_16, r_at_17, r_set_1, r_set_2, r_set_3, r_set_4, r_set_5, r_set_6, r_set_7, r_set_8, r_set_9, r_set_10, r_set_11, r_set_12, r_set_13, r_set_14, r_set_15, r_set_16, r_set_17, r_set_f, r_set_n, r_g_0, r_g_1, r_g_2, r_g_3, r_g_4, r_g_5, r_g_6, r_g_7, r_g_8, r_g_9, r_g_10, r_g_11, r_g_12, r_g_13, r_g_14, r_g_15, r_g_16, r_g_17, r_g_18, r_olen, Nat.zero_le, Nat.not_lt_zero, if_true, if_false, m1_lt, m1_ge, mm_inT, pk_mul, nI_add, mm_in_nI, mm_cl_nI, nI_eq, nI_ltI, nI_leI, Bool.true_eq_false, if_false, if_true, hR.o hn (kB_one hk)]
      rw [ih _ h1 _ (by omega)]
theorem lf_lt (hW : WF T σ) : ∀ (n : Nat), n < sN σ → lf σ n ≤ n ∧ kBased (sK σ (lf σ n)) = false := by
  intro n
  induction n using Nat.strongRecOn with
  | _ n ih =>
    intro hn
    rw [lf_at hW hn]
    cases hk : kBased (sK σ n) with
    | false => exact ⟨by simp, by simpa using hk⟩
    | true =>
      have h1 := hW.o hn (kB_one hk)
      have h2 := ih _ h1 (by omega)
      simp
      exact ⟨by omega, h2.2⟩
theorem Rf_leaf_eq (hW : WF T σ) (hR : RNo σ ρ) (hn : n < sN σ) : WPC X (d + 1) 75 [.ref rm, .int (nI n)] (mm_R rm ρ M) Q = Q (.inl (some (.int (nI (lf σ n))))) (mm_R rm ρ M) := by
  simp only [e_75, w_75_0, w_75_1, w_75_3, w_75_4, w_75_7, w_75_10, w_75_11, w_75_14, w_75_15, w_75_16, w_75_17, w_75_20, w_75_21, mm_k_none, mm_k_int, mm_k_ref, mm_k_null, mm_K_inl, mm_tl_some, mm_tl_none, mm_fg_ok, mm_rc_ok, mm_fp_ok, mm_ai_ok, mm_si_ok, mm_az_ok, mm_sz_ok, z01, z11, zb, b2i_t, b2i_f, true_and, and_true]
  exact Rf_leaf_lp hW hR n _ hn
theorem lo_lt (hW : WF T σ) (hn : n < sN σ) {l : Nat} (h : lo σ n = some l) : l < 320 := by
  have h40 := hW.n40
  have h1 := lf_lt hW n hn
  unfold lo at h
  split at h
  · cases h; omega
  · split at h
    · rename_i h7
      cases h
      have h2 := hW.o (n := lf σ n) (by omega) (by simp [kOne, h7])
      have h3 := (hW.2.2.2.1 (lf σ n) (by omega)).2.2.2.2.2.1 h7
      omega
    · cases h
theorem Rf_listOf_eq (hW : WF T σ) (hR : RNo σ ρ) (hn : n < sN σ) : WPC X (d + 2) 74 [.ref rm, .int (nI n)] (mm_R rm ρ M) Q = Q (.inl (some (.int (oI (lo σ n))))) (mm_R rm ρ M) := by
  have h40 := hW.n40
  have h1 := lf_lt hW n hn
  have h12 := hW.k12 (n := lf σ n) (by omega)
  have hk := hR.k (n := lf σ n) (by omega)
  simp (disch := omega) only [e_74, w_74_0, w_74_1, w_74_2, w_74_5, w_74_6, w_74_7, w_74_10, w_74_11, w_74_12, w_74_15, w_74_17, w_74_18, w_74_19, w_74_22, w_74_23, w_74_26, w_74_27, w_74_28, w_74_30, w_74_33, w_74_35, w_74_36, w_74_39, w_74_40, w_74_41, w_74_42, w_74_43, w_74_46, w_74_47, w_74_48, w_74_49, w_74_52, w_74_53, mm_k_none, mm_k_int, mm_k_ref, mm_k_null, mm_K_inl, mm_tl_some, mm_tl_none, mm_fg_ok, mm_rc_ok, mm_fp_ok, mm_ai_ok, mm_si_ok, mm_az_ok, mm_sz_ok, z01, z11, zb, b2i_t, b2i_f, true_and, and_true, r_at, r_at_1, r_at_2, r_at_3, r_at_4, r_at_5, r_at_6, r_at_7, r_at_8, r_at_9, r_at_10, r_at_11, r_at_12, r_at_13, r_at_14, r_at_15, r_at_16, r_at_17, r_set_1, r_set_2, r_set_3, r_set_4, r_set_5, r_set_6, r_set_7, r_set_8, r_set_9, r_set_10, r_set_11, r_set_12, r_set_13, r_set_14, r_set_15, r_set_16, r_set_17, r_set_f, r_set_n, r_g_0, r_g_1, r_g_2, r_g_3, r_g_4, r_g_5, r_g_6, r_g_7, r_g_8, r_g_9, r_g_10, r_g_11, r_g_12, r_g_13, r_g_14, r_g_15, r_g_16, r_g_17, r_g_18, r_olen, Nat.zero_le, Nat.not_lt_zero, if_true, if_false, m1_lt, m1_ge, mm_inT, pk_mul, nI_add, mm_in_nI, mm_cl_nI, nI_eq, nI_ltI, nI_leI, Rf_leaf_eq hW hR hn, hk]
  unfold lo
  by_cases h0 : sK σ (lf σ n) = 0
  · simp [h0, oI]
  · by_cases h7 : sK σ (lf σ n) = 7
    · have h3 := (hW.2.2.2.1 (lf σ n) (by omega)).2.2.2.2.2.1 h7
      have h2 := hW.o (n := lf σ n) (by omega) (by simp [kOne, h7])
      have ho := hR.o (n := lf σ n) (by omega) (by simp [kOne, h7])
      have hv := hR.v (n := lf σ n) (by omega)
      rw [h3.1] at hv
      simp (disch := omega) only [h7, ho, hv, Nat.zero_le, Nat.not_lt_zero, if_true, if_false, m1_lt, m1_ge, mm_inT, pk_mul, nI_add, mm_in_nI, mm_cl_nI, nI_eq, nI_ltI, nI_leI]
      simp [oI]
    · simp [h0, h7, oI]
theorem Rf_changesOf_eq (hW : WF T σ) (hR : RNo σ ρ) (hn : n < sN σ) : WPC X (d + 3) 73 [.ref rm, .int (nI n)] (mm_R rm ρ M) Q = Q (.inl (some (.int (nI (ch σ n))))) (mm_R rm ρ M) := by
  simp (disch := omega) only [e_73, w_73_0, w_73_1, w_73_2, w_73_5, w_73_8, w_73_9, w_73_12, w_73_13, w_73_16, w_73_17, w_73_18, w_73_21, w_73_22, mm_k_none, mm_k_int, mm_k_ref, mm_k_null, mm_K_inl, mm_tl_some, mm_tl_none, mm_fg_ok, mm_rc_ok, mm_fp_ok, mm_ai_ok, mm_si_ok, mm_az_ok, mm_sz_ok, z01, z11, zb, b2i_t, b2i_f, true_and, and_true, r_at, r_at_1, r_at_2, r_at_3, r_at_4, r_at_5, r_at_6, r_at_7, r_at_8, r_at_9, r_at_10, r_at_11, r_at_12, r_at_13, r_at_14, r_at_15, r_at_16, r_at_17, r_set_1, r_set_2, r_set_3, r_set_4, r_set_5, r_set_6, r_set_7, r_set_8, r_set_9, r_set_10, r_set_11, r_set_12, r_set_13, r_set_14, r_set_15, r_set_16, r_set_17, r_set_f, r_set_n, r_g_0, r_g_1, r_g_2, r_g_3, r_g_4, r_g_5, r_g_6, r_g_7, r_g_8, r_g_9, r_g_10, r_g_11, r_g_12, r_g_13, r_g_14, r_g_15, r_g_16, r_g_17, r_g_18, r_olen, Nat.zero_le, Nat.not_lt_zero, if_true, if_false, m1_lt, m1_ge, mm_inT, pk_mul, nI_add, mm_in_nI, mm_cl_nI, nI_eq, nI_ltI, nI_leI, Rf_listOf_eq hW hR hn]
  unfold ch
  cases h : lo σ n with
  | none => simp (disch := omega) only [oI, Nat.zero_le, Nat.not_lt_zero, if_true, if_false, m1_lt, m1_ge, mm_inT, pk_mul, nI_add, mm_in_nI, mm_cl_nI, nI_eq, nI_ltI, nI_leI]
  | some l =>
    have hl := lo_lt hW hn h
    have e2 := hR.2 l hl
    simp (disch := omega) only [oI, Nat.zero_le, Nat.not_lt_zero, if_true, if_false, m1_lt, m1_ge, mm_inT, pk_mul, nI_add, mm_in_nI, mm_cl_nI, nI_eq, nI_ltI, nI_leI, e2, mm_k_none, mm_k_int, mm_k_ref, mm_k_null, mm_K_inl, mm_tl_some, mm_tl_none, mm_fg_ok, mm_rc_ok, mm_fp_ok, mm_ai_ok, mm_si_ok, mm_az_ok, mm_sz_ok, z01, z11, zb, b2i_t, b2i_f, true_and, and_true]
end RF2
