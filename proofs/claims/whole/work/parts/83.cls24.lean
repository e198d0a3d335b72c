/-! the class: objects are made -/
theorem mm_set_set {M : mm_M} {a : Nat} {o o' : mm_O} : mm_set (mm_set M a o) a o' = mm_set M a o' := by
  unfold mm_set
  congr 2
  funext q
  by_cases h : q = a <;> simp [h]
theorem mm_set_push {M : mm_M} {a n : Nat} {o o' : mm_O} (h : a ≠ M.1) : mm_set (mm_push M n o) a o' = mm_push (mm_set M a o') n o := by
  unfold mm_set mm_push
  simp only
  congr 2
  funext q
  by_cases h1 : q = a
  · subst h1
    rw [if_pos rfl, if_neg h, if_pos rfl]
  · rw [if_neg h1, if_neg h1]
theorem mm_set_top {M : mm_M} {n : Nat} {o o' : mm_O} : mm_set (mm_push M n o) M.1 o' = mm_push M n o' := by
  unfold mm_set mm_push
  simp only
  congr 2
  funext q
  by_cases h1 : q = M.1
  · rw [if_pos h1, if_pos h1]
  · rw [if_neg h1, if_neg h1, if_neg h1]
theorem mm_push_1 {M : mm_M} {n : Nat} {o : mm_O} : (mm_push M n o).1 = M.1 + 1 := rfl
theorem mm_set_1 {M : mm_M} {a : Nat} {o : mm_O} : (mm_set M a o).1 = M.1 := rfl
theorem mm_push_at {M : mm_M} {n : Nat} {o : mm_O} : (mm_push M n o).2.2 M.1 = some o := if_pos rfl
theorem mm_push_ne {M : mm_M} {n q : Nat} {o : mm_O} (h : q ≠ M.1) : (mm_push M n o).2.2 q = M.2.2 q := if_neg h
theorem mm_C_1 {Λ : Lay} {σ : Sg} {β : CS} {M : mm_M} : (mm_C Λ σ β M).1 = M.1 := rfl
theorem neg_or_nI {n w : Nat} (h : n * w ≤ 536870912) (hn : n < 2147483648) : (¬ (nI n < 0 ∨ 536870912 < (nI n).toNatClampNeg * w)) = True := by
  rw [nI_clamp hn]
  apply eq_true
  rintro (z | z)
  · exact nI_lt00 hn z
  · omega
section CL25
variable {X : Nat × Nat × (Nat → Int32)} {d : Nat} {M : mm_M} {Q : mm_Out → mm_M → Prop}
def dNode : List Value := [.int 0, .int 0, .int 0, .null, .int 0, .null, .null, .null, .null, .int 0, .int 0, .int 0, .int 0]
def dStore : List Value := [.null, .null, .null, .int 0]
theorem dNode_eq : dNode = [.int 0, .int 0, .int 0, .null, .int 0, .null, .null, .null, .null, .int 0, .int 0, .int 0, .int 0] := rfl
theorem Nd_initS_eq {a st : Nat} {x y : Int32} (h : M.2.2 a = some (.inr (0, dNode))) : WPC X (d + 1) 0 [.ref a, .int x, .ref st, .int y] M Q = Q (.inl none) (mm_set M a (.inr (0, [.int x, .int (nI 1), .int (nI 1), .ref st, .int y, .null, .null, .null, .null, .int 0, .int 0, .int 0, .int 0]))) := by
  rw [dNode_eq] at h
  simp (disch := omega) only [e_0, w_0_0, w_0_1, w_0_4, w_0_5, w_0_6, w_0_9, w_0_10, w_0_11, w_0_14, w_0_15, w_0_16, w_0_19, w_0_20, w_0_21, w_0_24, w_0_25, w_0_26, w_0_29, w_0_30, w_0_31n, w_0_34, w_0_35, w_0_36n, w_0_39, w_0_40, w_0_41n, w_0_44, w_0_45, w_0_46n, w_0_49, mm_k_none, mm_k_int, mm_k_ref, mm_k_null, mm_K_inl, mm_tl_some, mm_tl_none, mm_fg_ok, mm_rc_ok, mm_fp_ok, mm_ai_ok, mm_si_ok, mm_az_ok, mm_sz_ok, z01, z11, zb, b2i_t, b2i_f, true_and, and_true, ↓reduceIte, Nat.add_zero, Nat.reduceLeDiff, oI_some, oI_none, m1_lt, nI_lt0, Rf_fail_eq, Rf_out_eq, eq_self, not_true_eq_false, not_false_eq_true, Nat.reduceEqDiff, Nat.reduceLT, ne_eq, or_true, true_or, or_false, false_or, decide_true, decide_false, Bool.true_eq_false, Bool.false_eq_true, b2i_ne, mm_set_at, mm_set_ne, mm_set_set, mm_set_1, mm_push_1, mm_push_ne, neg_or_nI, List.getElem?_cons_zero, List.getElem?_cons_succ, List.set_cons_zero, List.set_cons_succ, List.length_cons, List.length_nil, Nat.reduceAdd, Nat.reduceLT, h]
theorem Nd_initB_one {a b : Nat} {x : Int32} {fb : List Value} {lb gb : Nat} (h : M.2.2 a = some (.inr (0, dNode))) (hb : M.2.2 b = some (.inr (0, fb))) (hne : b ≠ a) (h1 : fb[1]? = some (.int (nI lb))) (h2 : fb[2]? = some (.int (nI gb))) : WPC X (d + 1) 1 [.ref a, .int x, .ref b, .null] M Q = Q (.inl none) (mm_set M a (.inr (0, [.int x, .int (nI lb), .int (nI (1 + gb)), .null, .int (nI 0), .ref b, .null, .null, .null, .int 0, .int 0, .int 0, .int 0]))) := by
  rw [dNode_eq] at h
  simp (disch := omega) only [e_1, w_1_0, w_1_1, w_1_4, w_1_5, w_1_6, w_1_9, w_1_10, w_1_11, w_1_14, w_1_15, w_1_15n, w_1_16, w_1_16n, w_1_19, w_1_20, w_1_20n, w_1_21, w_1_21n, w_1_24, w_1_25, w_1_28, w_1_31, w_1_32, w_1_35, w_1_35n, w_1_36, w_1_39, w_1_40, w_1_43, w_1_44, w_1_45, w_1_45n, w_1_46, w_1_46n, w_1_49, w_1_50, w_1_53, w_1_56, w_1_57, w_1_60, w_1_60n, w_1_61, w_1_64, w_1_67, w_1_68, w_1_71, w_1_72, w_1_72n, w_1_73, w_1_73n, w_1_76, w_1_77, w_1_80, w_1_81, w_1_84, w_1_86, w_1_87, w_1_89, w_1_89n, w_1_92, w_1_93, w_1_93n, w_1_94, w_1_94n, w_1_97, w_1_98, w_1_101, w_1_101n, w_1_102, w_1_105, w_1_107, w_1_108, w_1_110, w_1_110n, w_1_113, w_1_114, w_1_115n, w_1_118, w_1_119, w_1_120, w_1_123, mm_k_none, mm_k_int, mm_k_ref, mm_k_null, mm_K_inl, mm_tl_some, mm_tl_none, mm_fg_ok, mm_rc_ok, mm_fp_ok, mm_ai_ok, mm_si_ok, mm_az_ok, mm_sz_ok, z01, z11, zb, b2i_t, b2i_f, true_and, and_true, Nat.zero_le, Nat.not_lt_zero, if_true, if_false, m1_lt, m1_ge, mm_inT, pk_mul, nI_add, mm_in_nI, mm_cl_nI, nI_eq, nI_ltI, nI_leI, ↓reduceIte, Nat.add_zero, Nat.reduceLeDiff, oI_some, oI_none, m1_lt, nI_lt0, Rf_fail_eq, Rf_out_eq, eq_self, not_true_eq_false, not_false_eq_true, Nat.reduceEqDiff, Nat.reduceLT, ne_eq, or_true, true_or, or_false, false_or, decide_true, decide_false, Bool.true_eq_false, Bool.false_eq_true, b2i_ne, mm_set_at, mm_set_ne, mm_set_set, mm_set_1, mm_push_1, mm_push_ne, neg_or_nI, List.getElem?_cons_zero, List.getElem?_cons_succ, List.set_cons_zero, List.set_cons_succ, List.length_cons, List.length_nil, Nat.reduceAdd, Nat.reduceLT, h, hb, h1, h2]
end CL25
