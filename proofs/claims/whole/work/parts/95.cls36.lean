/-! the constructors -/
def σ0 : Sg := (0, fun _ => none, fun _ => 0, fun _ => 0, fun _ => 0, fun _ => 0, fun _ => 0, fun _ => 0, fun _ => 0, fun _ => 0, fun _ => [], fun _ => 0, fun _ => [])
def β0 : CS := (fun _ _ _ => 0, fun _ => 0)
def lay0 (x : Nat) : Lay := (fun c _ => x + c, fun q => if x ≤ q ∧ q < x + 4 then some (q - x, 0) else none)
theorem WF_0 : WF 0 σ0 := by
  refine ⟨by decide, by decide, fun h n _ z => (nomatch z), fun n z => absurd z (Nat.not_lt_zero n), fun _ => Nat.le_refl _, fun _ => Nat.zero_le _, fun _ => Nat.zero_le _, fun _ _ => ⟨rfl, fun _ _ => ⟨rfl, rfl⟩⟩⟩
theorem LK_0 {x : Nat} : LK (lay0 x) σ0 := by
  refine ⟨fun q t h => ?_, fun c hc => ?_, fun n z => absurd z (Nat.not_lt_zero n)⟩
  · have h : (if x ≤ q ∧ q < x + 4 then some (q - x, 0) else none) = some t := h
    by_cases z : x ≤ q ∧ q < x + 4
    · rw [if_pos z] at h
      cases h
      refine ⟨?_, fun _ => rfl, fun y => ?_, fun y => ?_⟩
      · show q = x + (q - x)
        omega
      · have y : 4 ≤ q - x := y
        omega
      · have y : 9 ≤ q - x := y
        omega
    · rw [if_neg z] at h
      cases h
  · show (if x ≤ x + c ∧ x + c < x + 4 then some (x + c - x, 0) else none) = some (c, 0)
    rw [if_pos ⟨by omega, by omega⟩, Nat.add_sub_cancel_left]
theorem StRel_0 : StRel σ0 β0 := fun n z => absurd z (Nat.not_lt_zero n)
section CI
variable {X : Nat × Nat × (Nat → Int32)} {d : Nat} {M : mm_M} {Q : mm_Out → mm_M → Prop}
theorem Lc_init_eq : WPC X (d + 1) 14 [.ref M.1] (mm_push M 4 (.inr (2, [.null, .int 0, .null, .null]))) Q = Q (.inl none) (mm_C (lay0 M.1) σ0 β0 (M.1 + 4, M.2.1 + 158, M.2.2)) := by
  have e : mm_pus M [(4, .inr (2, [.ref (M.1 + 1), .int 0, .ref (M.1 + 2), .ref (M.1 + 3)])), (10, .inl (2, 10, .inr (.inr (.inr (.inr (fun _ => none)))))), (72, zArr 72), (72, zArr 72)] = mm_C (lay0 M.1) σ0 β0 (M.1 + 4, M.2.1 + 158, M.2.2) := by
    obtain ⟨a1, a2, a3, a4⟩ := mm_pus_ok [(4, .inr (2, [.ref (M.1 + 1), .int 0, .ref (M.1 + 2), .ref (M.1 + 3)])), (10, .inl (2, 10, .inr (.inr (.inr (.inr (fun _ => none)))))), (72, zArr 72), (72, zArr 72)] M
    generalize mm_pus M _ = N at a1 a2 a3 a4 ⊢
    have ef : ∀ q, N.2.2 q = (match (lay0 M.1).2 q with
      | some t => some (c_cell (lay0 M.1) σ0 β0 t.1 t.2)
      | none => M.2.2 q) := by
      intro q
      by_cases z : M.1 ≤ q ∧ q < M.1 + 4
      · have e2 : (lay0 M.1).2 q = some (q - M.1, 0) := if_pos z
        rw [e2]
        obtain ⟨j, rfl⟩ : ∃ j, q = M.1 + j := ⟨q - M.1, by omega⟩
        rw [a3 j (show j < 4 by omega), Nat.add_sub_cancel_left]
        have hj : j = 0 ∨ j = 1 ∨ j = 2 ∨ j = 3 := by omega
        rcases hj with rfl | rfl | rfl | rfl
        · rfl
        · show some (Sum.inl (2, 10, Sum.inr (Sum.inr (Sum.inr (Sum.inr (fun _ => none)))))) = (some (.inl (2, 10, .inr (.inr (.inr (.inr (c_hand (lay0 M.1) σ0)))))) : Option mm_O)
          have : c_hand (lay0 M.1) σ0 = fun _ => none := by
            funext h
            show (if h < 10 then none else none) = none
            split <;> rfl
          rw [this]
        · rfl
        · rfl
      · have e2 : (lay0 M.1).2 q = none := if_neg z
        rw [e2]
        exact a4 q z
    show (N.1, N.2.1, N.2.2) = (M.1 + 4, M.2.1 + 158, fun q => match (lay0 M.1).2 q with
      | some t => some (c_cell (lay0 M.1) σ0 β0 t.1 t.2)
      | none => M.2.2 q)
    rw [a1, a2, funext ef]
    rfl
  rw [← e]
  simp (disch := first | omega | (simp only [mm_push_1, mm_set_1]; omega) | fail) only [e_14, w_14_0, w_14_1, w_14_4, w_14_5, w_14_7, w_14_10, w_14_13, w_14_14, w_14_16, w_14_18, w_14_21, w_14_22, w_14_24, w_14_26, w_14_29, mm_k_none, mm_k_int, mm_k_ref, mm_k_null, mm_K_inl, mm_tl_some, mm_tl_none, mm_fg_ok, mm_rc_ok, mm_fp_ok, mm_ai_ok, mm_si_ok, mm_az_ok, mm_sz_ok, z01, z11, zb, b2i_t, b2i_f, true_and, and_true, ↓reduceIte, Nat.add_zero, Nat.reduceLeDiff, oI_some, oI_none, m1_lt, nI_lt0, Rf_fail_eq, Rf_out_eq, eq_self, not_true_eq_false, not_false_eq_true, Nat.reduceEqDiff, Nat.reduceLT, ne_eq, or_true, true_or, or_false, false_or, decide_true, decide_false, Bool.true_eq_false, Bool.false_eq_true, b2i_ne, mm_set_at, mm_set_ne, mm_set_set, mm_set_1, mm_push_1, mm_push_ne, neg_or_nI, List.getElem?_cons_zero, List.getElem?_cons_succ, List.set_cons_zero, List.set_cons_succ, List.length_cons, List.length_nil, Nat.reduceAdd, Nat.reduceLT, mm_push_at, mm_set_top, mm_set_push, mm_cl_nI, neg_or_nn, true_and]
  rfl
end CI
