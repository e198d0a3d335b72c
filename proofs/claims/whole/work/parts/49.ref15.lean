/-! the reference: supported, down, full, note -/
def smN (f : Nat → Nat) : Nat → Nat
  | 0 => 0
  | k + 1 => smN f k + f k
theorem smN_R {f : Nat → Nat} : ∀ (m : Nat) (R : List Nat), R.Nodup → (∀ k, k ∈ R → k < m) → (∀ k, k < m → k ∉ R → f k = 0) → (R.map f).sum = smN f m := by
  intro m
  induction m with
  | zero =>
    intro R hn h1 h2
    cases R with
    | nil => rfl
    | cons x R => exact absurd (h1 x (by simp)) (by omega)
  | succ m ih =>
    intro R hn h1 h2
    show _ = smN f m + f m
    by_cases hm : m ∈ R
    · have hp := List.perm_cons_erase hm
      rw [(hp.map f).sum_nat, List.map_cons, List.sum_cons]
      have := ih (R.erase m) (hn.erase m) (fun k hk => by
        have a1 := h1 k (List.mem_of_mem_erase hk)
        have a2 : k ≠ m := fun z => by rw [z] at hk; exact absurd hk (hn.not_mem_erase)
        omega) (fun k hk hk2 => h2 k (by omega) (fun z => hk2 ((List.mem_erase_of_ne (by omega)).2 z)))
      rw [this]
      omega
    · rw [ih R hn (fun k hk => by
        have a1 := h1 k hk
        have a2 : k ≠ m := fun z => by rw [z] at hk; exact hm hk
        omega) (fun k hk hk2 => h2 k (by omega) hk2), h2 m (by omega) hm, Nat.add_zero]
theorem smN_le {f : Nat → Nat} (h : ∀ k, f k ≤ 24) : ∀ m, smN f m ≤ 24 * m
  | 0 => Nat.le_refl _
  | m + 1 => by
    have h1 := smN_le h m
    have h2 := h m
    show smN f m + f m ≤ _
    omega
section RF16
variable {X : Nat × Nat × (Nat → Int32)} {d rm T n m a b N to : Nat} {σ : Sg} {ρ : RS} {M : mm_M} {Q : mm_Out → mm_M → Prop}
theorem supF_irr (hW : WF T σ) (w : Nat) : ∀ (f f' n : Nat), n < sN σ → n < f → n < f' → supF σ w f n = supF σ w f' n := by
  intro f
  induction f with
  | zero => intro f' n _ h; omega
  | succ f ih =>
    intro f' n hn h1 h2
    cases f' with
    | zero => omega
    | succ f' =>
      unfold supF
      cases z : kBased (sK σ n) with
      | false => rfl
      | true =>
        have := hW.o hn (kB_one z)
        rw [ih f' _ (by omega) (by omega) (by omega)]
theorem sup_at (hW : WF T σ) {w : Nat} (hn : n < sN σ) : sup σ w n = if kBased (sK σ n) = true then (if sK σ n = 5 ∧ w ≠ 1 then false else sup σ w (sO σ n)) else decide (sK σ n = 0 ∨ sK σ n = 7 ∨ (w = 1 ∧ (sK σ n = 6 ∨ sK σ n = 8))) := by
  show supF σ w (n + 1) n = _
  unfold supF
  cases z : kBased (sK σ n) with
  | false => rfl
  | true =>
    have := hW.o hn (kB_one z)
    rw [supF_irr hW w n (sO σ n + 1) _ (by omega) (by omega) (by omega)]
    rfl
theorem onF_irr (hW : WF T σ) (k : Nat) : ∀ (f f' n : Nat), n < sN σ → n < f → n < f' → onF σ f n k = onF σ f' n k := by
  intro f
  induction f with
  | zero => intro f' n _ h; omega
  | succ f ih =>
    intro f' n hn h1 h2
    cases f' with
    | zero => omega
    | succ f' =>
      unfold onF
      cases z : kBased (sK σ n) with
      | false => rfl
      | true =>
        have := hW.o hn (kB_one z)
        rw [ih f' _ (by omega) (by omega) (by omega)]
theorem on_at (hW : WF T σ) (hn : n < sN σ) (k : Nat) : onP σ n k = (decide (k = n) || (kBased (sK σ n) && onP σ (sO σ n) k)) := by
  show onF σ (n + 1) n k = _
  unfold onF
  cases z : kBased (sK σ n) with
  | false => rfl
  | true =>
    have := hW.o hn (kB_one z)
    rw [onF_irr hW k n (sO σ n + 1) _ (by omega) (by omega) (by omega)]
    rfl
theorem on_le (hW : WF T σ) {k : Nat} : ∀ (n : Nat), n < sN σ → onP σ n k = true → k ≤ n := by
  intro n
  induction n using Nat.strongRecOn with
  | _ n ih =>
    intro hn h
    rw [on_at hW hn] at h
    simp only [Bool.or_eq_true, Bool.and_eq_true, decide_eq_true_eq] at h
    rcases h with h | ⟨z, h⟩
    · omega
    · have := hW.o hn (kB_one z)
      have := ih _ this (by omega) h
      omega
theorem dnF_irr (hW : WF T σ) (ins : Bool) : ∀ (f f' n i : Nat), n < sN σ → n < f → n < f' → dnF σ ins f n i = dnF σ ins f' n i := by
  intro f
  induction f with
  | zero => intro f' n i _ h; omega
  | succ f ih =>
    intro f' n i hn h1 h2
    cases f' with
    | zero => omega
    | succ f' =>
      unfold dnF
      by_cases z : kBased (sK σ n) = true
      · have := hW.o hn (kB_one z)
        rw [ih f' _ _ (by omega) (by omega) (by omega), ih f' _ _ (by omega) (by omega) (by omega), ih f' _ _ (by omega) (by omega) (by omega)]
      · have z3 : ¬ sK σ n = 3 := fun y => z (by rw [y]; rfl)
        have z4 : ¬ sK σ n = 4 := fun y => z (by rw [y]; rfl)
        have z5 : ¬ sK σ n = 5 := fun y => z (by rw [y]; rfl)
        rw [if_neg z3, if_neg z3, if_neg z4, if_neg z4, if_neg z5, if_neg z5]
theorem dn_at (hW : WF T σ) {ins : Bool} (hn : n < sN σ) (i : Nat) : dn σ ins n i = if sK σ n = 3 then dn σ ins (sO σ n) ((El σ (sO σ n)).length - i - (if ins = true then 0 else 1)) else if sK σ n = 4 then dn σ ins (sO σ n) (i + sB σ n) else if sK σ n = 5 then dn σ ins (sO σ n) i else i := by
  show dnF σ ins (n + 1) n i = _
  unfold dnF
  by_cases z : kBased (sK σ n) = true
  · have := hW.o hn (kB_one z)
    rw [dnF_irr hW ins n (sO σ n + 1) _ _ (by omega) (by omega) (by omega), dnF_irr hW ins n (sO σ n + 1) _ _ (by omega) (by omega) (by omega), dnF_irr hW ins n (sO σ n + 1) _ _ (by omega) (by omega) (by omega)]
    rfl
  · have z3 : ¬ sK σ n = 3 := fun y => z (by rw [y]; rfl)
    have z4 : ¬ sK σ n = 4 := fun y => z (by rw [y]; rfl)
    have z5 : ¬ sK σ n = 5 := fun y => z (by rw [y]; rfl)
    rw [if_neg z3, if_neg z3, if_neg z4, if_neg z4, if_neg z5, if_neg z5]
/-- how long a based row is, by what it stands on -/
theorem len_3 (hW : WF T σ) (hn : n < sN σ) (h : sK σ n = 3) : (El σ n).length = (El σ (sO σ n)).length := by
  rw [El_at hW hn, h]
  show (El σ (sO σ n)).reverse.length = _
  simp
theorem len_5 (hW : WF T σ) (hn : n < sN σ) (h : sK σ n = 5) : (El σ n).length = (El σ (sO σ n)).length := by
  rw [El_at hW hn, h]
  show ((El σ (sO σ n)).map _).length = _
  simp
theorem len_4 (hW : WF T σ) (hn : n < sN σ) (h : sK σ n = 4) (hs : stale σ n = false) : (El σ n).length = sP σ n ∧ sB σ n + sP σ n ≤ (El σ (sO σ n)).length := by
  have h1 := (hW.e0 hn h).2.2.2.2 hs
  refine ⟨?_, h1⟩
  rw [El_at hW hn, h]
  show (((El σ (sO σ n)).drop (sB σ n)).take (sP σ n)).length = _
  simp
  omega
theorem stale_o (hW : WF T σ) (hn : n < sN σ) (hs : stale σ n = false) (hk : kOne (sK σ n) = true) : stale σ (sO σ n) = false := by
  rw [stale_at hW hn] at hs
  simp only [Bool.or_eq_false_iff, Bool.and_eq_false_iff, hk] at hs
  simpa using hs.1.2
theorem Rf_supported_lp (hW : WF T σ) (hR : RNo σ ρ) {w : Nat} (hw : w < 3) : ∀ (n : Nat) (l1 : Option Value), n < sN σ → WP X (d + 1) 97 2 [some (.ref rm), l1, some (.int (nI w)), some (.int (nI n))] [] (mm_R rm ρ M) Q = Q (.inl (some (.int (b2i (sup σ w n))))) (mm_R rm ρ M) := by
  intro n
  induction n using Nat.strongRecOn with
  | _ n ih =>
    intro l1 hn
    have h40 := hW.n40
    have h12 := hW.k12 hn
    have hk := hR.k hn
    rw [sup_at hW hn]
    rw [w_97_2]
    cases hb : kBased (sK σ n) with
    | true =>
      have hbe : ∀ Q, WPC X d 76 [.ref rm, .int (nI n)] (mm_R rm ρ M) Q = Q (.inl (some (.int (b2i true)))) (mm_R rm ρ M) := fun Q => by rw [Rf_based_eq hW hR hn, hb]
      have h1 := hW.o hn (kB_one hb)
      have ho := hR.o hn (kB_one hb)
      by_cases h5 : sK σ n = 5
      · by_cases hw1 : w = 1
        · rw [if_pos rfl, if_neg (by omega)]
          refine Eq.trans ?_ (ih _ h1 l1 (by omega))
          simp (disch := omega) only [w_97_0, w_97_1, w_97_3, w_97_4, w_97_7, w_97_10, w_97_11, w_97_14, w_97_15, w_97_16, w_97_17, w_97_20, w_97_21, w_97_22, w_97_25, w_97_26, w_97_27, w_97_28, w_97_31, w_97_32, w_97_33, w_97_34, w_97_37, w_97_38, w_97_41, w_97_42, w_97_43, w_97_46, w_97_47, w_97_50, w_97_51, w_97_52, w_97_54, w_97_57, w_97_58, w_97_59, w_97_60, w_97_61, w_97_64, w_97_65, w_97_68, w_97_69, w_97_70, w_97_72, w_97_75, w_97_76, w_97_79, w_97_80, w_97_81, w_97_83, w_97_86, w_97_87, w_97_90, w_97_91, mm_k_none, mm_k_int, mm_k_ref, mm_k_null, mm_K_inl, mm_tl_some, mm_tl_none, mm_fg_ok, mm_rc_ok, mm_fp_ok, mm_ai_ok, mm_si_ok, mm_az_ok, mm_sz_ok, z01, z11, zb, b2i_t, b2i_f, true_and, and_true, r_at, r_at_1, r_at_2, r_at_3, r_at_4, r_at_5, r_at_6, r_at_7, r_at_8, r_at_9, r_at_10, r_at_11, r_at_12, r_at_13, r_at_14, r_at_15, r_at_16, r_at_17, r_set_1, r_set_2, r_set_3, r_set_4, r_set_5, r_set_6, r_set_7, r_set_8, r_set_9, r_set_10, r_set_11, r_set_12, r_set_13, r_set_14, r_set_15, r_set_16, r_set_17, r_set_f, r_set_n, r_g_0, r_g_1, r_g_2, r_g_3, r_g_4, r_g_5, r_g_6, r_g_7, r_g_8, r_g_9, r_g_10, r_g_11, r_g_12, r_g_13, r_g_14, r_g_15, r_g_16, r_g_17, r_g_18, r_olen, Nat.zero_le, Nat.not_lt_zero, if_true, if_false, m1_lt, m1_ge, mm_inT, pk_mul, nI_add, mm_in_nI, mm_cl_nI, nI_eq, nI_ltI, nI_leI, ↓reduceIte, Nat.add_zero, Nat.reduceLeDiff, oI_some, oI_none, m1_lt, nI_lt0, Rf_fail_eq, Rf_out_eq, eq_self, not_true_eq_false, not_false_eq_true, Nat.reduceEqDiff, Nat.reduceLT, ne_eq, or_true, true_or, or_false, false_or, decide_true, decide_false, Bool.true_eq_false, Bool.false_eq_true, b2i_ne, hbe, hk, h5, hw1, ho]
        · rw [if_pos rfl, if_pos ⟨h5, hw1⟩]
          simp (disch := omega) only [w_97_0, w_97_1, w_97_3, w_97_4, w_97_7, w_97_10, w_97_11, w_97_14, w_97_15, w_97_16, w_97_17, w_97_20, w_97_21, w_97_22, w_97_25, w_97_26, w_97_27, w_97_28, w_97_31, w_97_32, w_97_33, w_97_34, w_97_37, w_97_38, w_97_41, w_97_42, w_97_43, w_97_46, w_97_47, w_97_50, w_97_51, w_97_52, w_97_54, w_97_57, w_97_58, w_97_59, w_97_60, w_97_61, w_97_64, w_97_65, w_97_68, w_97_69, w_97_70, w_97_72, w_97_75, w_97_76, w_97_79, w_97_80, w_97_81, w_97_83, w_97_86, w_97_87, w_97_90, w_97_91, mm_k_none, mm_k_int, mm_k_ref, mm_k_null, mm_K_inl, mm_tl_some, mm_tl_none, mm_fg_ok, mm_rc_ok, mm_fp_ok, mm_ai_ok, mm_si_ok, mm_az_ok, mm_sz_ok, z01, z11, zb, b2i_t, b2i_f, true_and, and_true, r_at, r_at_1, r_at_2, r_at_3, r_at_4, r_at_5, r_at_6, r_at_7, r_at_8, r_at_9, r_at_10, r_at_11, r_at_12, r_at_13, r_at_14, r_at_15, r_at_16, r_at_17, r_set_1, r_set_2, r_set_3, r_set_4, r_set_5, r_set_6, r_set_7, r_set_8, r_set_9, r_set_10, r_set_11, r_set_12, r_set_13, r_set_14, r_set_15, r_set_16, r_set_17, r_set_f, r_set_n, r_g_0, r_g_1, r_g_2, r_g_3, r_g_4, r_g_5, r_g_6, r_g_7, r_g_8, r_g_9, r_g_10, r_g_11, r_g_12, r_g_13, r_g_14, r_g_15, r_g_16, r_g_17, r_g_18, r_olen, Nat.zero_le, Nat.not_lt_zero, if_true, if_false, m1_lt, m1_ge, mm_inT, pk_mul, nI_add, mm_in_nI, mm_cl_nI, nI_eq, nI_ltI, nI_leI, ↓reduceIte, Nat.add_zero, Nat.reduceLeDiff, oI_some, oI_none, m1_lt, nI_lt0, Rf_fail_eq, Rf_out_eq, eq_self, not_true_eq_false, not_false_eq_true, Nat.reduceEqDiff, Nat.reduceLT, ne_eq, or_true, true_or, or_false, false_or, decide_true, decide_false, Bool.true_eq_false, Bool.false_eq_true, b2i_ne, hbe, hk, h5, hw1, ho, z01]
      · rw [if_pos rfl, if_neg (fun z => h5 z.1)]
        refine Eq.trans ?_ (ih _ h1 l1 (by omega))
        simp (disch := omega) only [w_97_0, w_97_1, w_97_3, w_97_4, w_97_7, w_97_10, w_97_11, w_97_14, w_97_15, w_97_16, w_97_17, w_97_20, w_97_21, w_97_22, w_97_25, w_97_26, w_97_27, w_97_28, w_97_31, w_97_32, w_97_33, w_97_34, w_97_37, w_97_38, w_97_41, w_97_42, w_97_43, w_97_46, w_97_47, w_97_50, w_97_51, w_97_52, w_97_54, w_97_57, w_97_58, w_97_59, w_97_60, w_97_61, w_97_64, w_97_65, w_97_68, w_97_69, w_97_70, w_97_72, w_97_75, w_97_76, w_97_79, w_97_80, w_97_81, w_97_83, w_97_86, w_97_87, w_97_90, w_97_91, mm_k_none, mm_k_int, mm_k_ref, mm_k_null, mm_K_inl, mm_tl_some, mm_tl_none, mm_fg_ok, mm_rc_ok, mm_fp_ok, mm_ai_ok, mm_si_ok, mm_az_ok, mm_sz_ok, z01, z11, zb, b2i_t, b2i_f, true_and, and_true, r_at, r_at_1, r_at_2, r_at_3, r_at_4, r_at_5, r_at_6, r_at_7, r_at_8, r_at_9, r_at_10, r_at_11, r_at_12, r_at_13, r_at_14, r_at_15, r_at_16, r_at_17, r_set_1, r_set_2, r_set_3, r_set_4, r_set_5, r_set_6, r_set_7, r_set_8, r_set_9, r_set_10, r_set_11, r_set_12, r_set_13, r_set_14, r_set_15, r_set_16, r_set_17, r_set_f, r_set_n, r_g_0, r_g_1, r_g_2, r_g_3, r_g_4, r_g_5, r_g_6, r_g_7, r_g_8, r_g_9, r_g_10, r_g_11, r_g_12, r_g_13, r_g_14, r_g_15, r_g_16, r_g_17, r_g_18, r_olen, Nat.zero_le, Nat.not_lt_zero, if_true, if_false, m1_lt, m1_ge, mm_inT, pk_mul, nI_add, mm_in_nI, mm_cl_nI, nI_eq, nI_ltI, nI_leI, ↓reduceIte, Nat.add_zero, Nat.reduceLeDiff, oI_some, oI_none, m1_lt, nI_lt0, Rf_fail_eq, Rf_out_eq, eq_self, not_true_eq_false, not_false_eq_true, Nat.reduceEqDiff, Nat.reduceLT, ne_eq, or_true, true_or, or_false, false_or, decide_true, decide_false, Bool.true_eq_false, Bool.false_eq_true, b2i_ne, hbe, hk, h5, ho]
    | false =>
      have hbe : ∀ Q, WPC X d 76 [.ref rm, .int (nI n)] (mm_R rm ρ M) Q = Q (.inl (some (.int (b2i false)))) (mm_R rm ρ M) := fun Q => by rw [Rf_based_eq hW hR hn, hb]
      rw [if_neg (by decide)]
      by_cases h0 : sK σ n = 0
      · simp (disch := omega) only [w_97_0, w_97_1, w_97_3, w_97_4, w_97_7, w_97_10, w_97_11, w_97_14, w_97_15, w_97_16, w_97_17, w_97_20, w_97_21, w_97_22, w_97_25, w_97_26, w_97_27, w_97_28, w_97_31, w_97_32, w_97_33, w_97_34, w_97_37, w_97_38, w_97_41, w_97_42, w_97_43, w_97_46, w_97_47, w_97_50, w_97_51, w_97_52, w_97_54, w_97_57, w_97_58, w_97_59, w_97_60, w_97_61, w_97_64, w_97_65, w_97_68, w_97_69, w_97_70, w_97_72, w_97_75, w_97_76, w_97_79, w_97_80, w_97_81, w_97_83, w_97_86, w_97_87, w_97_90, w_97_91, mm_k_none, mm_k_int, mm_k_ref, mm_k_null, mm_K_inl, mm_tl_some, mm_tl_none, mm_fg_ok, mm_rc_ok, mm_fp_ok, mm_ai_ok, mm_si_ok, mm_az_ok, mm_sz_ok, z01, z11, zb, b2i_t, b2i_f, true_and, and_true, r_at, r_at_1, r_at_2, r_at_3, r_at_4, r_at_5, r_at_6, r_at_7, r_at_8, r_at_9, r_at_10, r_at_11, r_at_12, r_at_13, r_at_14, r_at_15, r_at_16, r_at_17, r_set_1, r_set_2, r_set_3, r_set_4, r_set_5, r_set_6, r_set_7, r_set_8, r_set_9, r_set_10, r_set_11, r_set_12, r_set_13, r_set_14, r_set_15, r_set_16, r_set_17, r_set_f, r_set_n, r_g_0, r_g_1, r_g_2, r_g_3, r_g_4, r_g_5, r_g_6, r_g_7, r_g_8, r_g_9, r_g_10, r_g_11, r_g_12, r_g_13, r_g_14, r_g_15, r_g_16, r_g_17, r_g_18, r_olen, Nat.zero_le, Nat.not_lt_zero, if_true, if_false, m1_lt, m1_ge, mm_inT, pk_mul, nI_add, mm_in_nI, mm_cl_nI, nI_eq, nI_ltI, nI_leI, ↓reduceIte, Nat.add_zero, Nat.reduceLeDiff, oI_some, oI_none, m1_lt, nI_lt0, Rf_fail_eq, Rf_out_eq, eq_self, not_true_eq_false, not_false_eq_true, Nat.reduceEqDiff, Nat.reduceLT, ne_eq, or_true, true_or, or_false, false_or, decide_true, decide_false, Bool.true_eq_false, Bool.false_eq_true, b2i_ne, hbe, hk, h0]
      · by_cases h7 : sK σ n = 7
        · simp (disch := omega) only [w_97_0, w_97_1, w_97_3, w_97_4, w_97_7, w_97_10, w_97_11, w_97_14, w_97_15, w_97_16, w_97_17, w_97_20, w_97_21, w_97_22, w_97_25, w_97_26, w_97_27, w_97_28, w_97_31, w_97_32, w_97_33, w_97_34, w_97_37, w_97_38, w_97_41, w_97_42, w_97_43, w_97_46, w_97_47, w_97_50, w_97_51, w_97_52, w_97_54, w_97_57, w_97_58, w_97_59, w_97_60, w_97_61, w_97_64, w_97_65, w_97_68, w_97_69, w_97_70, w_97_72, w_97_75, w_97_76, w_97_79, w_97_80, w_97_81, w_97_83, w_97_86, w_97_87, w_97_90, w_97_91, mm_k_none, mm_k_int, mm_k_ref, mm_k_null, mm_K_inl, mm_tl_some, mm_tl_none, mm_fg_ok, mm_rc_ok, mm_fp_ok, mm_ai_ok, mm_si_ok, mm_az_ok, mm_sz_ok, z01, z11, zb, b2i_t, b2i_f, true_and, and_true, r_at, r_at_1, r_at_2, r_at_3, r_at_4, r_at_5, r_at_6, r_at_7, r_at_8, r_at_9, r_at_10, r_at_11, r_at_12, r_at_13, r_at_14, r_at_15, r_at_16, r_at_17, r_set_1, r_set_2, r_set_3, r_set_4, r_set_5, r_set_6, r_set_7, r_set_8, r_set_9, r_set_10, r_set_11, r_set_12, r_set_13, r_set_14, r_set_15, r_set_16, r_set_17, r_set_f, r_set_n, r_g_0, r_g_1, r_g_2, r_g_3, r_g_4, r_g_5, r_g_6, r_g_7, r_g_8, r_g_9, r_g_10, r_g_11, r_g_12, r_g_13, r_g_14, r_g_15, r_g_16, r_g_17, r_g_18, r_olen, Nat.zero_le, Nat.not_lt_zero, if_true, if_false, m1_lt, m1_ge, mm_inT, pk_mul, nI_add, mm_in_nI, mm_cl_nI, nI_eq, nI_ltI, nI_leI, ↓reduceIte, Nat.add_zero, Nat.reduceLeDiff, oI_some, oI_none, m1_lt, nI_lt0, Rf_fail_eq, Rf_out_eq, eq_self, not_true_eq_false, not_false_eq_true, Nat.reduceEqDiff, Nat.reduceLT, ne_eq, or_true, true_or, or_false, false_or, decide_true, decide_false, Bool.true_eq_false, Bool.false_eq_true, b2i_ne, hbe, hk, h7]
        · by_cases hw1 : w = 1
          · by_cases h6 : sK σ n = 6
            · simp (disch := omega) only [w_97_0, w_97_1, w_97_3, w_97_4, w_97_7, w_97_10, w_97_11, w_97_14, w_97_15, w_97_16, w_97_17, w_97_20, w_97_21, w_97_22, w_97_25, w_97_26, w_97_27, w_97_28, w_97_31, w_97_32, w_97_33, w_97_34, w_97_37, w_97_38, w_97_41, w_97_42, w_97_43, w_97_46, w_97_47, w_97_50, w_97_51, w_97_52, w_97_54, w_97_57, w_97_58, w_97_59, w_97_60, w_97_61, w_97_64, w_97_65, w_97_68, w_97_69, w_97_70, w_97_72, w_97_75, w_97_76, w_97_79, w_97_80, w_97_81, w_97_83, w_97_86, w_97_87, w_97_90, w_97_91, mm_k_none, mm_k_int, mm_k_ref, mm_k_null, mm_K_inl, mm_tl_some, mm_tl_none, mm_fg_ok, mm_rc_ok, mm_fp_ok, mm_ai_ok, mm_si_ok, mm_az_ok, mm_sz_ok, z01, z11, zb, b2i_t, b2i_f, true_and, and_true, r_at, r_at_1, r_at_2, r_at_3, r_at_4, r_at_5, r_at_6, r_at_7, r_at_8, r_at_9, r_at_10, r_at_11, r_at_12, r_at_13, r_at_14, r_at_15, r_at_16, r_at_17, r_set_1, r_set_2, r_set_3, r_set_4, r_set_5, r_set_6, r_set_7, r_set_8, r_set_9, r_set_10, r_set_11, r_set_12, r_set_13, r_set_14, r_set_15, r_set_16, r_set_17, r_set_f, r_set_n, r_g_0, r_g_1, r_g_2, r_g_3, r_g_4, r_g_5, r_g_6, r_g_7, r_g_8, r_g_9, r_g_10, r_g_11, r_g_12, r_g_13, r_g_14, r_g_15, r_g_16, r_g_17, r_g_18, r_olen, Nat.zero_le, Nat.not_lt_zero, if_true, if_false, m1_lt, m1_ge, mm_inT, pk_mul, nI_add, mm_in_nI, mm_cl_nI, nI_eq, nI_ltI, nI_leI, ↓reduceIte, Nat.add_zero, Nat.reduceLeDiff, oI_some, oI_none, m1_lt, nI_lt0, Rf_fail_eq, Rf_out_eq, eq_self, not_true_eq_false, not_false_eq_true, Nat.reduceEqDiff, Nat.reduceLT, ne_eq, or_true, true_or, or_false, false_or, decide_true, decide_false, Bool.true_eq_false, Bool.false_eq_true, b2i_ne, hbe, hk, h6, hw1]
            · by_cases h8 : sK σ n = 8
              · simp (disch := omega) only [w_97_0, w_97_1, w_97_3, w_97_4, w_97_7, w_97_10, w_97_11, w_97_14, w_97_15, w_97_16, w_97_17, w_97_20, w_97_21, w_97_22, w_97_25, w_97_26, w_97_27, w_97_28, w_97_31, w_97_32, w_97_33, w_97_34, w_97_37, w_97_38, w_97_41, w_97_42, w_97_43, w_97_46, w_97_47, w_97_50, w_97_51, w_97_52, w_97_54, w_97_57, w_97_58, w_97_59, w_97_60, w_97_61, w_97_64, w_97_65, w_97_68, w_97_69, w_97_70, w_97_72, w_97_75, w_97_76, w_97_79, w_97_80, w_97_81, w_97_83, w_97_86, w_97_87, w_97_90, w_97_91, mm_k_none, mm_k_int, mm_k_ref, mm_k_null, mm_K_inl, mm_tl_some, mm_tl_none, mm_fg_ok, mm_rc_ok, mm_fp_ok, mm_ai_ok, mm_si_ok, mm_az_ok, mm_sz_ok, z01, z11, zb, b2i_t, b2i_f, true_and, and_true, r_at, r_at_1, r_at_2, r_at_3, r_at_4, r_at_5, r_at_6, r_at_7, r_at_8, r_at_9, r_at_10, r_at_11, r_at_12, r_at_13, r_at_14, r_at_15, r_at_16, r_at_17, r_set_1, r_set_2, r_set_3, r_set_4, r_set_5, r_set_6, r_set_7, r_set_8, r_set_9, r_set_10, r_set_11, r_set_12, r_set_13, r_set_14, r_set_15, r_set_16, r_set_17, r_set_f, r_set_n, r_g_0, r_g_1, r_g_2, r_g_3, r_g_4, r_g_5, r_g_6, r_g_7, r_g_8, r_g_9, r_g_10, r_g_11, r_g_12, r_g_13, r_g_14, r_g_15, r_g_16, r_g_17, r_g_18, r_olen, Nat.zero_le, Nat.not_lt_zero, if_true, if_false, m1_lt, m1_ge, mm_inT, pk_mul, nI_add, mm_in_nI, mm_cl_nI, nI_eq, nI_ltI, nI_leI, ↓reduceIte, Nat.add_zero, Nat.reduceLeDiff, oI_some, oI_none, m1_lt, nI_lt0, Rf_fail_eq, Rf_out_eq, eq_self, not_true_eq_false, not_false_eq_true, Nat.reduceEqDiff, Nat.reduceLT, ne_eq, or_true, true_or, or_false, false_or, decide_true, decide_false, Bool.true_eq_false, Bool.false_eq_true, b2i_ne, hbe, hk, h8, hw1]
              · simp (disch := omega) only [w_97_0, w_97_1, w_97_3, w_97_4, w_97_7, w_97_10, w_97_11, w_97_14, w_97_15, w_97_16, w_97_17, w_97_20, w_97_21, w_97_22, w_97_25, w_97_26, w_97_27, w_97_28, w_97_31, w_97_32, w_97_33, w_97_34, w_97_37, w_97_38, w_97_41, w_97_42, w_97_43, w_97_46, w_97_47, w_97_50, w_97_51, w_97_52, w_97_54, w_97_57, w_97_58, w_97_59, w_97_60, w_97_61, w_97_64, w_97_65, w_97_68, w_97_69, w_97_70, w_97_72, w_97_75, w_97_76, w_97_79, w_97_80, w_97_81, w_97_83, w_97_86, w_97_87, w_97_90, w_97_91, mm_k_none, mm_k_int, mm_k_ref, mm_k_null, mm_K_inl, mm_tl_some, mm_tl_none, mm_fg_ok, mm_rc_ok, mm_fp_ok, mm_ai_ok, mm_si_ok, mm_az_ok, mm_sz_ok, z01, z11, zb, b2i_t, b2i_f, true_and, and_true, r_at, r_at_1, r_at_2, r_at_3, r_at_4, r_at_5, r_at_6, r_at_7, r_at_8, r_at_9, r_at_10, r_at_11, r_at_12, r_at_13, r_at_14, r_at_15, r_at_16, r_at_17, r_set_1, r_set_2, r_set_3, r_set_4, r_set_5, r_set_6, r_set_7, r_set_8, r_set_9, r_set_10, r_set_11, r_set_12, r_set_13, r_set_14, r_set_15, r_set_16, r_set_17, r_set_f, r_set_n, r_g_0, r_g_1, r_g_2, r_g_3, r_g_4, r_g_5, r_g_6, r_g_7, r_g_8, r_g_9, r_g_10, r_g_11, r_g_12, r_g_13, r_g_14, r_g_15, r_g_16, r_g_17, r_g_18, r_olen, Nat.zero_le, Nat.not_lt_zero, if_true, if_false, m1_lt, m1_ge, mm_inT, pk_mul, nI_add, mm_in_nI, mm_cl_nI, nI_eq, nI_ltI, nI_leI, ↓reduceIte, Nat.add_zero, Nat.reduceLeDiff, oI_some, oI_none, m1_lt, nI_lt0, Rf_fail_eq, Rf_out_eq, eq_self, not_true_eq_false, not_false_eq_true, Nat.reduceEqDiff, Nat.reduceLT, ne_eq, or_true, true_or, or_false, false_or, decide_true, decide_false, Bool.true_eq_false, Bool.false_eq_true, b2i_ne, hbe, hk, h0, h6, h7, h8, hw1, and_false]
          · simp (disch := omega) only [w_97_0, w_97_1, w_97_3, w_97_4, w_97_7, w_97_10, w_97_11, w_97_14, w_97_15, w_97_16, w_97_17, w_97_20, w_97_21, w_97_22, w_97_25, w_97_26, w_97_27, w_97_28, w_97_31, w_97_32, w_97_33, w_97_34, w_97_37, w_97_38, w_97_41, w_97_42, w_97_43, w_97_46, w_97_47, w_97_50, w_97_51, w_97_52, w_97_54, w_97_57, w_97_58, w_97_59, w_97_60, w_97_61, w_97_64, w_97_65, w_97_68, w_97_69, w_97_70, w_97_72, w_97_75, w_97_76, w_97_79, w_97_80, w_97_81, w_97_83, w_97_86, w_97_87, w_97_90, w_97_91, mm_k_none, mm_k_int, mm_k_ref, mm_k_null, mm_K_inl, mm_tl_some, mm_tl_none, mm_fg_ok, mm_rc_ok, mm_fp_ok, mm_ai_ok, mm_si_ok, mm_az_ok, mm_sz_ok, z01, z11, zb, b2i_t, b2i_f, true_and, and_true, r_at, r_at_1, r_at_2, r_at_3, r_at_4, r_at_5, r_at_6, r_at_7, r_at_8, r_at_9, r_at_10, r_at_11, r_at_12, r_at_13, r_at_14, r_at_15, r_at_16, r_at_17, r_set_1, r_set_2, r_set_3, r_set_4, r_set_5, r_set_6, r_set_7, r_set_8, r_set_9, r_set_10, r_set_11, r_set_12, r_set_13, r_set_14, r_set_15, r_set_16, r_set_17, r_set_f, r_set_n, r_g_0, r_g_1, r_g_2, r_g_3, r_g_4, r_g_5, r_g_6, r_g_7, r_g_8, r_g_9, r_g_10, r_g_11, r_g_12, r_g_13, r_g_14, r_g_15, r_g_16, r_g_17, r_g_18, r_olen, Nat.zero_le, Nat.not_lt_zero, if_true, if_false, m1_lt, m1_ge, mm_inT, pk_mul, nI_add, mm_in_nI, mm_cl_nI, nI_eq, nI_ltI, nI_leI, ↓reduceIte, Nat.add_zero, Nat.reduceLeDiff, oI_some, oI_none, m1_lt, nI_lt0, Rf_fail_eq, Rf_out_eq, eq_self, not_true_eq_false, not_false_eq_true, Nat.reduceEqDiff, Nat.reduceLT, ne_eq, or_true, true_or, or_false, false_or, decide_true, decide_false, Bool.true_eq_false, Bool.false_eq_true, b2i_ne, hbe, hk, h0, h7, hw1, false_and]
theorem Rf_supported_eq (hW : WF T σ) (hR : RNo σ ρ) {w : Nat} (hw : w < 3) (hn : n < sN σ) : WPC X (d + 1) 97 [.ref rm, .int (nI n), .int (nI w)] (mm_R rm ρ M) Q = Q (.inl (some (.int (b2i (sup σ w n))))) (mm_R rm ρ M) := by
  simp only [e_97, w_97_0, w_97_1, w_97_3, w_97_4, w_97_7, w_97_10, w_97_11, w_97_14, w_97_15, w_97_16, w_97_17, w_97_20, w_97_21, w_97_22, w_97_25, w_97_26, w_97_27, w_97_28, w_97_31, w_97_32, w_97_33, w_97_34, w_97_37, w_97_38, w_97_41, w_97_42, w_97_43, w_97_46, w_97_47, w_97_50, w_97_51, w_97_52, w_97_54, w_97_57, w_97_58, w_97_59, w_97_60, w_97_61, w_97_64, w_97_65, w_97_68, w_97_69, w_97_70, w_97_72, w_97_75, w_97_76, w_97_79, w_97_80, w_97_81, w_97_83, w_97_86, w_97_87, w_97_90, w_97_91, mm_k_none, mm_k_int, mm_k_ref, mm_k_null, mm_K_inl, mm_tl_some, mm_tl_none, mm_fg_ok, mm_rc_ok, mm_fp_ok, mm_ai_ok, mm_si_ok, mm_az_ok, mm_sz_ok, z01, z11, zb, b2i_t, b2i_f, true_and, and_true]
  exact Rf_supported_lp hW hR hw n _ hn
theorem Rf_down_lp (hW : WF T σ) (hR : RRel σ ρ) {ins : Bool} {l1 l2 : Option Value} : ∀ (n i : Nat), n < sN σ → stale σ n = false → shown σ ρ n → i < (El σ n).length + (if ins = true then 1 else 0) → WP X (d + 1) 100 6 [some (.ref rm), l1, l2, some (.int (b2i ins)), some (.int (nI n)), some (.int (nI i))] [] (mm_R rm ρ M) Q = Q (.inl (some (.int (nI (dn σ ins n i))))) (mm_R rm ρ M) := by
  intro n
  induction n using Nat.strongRecOn with
  | _ n ih =>
    intro i hn hs hsh hi
    have h40 := hW.n40
    have h12 := hW.k12 hn
    have hk := hR.k hn
    have h72 := El_72 hW hn
    have hi73 : i < 73 := by split at hi <;> omega
    rw [dn_at hW hn]
    rw [w_100_6]
    cases hb : kBased (sK σ n) with
    | false =>
      have hbe : ∀ Q, WPC X d 76 [.ref rm, .int (nI n)] (mm_R rm ρ M) Q = Q (.inl (some (.int (b2i false)))) (mm_R rm ρ M) := fun Q => by rw [Rf_based_eq hW hR.no hn, hb]
      have z3 : ¬ sK σ n = 3 := fun y => by rw [y] at hb; exact absurd hb (by decide)
      have z4 : ¬ sK σ n = 4 := fun y => by rw [y] at hb; exact absurd hb (by decide)
      have z5 : ¬ sK σ n = 5 := fun y => by rw [y] at hb; exact absurd hb (by decide)
      rw [if_neg z3, if_neg z4, if_neg z5]
      simp (disch := omega) only [w_100_0, w_100_1, w_100_3, w_100_4, w_100_7, w_100_9, w_100_12, w_100_15, w_100_16, w_100_19, w_100_21, w_100_22, w_100_23, w_100_26, w_100_27, w_100_30, w_100_31, w_100_34, w_100_36, w_100_37, w_100_38, w_100_40, w_100_41, w_100_42, w_100_45, w_100_46, w_100_49, w_100_50, w_100_51, w_100_53, w_100_54, w_100_57, w_100_59, w_100_60, w_100_61, w_100_64, w_100_66, w_100_67, w_100_70, w_100_72, w_100_73, w_100_74, w_100_76, w_100_77, w_100_80, w_100_82, w_100_83, w_100_85, w_100_88, w_100_90, mm_k_none, mm_k_int, mm_k_ref, mm_k_null, mm_K_inl, mm_tl_some, mm_tl_none, mm_fg_ok, mm_rc_ok, mm_fp_ok, mm_ai_ok, mm_si_ok, mm_az_ok, mm_sz_ok, z01, z11, zb, b2i_t, b2i_f, true_and, and_true, r_at, r_at_1, r_at_2, r_at_3, r_at_4, r_at_5, r_at_6, r_at_7, r_at_8, r_at_9, r_at_10, r_at_11, r_at_12, r_at_13, r_at_14, r_at_15, r_at_16, r_at_17, r_set_1, r_set_2, r_set_3, r_set_4, r_set_5, r_set_6, r_set_7, r_set_8, r_set_9, r_set_10, r_set_11, r_set_12, r_set_13, r_set_14, r_set_15, r_set_16, r_set_17, r_set_f, r_set_n, r_g_0, r_g_1, r_g_2, r_g_3, r_g_4, r_g_5, r_g_6, r_g_7, r_g_8, r_g_9, r_g_10, r_g_11, r_g_12, r_g_13, r_g_14, r_g_15, r_g_16, r_g_17, r_g_18, r_olen, Nat.zero_le, Nat.not_lt_zero, if_true, if_false, m1_lt, m1_ge, mm_inT, pk_mul, nI_add, mm_in_nI, mm_cl_nI, nI_eq, nI_ltI, nI_leI, ↓reduceIte, Nat.add_zero, Nat.reduceLeDiff, oI_some, oI_none, m1_lt, nI_lt0, Rf_fail_eq, Rf_out_eq, eq_self, not_true_eq_false, not_false_eq_true, Nat.reduceEqDiff, Nat.reduceLT, ne_eq, or_true, true_or, or_false, false_or, decide_true, decide_false, Bool.true_eq_false, Bool.false_eq_true, b2i_ne, hbe]
    | true =>
      have hbe : ∀ Q, WPC X d 76 [.ref rm, .int (nI n)] (mm_R rm ρ M) Q = Q (.inl (some (.int (b2i true)))) (mm_R rm ρ M) := fun Q => by rw [Rf_based_eq hW hR.no hn, hb]
      have hk1 := kB_one hb
      have h1 := hW.o hn hk1
      have ho := hR.o hn hk1
      have hso := stale_o hW hn hs hk1
      have hsho : shown σ ρ (sO σ n) := fun k hk => hsh k (by rw [rc_at hW hn, hk1, hk]; simp)
      have hel := hsho (sO σ n) (rc_refl hW (by omega))
      have h72o := El_72 hW (show sO σ n < sN σ by omega)
      by_cases h3 : sK σ n = 3
      · rw [if_pos h3]
        have hl3 := len_3 hW hn h3
        cases ins with
        | true =>
          simp only [if_true] at hi ⊢
          refine Eq.trans ?_ (ih _ h1 _ (by omega) hso hsho (by rw [if_pos rfl]; omega))
          simp (disch := omega) only [w_100_0, w_100_1, w_100_3, w_100_4, w_100_7, w_100_9, w_100_12, w_100_15, w_100_16, w_100_19, w_100_21, w_100_22, w_100_23, w_100_26, w_100_27, w_100_30, w_100_31, w_100_34, w_100_36, w_100_37, w_100_38, w_100_40, w_100_41, w_100_42, w_100_45, w_100_46, w_100_49, w_100_50, w_100_51, w_100_53, w_100_54, w_100_57, w_100_59, w_100_60, w_100_61, w_100_64, w_100_66, w_100_67, w_100_70, w_100_72, w_100_73, w_100_74, w_100_76, w_100_77, w_100_80, w_100_82, w_100_83, w_100_85, w_100_88, w_100_90, mm_k_none, mm_k_int, mm_k_ref, mm_k_null, mm_K_inl, mm_tl_some, mm_tl_none, mm_fg_ok, mm_rc_ok, mm_fp_ok, mm_ai_ok, mm_si_ok, mm_az_ok, mm_sz_ok, z01, z11, zb, b2i_t, b2i_f, true_and, and_true, r_at, r_at_1, r_at_2, r_at_3, r_at_4, r_at_5, r_at_6, r_at_7, r_at_8, r_at_9, r_at_10, r_at_11, r_at_12, r_at_13, r_at_14, r_at_15, r_at_16, r_at_17, r_set_1, r_set_2, r_set_3, r_set_4, r_set_5, r_set_6, r_set_7, r_set_8, r_set_9, r_set_10, r_set_11, r_set_12, r_set_13, r_set_14, r_set_15, r_set_16, r_set_17, r_set_f, r_set_n, r_g_0, r_g_1, r_g_2, r_g_3, r_g_4, r_g_5, r_g_6, r_g_7, r_g_8, r_g_9, r_g_10, r_g_11, r_g_12, r_g_13, r_g_14, r_g_15, r_g_16, r_g_17, r_g_18, r_olen, Nat.zero_le, Nat.not_lt_zero, if_true, if_false, m1_lt, m1_ge, mm_inT, pk_mul, nI_add, mm_in_nI, mm_cl_nI, nI_eq, nI_ltI, nI_leI, ↓reduceIte, Nat.add_zero, Nat.reduceLeDiff, oI_some, oI_none, m1_lt, nI_lt0, Rf_fail_eq, Rf_out_eq, eq_self, not_true_eq_false, not_false_eq_true, Nat.reduceEqDiff, Nat.reduceLT, ne_eq, or_true, true_or, or_false, false_or, decide_true, decide_false, Bool.true_eq_false, Bool.false_eq_true, b2i_ne, hbe, hk, h3, ho, hel.2.1, nI_m, b2i_t, Nat.sub_zero]
        | false =>
          simp only [Bool.false_eq_true, if_false, Nat.add_zero] at hi ⊢
          refine Eq.trans ?_ (ih _ h1 _ (by omega) hso hsho (by rw [if_neg (by decide)]; omega))
          simp (disch := omega) only [w_100_0, w_100_1, w_100_3, w_100_4, w_100_7, w_100_9, w_100_12, w_100_15, w_100_16, w_100_19, w_100_21, w_100_22, w_100_23, w_100_26, w_100_27, w_100_30, w_100_31, w_100_34, w_100_36, w_100_37, w_100_38, w_100_40, w_100_41, w_100_42, w_100_45, w_100_46, w_100_49, w_100_50, w_100_51, w_100_53, w_100_54, w_100_57, w_100_59, w_100_60, w_100_61, w_100_64, w_100_66, w_100_67, w_100_70, w_100_72, w_100_73, w_100_74, w_100_76, w_100_77, w_100_80, w_100_82, w_100_83, w_100_85, w_100_88, w_100_90, mm_k_none, mm_k_int, mm_k_ref, mm_k_null, mm_K_inl, mm_tl_some, mm_tl_none, mm_fg_ok, mm_rc_ok, mm_fp_ok, mm_ai_ok, mm_si_ok, mm_az_ok, mm_sz_ok, z01, z11, zb, b2i_t, b2i_f, true_and, and_true, r_at, r_at_1, r_at_2, r_at_3, r_at_4, r_at_5, r_at_6, r_at_7, r_at_8, r_at_9, r_at_10, r_at_11, r_at_12, r_at_13, r_at_14, r_at_15, r_at_16, r_at_17, r_set_1, r_set_2, r_set_3, r_set_4, r_set_5, r_set_6, r_set_7, r_set_8, r_set_9, r_set_10, r_set_11, r_set_12, r_set_13, r_set_14, r_set_15, r_set_16, r_set_17, r_set_f, r_set_n, r_g_0, r_g_1, r_g_2, r_g_3, r_g_4, r_g_5, r_g_6, r_g_7, r_g_8, r_g_9, r_g_10, r_g_11, r_g_12, r_g_13, r_g_14, r_g_15, r_g_16, r_g_17, r_g_18, r_olen, Nat.zero_le, Nat.not_lt_zero, if_true, if_false, m1_lt, m1_ge, mm_inT, pk_mul, nI_add, mm_in_nI, mm_cl_nI, nI_eq, nI_ltI, nI_leI, ↓reduceIte, Nat.add_zero, Nat.reduceLeDiff, oI_some, oI_none, m1_lt, nI_lt0, Rf_fail_eq, Rf_out_eq, eq_self, not_true_eq_false, not_false_eq_true, Nat.reduceEqDiff, Nat.reduceLT, ne_eq, or_true, true_or, or_false, false_or, decide_true, decide_false, Bool.true_eq_false, Bool.false_eq_true, b2i_ne, hbe, hk, h3, ho, hel.2.1, nI_m, b2i_f]
      · rw [if_neg h3]
        by_cases h4 : sK σ n = 4
        · rw [if_pos h4]
          obtain ⟨l4, s4⟩ := len_4 hW hn h4 hs
          have hv := (hR.v hn).trans (hW.e0 hn h4).1
          have hb72 := (hW.e0 hn h4).2.1
          refine Eq.trans ?_ (ih _ h1 _ (by omega) hso hsho (by omega))
          simp (disch := omega) only [w_100_0, w_100_1, w_100_3, w_100_4, w_100_7, w_100_9, w_100_12, w_100_15, w_100_16, w_100_19, w_100_21, w_100_22, w_100_23, w_100_26, w_100_27, w_100_30, w_100_31, w_100_34, w_100_36, w_100_37, w_100_38, w_100_40, w_100_41, w_100_42, w_100_45, w_100_46, w_100_49, w_100_50, w_100_51, w_100_53, w_100_54, w_100_57, w_100_59, w_100_60, w_100_61, w_100_64, w_100_66, w_100_67, w_100_70, w_100_72, w_100_73, w_100_74, w_100_76, w_100_77, w_100_80, w_100_82, w_100_83, w_100_85, w_100_88, w_100_90, mm_k_none, mm_k_int, mm_k_ref, mm_k_null, mm_K_inl, mm_tl_some, mm_tl_none, mm_fg_ok, mm_rc_ok, mm_fp_ok, mm_ai_ok, mm_si_ok, mm_az_ok, mm_sz_ok, z01, z11, zb, b2i_t, b2i_f, true_and, and_true, r_at, r_at_1, r_at_2, r_at_3, r_at_4, r_at_5, r_at_6, r_at_7, r_at_8, r_at_9, r_at_10, r_at_11, r_at_12, r_at_13, r_at_14, r_at_15, r_at_16, r_at_17, r_set_1, r_set_2, r_set_3, r_set_4, r_set_5, r_set_6, r_set_7, r_set_8, r_set_9, r_set_10, r_set_11, r_set_12, r_set_13, r_set_14, r_set_15, r_set_16, r_set_17, r_set_f, r_set_n, r_g_0, r_g_1, r_g_2, r_g_3, r_g_4, r_g_5, r_g_6, r_g_7, r_g_8, r_g_9, r_g_10, r_g_11, r_g_12, r_g_13, r_g_14, r_g_15, r_g_16, r_g_17, r_g_18, r_olen, Nat.zero_le, Nat.not_lt_zero, if_true, if_false, m1_lt, m1_ge, mm_inT, pk_mul, nI_add, mm_in_nI, mm_cl_nI, nI_eq, nI_ltI, nI_leI, ↓reduceIte, Nat.add_zero, Nat.reduceLeDiff, oI_some, oI_none, m1_lt, nI_lt0, Rf_fail_eq, Rf_out_eq, eq_self, not_true_eq_false, not_false_eq_true, Nat.reduceEqDiff, Nat.reduceLT, ne_eq, or_true, true_or, or_false, false_or, decide_true, decide_false, Bool.true_eq_false, Bool.false_eq_true, b2i_ne, hbe, hk, h3, h4, ho, hv]
        · rw [if_neg h4]
          have h5 : sK σ n = 5 := by simp [kBased] at hb; omega
          rw [if_pos h5]
          have hl5 := len_5 hW hn h5
          refine Eq.trans ?_ (ih _ h1 _ (by omega) hso hsho (by omega))
          simp (disch := omega) only [w_100_0, w_100_1, w_100_3, w_100_4, w_100_7, w_100_9, w_100_12, w_100_15, w_100_16, w_100_19, w_100_21, w_100_22, w_100_23, w_100_26, w_100_27, w_100_30, w_100_31, w_100_34, w_100_36, w_100_37, w_100_38, w_100_40, w_100_41, w_100_42, w_100_45, w_100_46, w_100_49, w_100_50, w_100_51, w_100_53, w_100_54, w_100_57, w_100_59, w_100_60, w_100_61, w_100_64, w_100_66, w_100_67, w_100_70, w_100_72, w_100_73, w_100_74, w_100_76, w_100_77, w_100_80, w_100_82, w_100_83, w_100_85, w_100_88, w_100_90, mm_k_none, mm_k_int, mm_k_ref, mm_k_null, mm_K_inl, mm_tl_some, mm_tl_none, mm_fg_ok, mm_rc_ok, mm_fp_ok, mm_ai_ok, mm_si_ok, mm_az_ok, mm_sz_ok, z01, z11, zb, b2i_t, b2i_f, true_and, and_true, r_at, r_at_1, r_at_2, r_at_3, r_at_4, r_at_5, r_at_6, r_at_7, r_at_8, r_at_9, r_at_10, r_at_11, r_at_12, r_at_13, r_at_14, r_at_15, r_at_16, r_at_17, r_set_1, r_set_2, r_set_3, r_set_4, r_set_5, r_set_6, r_set_7, r_set_8, r_set_9, r_set_10, r_set_11, r_set_12, r_set_13, r_set_14, r_set_15, r_set_16, r_set_17, r_set_f, r_set_n, r_g_0, r_g_1, r_g_2, r_g_3, r_g_4, r_g_5, r_g_6, r_g_7, r_g_8, r_g_9, r_g_10, r_g_11, r_g_12, r_g_13, r_g_14, r_g_15, r_g_16, r_g_17, r_g_18, r_olen, Nat.zero_le, Nat.not_lt_zero, if_true, if_false, m1_lt, m1_ge, mm_inT, pk_mul, nI_add, mm_in_nI, mm_cl_nI, nI_eq, nI_ltI, nI_leI, ↓reduceIte, Nat.add_zero, Nat.reduceLeDiff, oI_some, oI_none, m1_lt, nI_lt0, Rf_fail_eq, Rf_out_eq, eq_self, not_true_eq_false, not_false_eq_true, Nat.reduceEqDiff, Nat.reduceLT, ne_eq, or_true, true_or, or_false, false_or, decide_true, decide_false, Bool.true_eq_false, Bool.false_eq_true, b2i_ne, hbe, hk, h3, h4, ho]
theorem Rf_down_eq (hW : WF T σ) (hR : RRel σ ρ) {ins : Bool} {i : Nat} (hn : n < sN σ) (hs : stale σ n = false) (hsh : shown σ ρ n) (hi : i < (El σ n).length + (if ins = true then 1 else 0)) : WPC X (d + 1) 100 [.ref rm, .int (nI n), .int (nI i), .int (b2i ins)] (mm_R rm ρ M) Q = Q (.inl (some (.int (nI (dn σ ins n i))))) (mm_R rm ρ M) := by
  simp only [e_100, w_100_0, w_100_1, w_100_3, w_100_4, w_100_7, w_100_9, w_100_12, w_100_15, w_100_16, w_100_19, w_100_21, w_100_22, w_100_23, w_100_26, w_100_27, w_100_30, w_100_31, w_100_34, w_100_36, w_100_37, w_100_38, w_100_40, w_100_41, w_100_42, w_100_45, w_100_46, w_100_49, w_100_50, w_100_51, w_100_53, w_100_54, w_100_57, w_100_59, w_100_60, w_100_61, w_100_64, w_100_66, w_100_67, w_100_70, w_100_72, w_100_73, w_100_74, w_100_76, w_100_77, w_100_80, w_100_82, w_100_83, w_100_85, w_100_88, w_100_90, mm_k_none, mm_k_int, mm_k_ref, mm_k_null, mm_K_inl, mm_tl_some, mm_tl_none, mm_fg_ok, mm_rc_ok, mm_fp_ok, mm_ai_ok, mm_si_ok, mm_az_ok, mm_sz_ok, z01, z11, zb, b2i_t, b2i_f, true_and, and_true]
  exact Rf_down_lp hW hR n i hn hs hsh hi
theorem Rf_full_lp {f : Nat → Nat} (hn : n < 40) (h : ∀ k, k < 8 → ρ.2.2 11 (8 * n + k) = nI (f k)) (hf : ∀ k, f k ≤ 24) {l1 : Option Value} : ∀ (j k : Nat), j + k = 8 → WP X d 99 36 [some (.ref rm), l1, some (.int (nI n)), some (.int (nI (smN f k))), some (.int (nI k))] [] (mm_R rm ρ M) Q = Q (.inl (some (.int (b2i (decide (smN f 8 = 24)))))) (mm_R rm ρ M) := by
  intro j
  induction j with
  | zero =>
    intro k hk
    have hk8 : k = 8 := by omega
    subst hk8
    have hs := smN_le hf 8
    rw [w_99_36]
    by_cases h24 : smN f 8 = 24
    · simp (disch := omega) only [w_99_0, w_99_1, w_99_3, w_99_4, w_99_5, w_99_6, w_99_9, w_99_10, w_99_11, w_99_14, w_99_15, w_99_18, w_99_19, w_99_20, w_99_22, w_99_25, w_99_26, w_99_29, w_99_30, w_99_31, w_99_32, w_99_33, w_99_34, w_99_38, w_99_40, w_99_43, w_99_44, w_99_45, w_99_48, w_99_50, w_99_51, w_99_52, w_99_54, w_99_55, w_99_56, w_99_57, w_99_58, w_99_61, w_99_64, w_99_65, w_99_67, w_99_70, w_99_71, w_99_74, w_99_75, mm_k_none, mm_k_int, mm_k_ref, mm_k_null, mm_K_inl, mm_tl_some, mm_tl_none, mm_fg_ok, mm_rc_ok, mm_fp_ok, mm_ai_ok, mm_si_ok, mm_az_ok, mm_sz_ok, z01, z11, zb, b2i_t, b2i_f, true_and, and_true, r_at, r_at_1, r_at_2, r_at_3, r_at_4, r_at_5, r_at_6, r_at_7, r_at_8, r_at_9, r_at_10, r_at_11, r_at_12, r_at_13, r_at_14, r_at_15, r_at_16, r_at_17, r_set_1, r_set_2, r_set_3, r_set_4, r_set_5, r_set_6, r_set_7, r_set_8, r_set_9, r_set_10, r_set_11, r_set_12, r_set_13, r_set_14, r_set_15, r_set_16, r_set_17, r_set_f, r_set_n, r_g_0, r_g_1, r_g_2, r_g_3, r_g_4, r_g_5, r_g_6, r_g_7, r_g_8, r_g_9, r_g_10, r_g_11, r_g_12, r_g_13, r_g_14, r_g_15, r_g_16, r_g_17, r_g_18, r_olen, Nat.zero_le, Nat.not_lt_zero, if_true, if_false, m1_lt, m1_ge, mm_inT, pk_mul, nI_add, mm_in_nI, mm_cl_nI, nI_eq, nI_ltI, nI_leI, ↓reduceIte, Nat.add_zero, Nat.reduceLeDiff, oI_some, oI_none, m1_lt, nI_lt0, Rf_fail_eq, Rf_out_eq, eq_self, not_true_eq_false, not_false_eq_true, Nat.reduceEqDiff, Nat.reduceLT, ne_eq, or_true, true_or, or_false, false_or, decide_true, decide_false, Bool.true_eq_false, Bool.false_eq_true, b2i_ne, h24]
    · simp (disch := omega) only [w_99_0, w_99_1, w_99_3, w_99_4, w_99_5, w_99_6, w_99_9, w_99_10, w_99_11, w_99_14, w_99_15, w_99_18, w_99_19, w_99_20, w_99_22, w_99_25, w_99_26, w_99_29, w_99_30, w_99_31, w_99_32, w_99_33, w_99_34, w_99_38, w_99_40, w_99_43, w_99_44, w_99_45, w_99_48, w_99_50, w_99_51, w_99_52, w_99_54, w_99_55, w_99_56, w_99_57, w_99_58, w_99_61, w_99_64, w_99_65, w_99_67, w_99_70, w_99_71, w_99_74, w_99_75, mm_k_none, mm_k_int, mm_k_ref, mm_k_null, mm_K_inl, mm_tl_some, mm_tl_none, mm_fg_ok, mm_rc_ok, mm_fp_ok, mm_ai_ok, mm_si_ok, mm_az_ok, mm_sz_ok, z01, z11, zb, b2i_t, b2i_f, true_and, and_true, r_at, r_at_1, r_at_2, r_at_3, r_at_4, r_at_5, r_at_6, r_at_7, r_at_8, r_at_9, r_at_10, r_at_11, r_at_12, r_at_13, r_at_14, r_at_15, r_at_16, r_at_17, r_set_1, r_set_2, r_set_3, r_set_4, r_set_5, r_set_6, r_set_7, r_set_8, r_set_9, r_set_10, r_set_11, r_set_12, r_set_13, r_set_14, r_set_15, r_set_16, r_set_17, r_set_f, r_set_n, r_g_0, r_g_1, r_g_2, r_g_3, r_g_4, r_g_5, r_g_6, r_g_7, r_g_8, r_g_9, r_g_10, r_g_11, r_g_12, r_g_13, r_g_14, r_g_15, r_g_16, r_g_17, r_g_18, r_olen, Nat.zero_le, Nat.not_lt_zero, if_true, if_false, m1_lt, m1_ge, mm_inT, pk_mul, nI_add, mm_in_nI, mm_cl_nI, nI_eq, nI_ltI, nI_leI, ↓reduceIte, Nat.add_zero, Nat.reduceLeDiff, oI_some, oI_none, m1_lt, nI_lt0, Rf_fail_eq, Rf_out_eq, eq_self, not_true_eq_false, not_false_eq_true, Nat.reduceEqDiff, Nat.reduceLT, ne_eq, or_true, true_or, or_false, false_or, decide_true, decide_false, Bool.true_eq_false, Bool.false_eq_true, b2i_ne, h24]
  | succ j ih =>
    intro k hk
    have hs := smN_le hf k
    have e : ¬ 8 ≤ k := by omega
    have := hf k
    rw [w_99_36]
    refine Eq.trans ?_ (ih (k + 1) (by omega))
    show _ = WP X d 99 36 [some (.ref rm), l1, some (.int (nI n)), some (.int (nI (smN f k + f k))), some (.int (nI (k + 1)))] [] (mm_R rm ρ M) Q
    simp (disch := omega) only [w_99_0, w_99_1, w_99_3, w_99_4, w_99_5, w_99_6, w_99_9, w_99_10, w_99_11, w_99_14, w_99_15, w_99_18, w_99_19, w_99_20, w_99_22, w_99_25, w_99_26, w_99_29, w_99_30, w_99_31, w_99_32, w_99_33, w_99_34, w_99_38, w_99_40, w_99_43, w_99_44, w_99_45, w_99_48, w_99_50, w_99_51, w_99_52, w_99_54, w_99_55, w_99_56, w_99_57, w_99_58, w_99_61, w_99_64, w_99_65, w_99_67, w_99_70, w_99_71, w_99_74, w_99_75, mm_k_none, mm_k_int, mm_k_ref, mm_k_null, mm_K_inl, mm_tl_some, mm_tl_none, mm_fg_ok, mm_rc_ok, mm_fp_ok, mm_ai_ok, mm_si_ok, mm_az_ok, mm_sz_ok, z01, z11, zb, b2i_t, b2i_f, true_and, and_true, r_at, r_at_1, r_at_2, r_at_3, r_at_4, r_at_5, r_at_6, r_at_7, r_at_8, r_at_9, r_at_10, r_at_11, r_at_12, r_at_13, r_at_14, r_at_15, r_at_16, r_at_17, r_set_1, r_set_2, r_set_3, r_set_4, r_set_5, r_set_6, r_set_7, r_set_8, r_set_9, r_set_10, r_set_11, r_set_12, r_set_13, r_set_14, r_set_15, r_set_16, r_set_17, r_set_f, r_set_n, r_g_0, r_g_1, r_g_2, r_g_3, r_g_4, r_g_5, r_g_6, r_g_7, r_g_8, r_g_9, r_g_10, r_g_11, r_g_12, r_g_13, r_g_14, r_g_15, r_g_16, r_g_17, r_g_18, r_olen, Nat.zero_le, Nat.not_lt_zero, if_true, if_false, m1_lt, m1_ge, mm_inT, pk_mul, nI_add, mm_in_nI, mm_cl_nI, nI_eq, nI_ltI, nI_leI, ↓reduceIte, Nat.add_zero, Nat.reduceLeDiff, oI_some, oI_none, m1_lt, nI_lt0, Rf_fail_eq, Rf_out_eq, eq_self, not_true_eq_false, not_false_eq_true, Nat.reduceEqDiff, Nat.reduceLT, ne_eq, or_true, true_or, or_false, false_or, decide_true, decide_false, Bool.true_eq_false, Bool.false_eq_true, b2i_ne, e, h k (by omega)]
theorem Rf_full_eq (hW : WF T σ) (hR : RRel σ ρ) {l : Nat} (hl : l < 8 * sN σ) (hk : sK σ (l / 8) = 0 ∨ sK σ (l / 8) = 6) : WPC X d 99 [.ref rm, .int (nI l)] (mm_R rm ρ M) Q = Q (.inl (some (.int (b2i (fulB σ l))))) (mm_R rm ρ M) := by
  have h40 := hW.n40
  have hn : l / 8 < sN σ := by omega
  have hki := hR.k hn
  have h24 := hW.s24 l
  have e8 : ¬ nI 8 = 0 := by decide
  unfold fulB
  rcases hk with hk | hk
  · rw [if_pos hk]
    rw [hk] at hki
    by_cases h16 : (sS σ l).length = 16
    · simp (disch := omega) only [e_99, w_99_0, w_99_1, w_99_3, w_99_4, w_99_5, w_99_6, w_99_9, w_99_10, w_99_11, w_99_14, w_99_15, w_99_18, w_99_19, w_99_20, w_99_22, w_99_25, w_99_26, w_99_29, w_99_30, w_99_31, w_99_32, w_99_33, w_99_34, w_99_38, w_99_40, w_99_43, w_99_44, w_99_45, w_99_48, w_99_50, w_99_51, w_99_52, w_99_54, w_99_55, w_99_56, w_99_57, w_99_58, w_99_61, w_99_64, w_99_65, w_99_67, w_99_70, w_99_71, w_99_74, w_99_75, mm_k_none, mm_k_int, mm_k_ref, mm_k_null, mm_K_inl, mm_tl_some, mm_tl_none, mm_fg_ok, mm_rc_ok, mm_fp_ok, mm_ai_ok, mm_si_ok, mm_az_ok, mm_sz_ok, z01, z11, zb, b2i_t, b2i_f, true_and, and_true, r_at, r_at_1, r_at_2, r_at_3, r_at_4, r_at_5, r_at_6, r_at_7, r_at_8, r_at_9, r_at_10, r_at_11, r_at_12, r_at_13, r_at_14, r_at_15, r_at_16, r_at_17, r_set_1, r_set_2, r_set_3, r_set_4, r_set_5, r_set_6, r_set_7, r_set_8, r_set_9, r_set_10, r_set_11, r_set_12, r_set_13, r_set_14, r_set_15, r_set_16, r_set_17, r_set_f, r_set_n, r_g_0, r_g_1, r_g_2, r_g_3, r_g_4, r_g_5, r_g_6, r_g_7, r_g_8, r_g_9, r_g_10, r_g_11, r_g_12, r_g_13, r_g_14, r_g_15, r_g_16, r_g_17, r_g_18, r_olen, Nat.zero_le, Nat.not_lt_zero, if_true, if_false, m1_lt, m1_ge, mm_inT, pk_mul, nI_add, mm_in_nI, mm_cl_nI, nI_eq, nI_ltI, nI_leI, ↓reduceIte, Nat.add_zero, Nat.reduceLeDiff, oI_some, oI_none, m1_lt, nI_lt0, Rf_fail_eq, Rf_out_eq, eq_self, not_true_eq_false, not_false_eq_true, Nat.reduceEqDiff, Nat.reduceLT, ne_eq, or_true, true_or, or_false, false_or, decide_true, decide_false, Bool.true_eq_false, Bool.false_eq_true, b2i_ne, pk_div, e8, hki, hR.c (show l < 320 by omega), h16]
    · simp (disch := omega) only [e_99, w_99_0, w_99_1, w_99_3, w_99_4, w_99_5, w_99_6, w_99_9, w_99_10, w_99_11, w_99_14, w_99_15, w_99_18, w_99_19, w_99_20, w_99_22, w_99_25, w_99_26, w_99_29, w_99_30, w_99_31, w_99_32, w_99_33, w_99_34, w_99_38, w_99_40, w_99_43, w_99_44, w_99_45, w_99_48, w_99_50, w_99_51, w_99_52, w_99_54, w_99_55, w_99_56, w_99_57, w_99_58, w_99_61, w_99_64, w_99_65, w_99_67, w_99_70, w_99_71, w_99_74, w_99_75, mm_k_none, mm_k_int, mm_k_ref, mm_k_null, mm_K_inl, mm_tl_some, mm_tl_none, mm_fg_ok, mm_rc_ok, mm_fp_ok, mm_ai_ok, mm_si_ok, mm_az_ok, mm_sz_ok, z01, z11, zb, b2i_t, b2i_f, true_and, and_true, r_at, r_at_1, r_at_2, r_at_3, r_at_4, r_at_5, r_at_6, r_at_7, r_at_8, r_at_9, r_at_10, r_at_11, r_at_12, r_at_13, r_at_14, r_at_15, r_at_16, r_at_17, r_set_1, r_set_2, r_set_3, r_set_4, r_set_5, r_set_6, r_set_7, r_set_8, r_set_9, r_set_10, r_set_11, r_set_12, r_set_13, r_set_14, r_set_15, r_set_16, r_set_17, r_set_f, r_set_n, r_g_0, r_g_1, r_g_2, r_g_3, r_g_4, r_g_5, r_g_6, r_g_7, r_g_8, r_g_9, r_g_10, r_g_11, r_g_12, r_g_13, r_g_14, r_g_15, r_g_16, r_g_17, r_g_18, r_olen, Nat.zero_le, Nat.not_lt_zero, if_true, if_false, m1_lt, m1_ge, mm_inT, pk_mul, nI_add, mm_in_nI, mm_cl_nI, nI_eq, nI_ltI, nI_leI, ↓reduceIte, Nat.add_zero, Nat.reduceLeDiff, oI_some, oI_none, m1_lt, nI_lt0, Rf_fail_eq, Rf_out_eq, eq_self, not_true_eq_false, not_false_eq_true, Nat.reduceEqDiff, Nat.reduceLT, ne_eq, or_true, true_or, or_false, false_or, decide_true, decide_false, Bool.true_eq_false, Bool.false_eq_true, b2i_ne, pk_div, e8, hki, hR.c (show l < 320 by omega), h16]
  · rw [if_neg (by omega)]
    rw [hk] at hki
    obtain ⟨-, hnd, hmem⟩ := hW.rk hn hk
    have hsum : ((sR σ (l / 8)).flatMap (fun k => sS σ (8 * (l / 8) + k))).length = smN (fun k => (sS σ (8 * (l / 8) + k)).length) 8 := by
      rw [List.length_flatMap]
      exact smN_R 8 _ hnd (fun k hk => ((hmem k).1 hk).1) (fun k hk hk2 => by
        by_cases z : sS σ (8 * (l / 8) + k) = []
        · rw [z]; rfl
        · exact absurd ((hmem k).2 ⟨hk, z⟩) hk2)
    rw [hsum]
    simp (disch := omega) only [e_99, w_99_0, w_99_1, w_99_3, w_99_4, w_99_5, w_99_6, w_99_9, w_99_10, w_99_11, w_99_14, w_99_15, w_99_18, w_99_19, w_99_20, w_99_22, w_99_25, w_99_26, w_99_29, w_99_30, w_99_31, w_99_32, w_99_33, w_99_34, w_99_38, w_99_40, w_99_43, w_99_44, w_99_45, w_99_48, w_99_50, w_99_51, w_99_52, w_99_54, w_99_55, w_99_56, w_99_57, w_99_58, w_99_61, w_99_64, w_99_65, w_99_67, w_99_70, w_99_71, w_99_74, w_99_75, mm_k_none, mm_k_int, mm_k_ref, mm_k_null, mm_K_inl, mm_tl_some, mm_tl_none, mm_fg_ok, mm_rc_ok, mm_fp_ok, mm_ai_ok, mm_si_ok, mm_az_ok, mm_sz_ok, z01, z11, zb, b2i_t, b2i_f, true_and, and_true, r_at, r_at_1, r_at_2, r_at_3, r_at_4, r_at_5, r_at_6, r_at_7, r_at_8, r_at_9, r_at_10, r_at_11, r_at_12, r_at_13, r_at_14, r_at_15, r_at_16, r_at_17, r_set_1, r_set_2, r_set_3, r_set_4, r_set_5, r_set_6, r_set_7, r_set_8, r_set_9, r_set_10, r_set_11, r_set_12, r_set_13, r_set_14, r_set_15, r_set_16, r_set_17, r_set_f, r_set_n, r_g_0, r_g_1, r_g_2, r_g_3, r_g_4, r_g_5, r_g_6, r_g_7, r_g_8, r_g_9, r_g_10, r_g_11, r_g_12, r_g_13, r_g_14, r_g_15, r_g_16, r_g_17, r_g_18, r_olen, Nat.zero_le, Nat.not_lt_zero, if_true, if_false, m1_lt, m1_ge, mm_inT, pk_mul, nI_add, mm_in_nI, mm_cl_nI, nI_eq, nI_ltI, nI_leI, ↓reduceIte, Nat.add_zero, Nat.reduceLeDiff, oI_some, oI_none, m1_lt, nI_lt0, Rf_fail_eq, Rf_out_eq, eq_self, not_true_eq_false, not_false_eq_true, Nat.reduceEqDiff, Nat.reduceLT, ne_eq, or_true, true_or, or_false, false_or, decide_true, decide_false, Bool.true_eq_false, Bool.false_eq_true, b2i_ne, pk_div, e8, hki]
    exact Rf_full_lp (show l / 8 < 40 by omega) (fun k hk => hR.c (by omega)) (fun k => hW.s24 _) 8 0 (by omega)
theorem RNo.same {ρ' : RS} (h : RNo σ ρ) (h2 : ρ'.2.2 2 = ρ.2.2 2) (h3 : ρ'.2.2 3 = ρ.2.2 3) (h5 : ρ'.2.2 5 = ρ.2.2 5) (h12 : ρ'.2.2 12 = ρ.2.2 12) : RNo σ ρ' := by
  unfold RNo at h ⊢
  rw [h2, h3, h5, h12]
  exact h
theorem Rf_note_lp (hW : WF T σ) {by_ : Int32} {l1 : Option Value} : ∀ (n : Nat) (ρ : RS), RNo σ ρ → n < sN σ → ∃ F G, (∀ m, F m = if onP σ n m = true ∧ sK σ m = 4 then ρ.2.2 6 m + by_ else ρ.2.2 6 m) ∧ (∀ m, G m = if onP σ n m = true ∧ sK σ m = 4 then nI (ch σ (sO σ m)) else ρ.2.2 7 m) ∧ ∀ Q, WP X (d + 4) 103 2 [some (.ref rm), l1, some (.int by_), some (.int (nI n))] [] (mm_R rm ρ M) Q = Q (.inl none) (mm_R rm (r_put (r_put ρ 6 F) 7 G) M) := by
  intro n
  induction n using Nat.strongRecOn with
  | _ n ih =>
    intro ρ hR hn
    have h40 := hW.n40
    have h12 := hW.k12 hn
    have hk := hR.k hn
    have e0 : ∀ j, r_put ρ j (ρ.2.2 j) = ρ := by
      intro j
      unfold r_put
      have : (fun i => if i = j then ρ.2.2 j else ρ.2.2 i) = ρ.2.2 := by
        funext i
        by_cases hi : i = j
        · rw [hi]; simp
        · rw [if_neg hi]
      rw [this]
    cases hb : kBased (sK σ n) with
    | false =>
      have hbe : ∀ Q, WPC X (d + 3) 76 [.ref rm, .int (nI n)] (mm_R rm ρ M) Q = Q (.inl (some (.int (b2i false)))) (mm_R rm ρ M) := fun Q => by rw [Rf_based_eq hW hR hn, hb]
      refine ⟨ρ.2.2 6, ρ.2.2 7, fun m => ?_, fun m => ?_, fun Q => ?_⟩
      · rw [on_at hW hn, hb]
        by_cases z : m = n
        · subst z
          rw [if_neg (fun y => by rw [y.2] at hb; exact absurd hb (by decide))]
        · rw [if_neg (by simp [z])]
      · rw [on_at hW hn, hb]
        by_cases z : m = n
        · subst z
          rw [if_neg (fun y => by rw [y.2] at hb; exact absurd hb (by decide))]
        · rw [if_neg (by simp [z])]
      · rw [e0, e0]
        rw [w_103_2]
        simp (disch := omega) only [w_103_0, w_103_1, w_103_3, w_103_4, w_103_7, w_103_10, w_103_11, w_103_14, w_103_15, w_103_16, w_103_17, w_103_20, w_103_21, w_103_24, w_103_25, w_103_26, w_103_27, w_103_28, w_103_29, w_103_30, w_103_31, w_103_34, w_103_35, w_103_36, w_103_37, w_103_40, w_103_41, w_103_42, w_103_45, w_103_46, w_103_47, w_103_50, w_103_51, w_103_52, w_103_53, w_103_56, mm_k_none, mm_k_int, mm_k_ref, mm_k_null, mm_K_inl, mm_tl_some, mm_tl_none, mm_fg_ok, mm_rc_ok, mm_fp_ok, mm_ai_ok, mm_si_ok, mm_az_ok, mm_sz_ok, z01, z11, zb, b2i_t, b2i_f, true_and, and_true, r_at, r_at_1, r_at_2, r_at_3, r_at_4, r_at_5, r_at_6, r_at_7, r_at_8, r_at_9, r_at_10, r_at_11, r_at_12, r_at_13, r_at_14, r_at_15, r_at_16, r_at_17, r_set_1, r_set_2, r_set_3, r_set_4, r_set_5, r_set_6, r_set_7, r_set_8, r_set_9, r_set_10, r_set_11, r_set_12, r_set_13, r_set_14, r_set_15, r_set_16, r_set_17, r_set_f, r_set_n, r_g_0, r_g_1, r_g_2, r_g_3, r_g_4, r_g_5, r_g_6, r_g_7, r_g_8, r_g_9, r_g_10, r_g_11, r_g_12, r_g_13, r_g_14, r_g_15, r_g_16, r_g_17, r_g_18, r_olen, Nat.zero_le, Nat.not_lt_zero, if_true, if_false, m1_lt, m1_ge, mm_inT, pk_mul, nI_add, mm_in_nI, mm_cl_nI, nI_eq, nI_ltI, nI_leI, ↓reduceIte, Nat.add_zero, Nat.reduceLeDiff, oI_some, oI_none, m1_lt, nI_lt0, Rf_fail_eq, Rf_out_eq, eq_self, not_true_eq_false, not_false_eq_true, Nat.reduceEqDiff, Nat.reduceLT, ne_eq, or_true, true_or, or_false, false_or, decide_true, decide_false, Bool.true_eq_false, Bool.false_eq_true, b2i_ne, hbe]
    | true =>
      have hbe : ∀ Q, WPC X (d + 3) 76 [.ref rm, .int (nI n)] (mm_R rm ρ M) Q = Q (.inl (some (.int (b2i true)))) (mm_R rm ρ M) := fun Q => by rw [Rf_based_eq hW hR hn, hb]
      have hk1 := kB_one hb
      have h1 := hW.o hn hk1
      have ho := hR.o hn hk1
      by_cases h4 : sK σ n = 4
      · have R2 : RNo σ (r_put (r_put ρ 6 (upd (ρ.2.2 6) n (ρ.2.2 6 n + by_))) 7 (upd (ρ.2.2 7) n (nI (ch σ (sO σ n))))) := hR.same (by rw [r_put_ne (by decide), r_put_ne (by decide)]) (by rw [r_put_ne (by decide), r_put_ne (by decide)]) (by rw [r_put_ne (by decide), r_put_ne (by decide)]) (by rw [r_put_ne (by decide), r_put_ne (by decide)])
        have R1 : RNo σ (r_put ρ 6 (upd (ρ.2.2 6) n (ρ.2.2 6 n + by_))) := hR.same (r_put_ne (by decide)) (r_put_ne (by decide)) (r_put_ne (by decide)) (r_put_ne (by decide))
        obtain ⟨F, G, hF, hG, hq⟩ := ih _ h1 _ R2 (by omega)
        have hno : onP σ (sO σ n) n = false := by
          cases z : onP σ (sO σ n) n with
          | false => rfl
          | true => exact absurd (on_le hW _ (by omega) z) (by omega)
        refine ⟨F, G, fun m => ?_, fun m => ?_, fun Q => ?_⟩
        · rw [hF, on_at hW hn, hb, r_put_ne (by decide), r_put_at]
          by_cases z : m = n
          · subst z
            rw [hno, if_neg (by simp), if_pos (by simp [h4]), up_at]
          · rw [up_ne z]
            simp [z]
        · rw [hG, on_at hW hn, hb, r_put_at]
          by_cases z : m = n
          · subst z
            rw [hno, if_neg (by simp), if_pos (by simp [h4]), up_at]
          · rw [up_ne z]
            simp [z]
        · have e6 : r_put (r_put (r_put (r_put ρ 6 (upd (ρ.2.2 6) n (ρ.2.2 6 n + by_))) 7 (upd (ρ.2.2 7) n (nI (ch σ (sO σ n))))) 6 F) 7 G = r_put (r_put ρ 6 F) 7 G := by
            unfold r_put
            congr 2
            funext i
            by_cases i7 : i = 7
            · simp [i7]
            · by_cases i6 : i = 6
              · simp [i6]
              · simp [i6, i7]
          rw [e6] at hq
          refine Eq.trans ?_ (hq Q)
          rw [w_103_2]
          simp (disch := omega) only [w_103_0, w_103_1, w_103_3, w_103_4, w_103_7, w_103_10, w_103_11, w_103_14, w_103_15, w_103_16, w_103_17, w_103_20, w_103_21, w_103_24, w_103_25, w_103_26, w_103_27, w_103_28, w_103_29, w_103_30, w_103_31, w_103_34, w_103_35, w_103_36, w_103_37, w_103_40, w_103_41, w_103_42, w_103_45, w_103_46, w_103_47, w_103_50, w_103_51, w_103_52, w_103_53, w_103_56, mm_k_none, mm_k_int, mm_k_ref, mm_k_null, mm_K_inl, mm_tl_some, mm_tl_none, mm_fg_ok, mm_rc_ok, mm_fp_ok, mm_ai_ok, mm_si_ok, mm_az_ok, mm_sz_ok, z01, z11, zb, b2i_t, b2i_f, true_and, and_true, r_at, r_at_1, r_at_2, r_at_3, r_at_4, r_at_5, r_at_6, r_at_7, r_at_8, r_at_9, r_at_10, r_at_11, r_at_12, r_at_13, r_at_14, r_at_15, r_at_16, r_at_17, r_set_1, r_set_2, r_set_3, r_set_4, r_set_5, r_set_6, r_set_7, r_set_8, r_set_9, r_set_10, r_set_11, r_set_12, r_set_13, r_set_14, r_set_15, r_set_16, r_set_17, r_set_f, r_set_n, r_g_0, r_g_1, r_g_2, r_g_3, r_g_4, r_g_5, r_g_6, r_g_7, r_g_8, r_g_9, r_g_10, r_g_11, r_g_12, r_g_13, r_g_14, r_g_15, r_g_16, r_g_17, r_g_18, r_olen, Nat.zero_le, Nat.not_lt_zero, if_true, if_false, m1_lt, m1_ge, mm_inT, pk_mul, nI_add, mm_in_nI, mm_cl_nI, nI_eq, nI_ltI, nI_leI, ↓reduceIte, Nat.add_zero, Nat.reduceLeDiff, oI_some, oI_none, m1_lt, nI_lt0, Rf_fail_eq, Rf_out_eq, eq_self, not_true_eq_false, not_false_eq_true, Nat.reduceEqDiff, Nat.reduceLT, ne_eq, or_true, true_or, or_false, false_or, decide_true, decide_false, Bool.true_eq_false, Bool.false_eq_true, b2i_ne, hbe, hk, h4, r_put_ne, ho, Rf_changesOf_eq hW R1 (show sO σ n < sN σ by omega)]
      · obtain ⟨F, G, hF, hG, hq⟩ := ih _ h1 ρ hR (by omega)
        refine ⟨F, G, fun m => ?_, fun m => ?_, fun Q => ?_⟩
        · rw [hF, on_at hW hn, hb]
          by_cases z : m = n
          · subst z
            rw [if_neg (fun y => h4 y.2), if_neg (fun y => h4 y.2)]
          · simp [z]
        · rw [hG, on_at hW hn, hb]
          by_cases z : m = n
          · subst z
            rw [if_neg (fun y => h4 y.2), if_neg (fun y => h4 y.2)]
          · simp [z]
        · refine Eq.trans ?_ (hq Q)
          rw [w_103_2]
          simp (disch := omega) only [w_103_0, w_103_1, w_103_3, w_103_4, w_103_7, w_103_10, w_103_11, w_103_14, w_103_15, w_103_16, w_103_17, w_103_20, w_103_21, w_103_24, w_103_25, w_103_26, w_103_27, w_103_28, w_103_29, w_103_30, w_103_31, w_103_34, w_103_35, w_103_36, w_103_37, w_103_40, w_103_41, w_103_42, w_103_45, w_103_46, w_103_47, w_103_50, w_103_51, w_103_52, w_103_53, w_103_56, mm_k_none, mm_k_int, mm_k_ref, mm_k_null, mm_K_inl, mm_tl_some, mm_tl_none, mm_fg_ok, mm_rc_ok, mm_fp_ok, mm_ai_ok, mm_si_ok, mm_az_ok, mm_sz_ok, z01, z11, zb, b2i_t, b2i_f, true_and, and_true, r_at, r_at_1, r_at_2, r_at_3, r_at_4, r_at_5, r_at_6, r_at_7, r_at_8, r_at_9, r_at_10, r_at_11, r_at_12, r_at_13, r_at_14, r_at_15, r_at_16, r_at_17, r_set_1, r_set_2, r_set_3, r_set_4, r_set_5, r_set_6, r_set_7, r_set_8, r_set_9, r_set_10, r_set_11, r_set_12, r_set_13, r_set_14, r_set_15, r_set_16, r_set_17, r_set_f, r_set_n, r_g_0, r_g_1, r_g_2, r_g_3, r_g_4, r_g_5, r_g_6, r_g_7, r_g_8, r_g_9, r_g_10, r_g_11, r_g_12, r_g_13, r_g_14, r_g_15, r_g_16, r_g_17, r_g_18, r_olen, Nat.zero_le, Nat.not_lt_zero, if_true, if_false, m1_lt, m1_ge, mm_inT, pk_mul, nI_add, mm_in_nI, mm_cl_nI, nI_eq, nI_ltI, nI_leI, ↓reduceIte, Nat.add_zero, Nat.reduceLeDiff, oI_some, oI_none, m1_lt, nI_lt0, Rf_fail_eq, Rf_out_eq, eq_self, not_true_eq_false, not_false_eq_true, Nat.reduceEqDiff, Nat.reduceLT, ne_eq, or_true, true_or, or_false, false_or, decide_true, decide_false, Bool.true_eq_false, Bool.false_eq_true, b2i_ne, hbe, hk, h4, ho]
end RF16
