/-! the class: stores change -/
def insG {α : Type} (L : List α) (i : Nat) (v : α) : List α := L.take i ++ v :: L.drop i
def delG {α : Type} (L : List α) (i : Nat) : List α := L.take i ++ L.drop (i + 1)
theorem insG_len {α : Type} {L : List α} {i : Nat} {v : α} (h : i ≤ L.length) : (insG L i v).length = L.length + 1 := by
  unfold insG
  simp
  omega
theorem delG_len {α : Type} {L : List α} {i : Nat} (h : i < L.length) : (delG L i).length = L.length - 1 := by
  unfold delG
  simp
  omega
theorem insG_lt {α : Type} {L : List α} {i q : Nat} {v : α} (h : i ≤ L.length) (hq : q < i) (hq2 : q < (insG L i v).length) : (insG L i v)[q] = L[q] := by
  unfold insG at hq2 ⊢
  rw [List.getElem_append_left (by simp; omega)]
  simp
theorem insG_eq {α : Type} {L : List α} {i : Nat} {v : α} (h : i ≤ L.length) (hq2 : i < (insG L i v).length) : (insG L i v)[i] = v := by
  unfold insG at hq2 ⊢
  rw [List.getElem_append_right (by simp; omega)]
  simp [Nat.min_eq_left h]
theorem insG_gt {α : Type} {L : List α} {i q : Nat} {v : α} (h : i ≤ L.length) (hq : i < q) (hq2 : q < (insG L i v).length) : (insG L i v)[q] = L[q - 1]'(by have := insG_len (v := v) h; omega) := by
  have hl := insG_len (v := v) h
  unfold insG at hq2 ⊢
  rw [List.getElem_append_right (by simp; omega)]
  simp only [List.length_take, Nat.min_eq_left h]
  obtain ⟨p, rfl⟩ : ∃ p, q = i + 1 + p := ⟨q - i - 1, by omega⟩
  have e : i + 1 + p - i = p + 1 := by omega
  simp only [e, List.getElem_cons_succ, List.getElem_drop]
  congr 1
  omega
theorem delG_lt {α : Type} {L : List α} {i q : Nat} (h : i < L.length) (hq : q < i) (hq2 : q < (delG L i).length) : (delG L i)[q] = L[q] := by
  unfold delG at hq2 ⊢
  rw [List.getElem_append_left (by simp; omega)]
  simp
theorem delG_ge {α : Type} {L : List α} {i q : Nat} (h : i < L.length) (hq : i ≤ q) (hq2 : q < (delG L i).length) : (delG L i)[q] = L[q + 1]'(by have := delG_len h; omega) := by
  unfold delG at hq2 ⊢
  rw [List.getElem_append_right (by simp; omega)]
  simp only [List.length_take, Nat.min_eq_left (Nat.le_of_lt h), List.getElem_drop]
  congr 1
  omega
/-- only store n differs -/
def oS (n : Nat) (β β' : CS) : Prop := (∀ c' m', ¬ (m' = n ∧ 6 ≤ c' ∧ c' ≤ 8) → β'.1 c' m' = β.1 c' m') ∧ ∀ m', m' ≠ n → β'.2 m' = β.2 m'
theorem c_cnt_1 {β : CS} {n : Nat} {x : Int32} : (c_cnt β n x).1 = β.1 := rfl
theorem c_cnt_at {β : CS} {n : Nat} {x : Int32} : (c_cnt β n x).2 n = x := if_pos rfl
theorem c_cnt_ne {β : CS} {n m : Nat} {x : Int32} (h : m ≠ n) : (c_cnt β n x).2 m = β.2 m := if_neg h
theorem c_put_76 {β : CS} {n : Nat} {f g : Nat → Int32} : c_put (c_put β 7 n f) 6 n g = c_put (c_put β 6 n g) 7 n f := by
  unfold c_put
  congr 1
  funext c' n'
  by_cases h6 : c' = 6
  · have : ¬ c' = 7 := by omega
    simp [h6]
  · simp [h6]
section CL13
variable {X : Nat × Nat × (Nat → Int32)} {d T n c m : Nat} {Λ : Lay} {σ : Sg} {β : CS} {M : mm_M}
theorem c_set_cnt (hL : LK Λ σ) (hn : n < sN σ) (hk : kS (sK σ n) = true) {x : Int32} : mm_set (mm_C Λ σ β M) (Λ.1 5 n) (.inr (1, (c_st Λ β n).set 3 (.int x))) = mm_C Λ σ (c_cnt β n x) M := by
  refine c_set hL ((hL.2.2 n hn).2.1 hk 5 (by decide) (by decide)) ?_ fun c' n' hne => ?_
  · show (.inr (1, c_st Λ (c_cnt β n x) n) : mm_O) = _
    unfold c_st
    rw [c_cnt_at]
    rfl
  · by_cases h5 : c' = 5
    · subst h5
      have : n' ≠ n := fun z => hne (by rw [z])
      show (.inr (1, c_st Λ (c_cnt β n x) n') : mm_O) = .inr (1, c_st Λ β n')
      unfold c_st
      rw [c_cnt_ne this]
    · unfold c_cell
      simp only [h5, if_false]
      rfl
theorem c_set_6 (hL : LK Λ σ) (hn : n < sN σ) (hk : kS (sK σ n) = true) {f : Nat → Int32} : mm_set (mm_C Λ σ β M) (Λ.1 6 n) (.inl (0, c_len σ 6 n, .inl f)) = mm_C Λ σ (c_put β 6 n f) M := c_set_arr hL ((hL.2.2 n hn).2.1 hk 6 (by decide) (by decide)) (by decide) rfl
theorem c_set_7 (hL : LK Λ σ) (hn : n < sN σ) (hk : kS (sK σ n) = true) {f : Nat → Int32} : mm_set (mm_C Λ σ β M) (Λ.1 7 n) (.inl (0, c_len σ 7 n, .inl f)) = mm_C Λ σ (c_put β 7 n f) M := c_set_arr hL ((hL.2.2 n hn).2.1 hk 7 (by decide) (by decide)) (by decide) rfl
theorem c_set_8 (hL : LK Λ σ) (hn : n < sN σ) (hk : kS (sK σ n) = true) {f : Nat → Int32} : mm_set (mm_C Λ σ β M) (Λ.1 8 n) (.inl (0, c_len σ 8 n, .inl f)) = mm_C Λ σ (c_put β 8 n f) M := c_set_arr hL ((hL.2.2 n hn).2.1 hk 8 (by decide) (by decide)) (by decide) rfl
theorem c_len8_le : c_len σ 8 n ≤ 8 := by
  show (if sK σ n = 6 then 8 else 1) ≤ 8
  split <;> omega
theorem St_putIn_eq (hL : LK Λ σ) (hn : n < sN σ) (hk : kS (sK σ n) = true) {P : List (Nat × Int32)} (hP : holds β n P) (h8 : ∀ p, p ∈ P → p.1 < 8) (hl : P.length < c_len σ 6 n) {key i : Nat} {v : Int32} (hkey : key < c_len σ 8 n) (hi : fsK key P + i ≤ P.length) : ∃ β', oS n β β' ∧ holds β' n (insG P (fsK key P + i) (key, v)) ∧ β'.1 8 n = upd (β.1 8 n) key (β.1 8 n key + nI 1) ∧ ∀ Q, WPC X (d + 1) 10 [.ref (Λ.1 5 n), .int (nI key), .int (nI i), .int v] (mm_C Λ σ β M) Q = Q (.inl none) (mm_C Λ σ β' M) := by
  have hst := fun β => c_st_at (β := β) (M := M) hL hn hk
  have h6 := fun β => c_arr_at (β := β) (M := M) hL hn hk (c := 6) (Or.inl rfl)
  have h7 := fun β => c_arr_at (β := β) (M := M) hL hn hk (c := 7) (Or.inr (Or.inl rfl))
  have hc8 := fun β => c_arr_at (β := β) (M := M) hL hn hk (c := 8) (Or.inr (Or.inr rfl))
  have g := c_len6_le (σ := σ) (n := n)
  have g7 : c_len σ 7 n = c_len σ 6 n := rfl
  have g8 := c_len8_le (σ := σ) (n := n)
  have hfs := fun Q => St_firstOf_eq (X := X) (d := d) (M := M) (Q := Q) hL hn hk hP h8 (by omega) (show key < 8 by omega)
  generalize hw : fsK key P + i = w at hi ⊢
  have hil := insG_len (L := P) (i := w) (v := (key, v)) hi
  refine ⟨c_put (c_cnt (c_put (c_put β 6 n (upd (va_cpy (β.1 6 n) (β.1 6 n) w (w + 1) (P.length - w)) w v)) 7 n (upd (va_cpy (β.1 7 n) (β.1 7 n) w (w + 1) (P.length - w)) w (nI key))) n (nI (P.length + 1))) 8 n (upd (β.1 8 n) key (β.1 8 n key + nI 1)), ⟨fun c' m' h => ?_, fun m' h => ?_⟩, ⟨?_, fun j hj => ?_⟩, c_put_at, fun Q => ?_⟩
  · rw [c_put_ne (by omega), c_cnt_1, c_put_ne (by omega), c_put_ne (by omega)]
  · show (c_cnt _ n _).2 m' = _
    rw [c_cnt_ne h]
    rfl
  · show (c_cnt _ n _).2 n = _
    rw [c_cnt_at, hil]
  · rw [c_put_ne (by omega), c_put_ne (by omega), c_cnt_1, c_put_ne (by omega), c_put_at, c_put_at]
    by_cases z : j < w
    · rw [up_ne (by omega), up_ne (by omega), pk_cpy_out (by omega), pk_cpy_out (by omega), insG_lt hi z]
      exact hP.2 j (by omega)
    · by_cases z2 : j = w
      · subst z2
        rw [up_at, up_at, insG_eq hi]
        exact ⟨rfl, rfl⟩
      · rw [up_ne z2, up_ne z2, pk_cpy_in (by omega) (by omega), pk_cpy_in (by omega) (by omega), insG_gt hi (by omega), show w + (j - (w + 1)) = j - 1 by omega]
        exact hP.2 (j - 1) (by omega)
  · simp (disch := omega) only [e_10, w_10_0, w_10_1, w_10_2, w_10_5, w_10_6, w_10_7, w_10_9, w_10_10, w_10_13, w_10_15, w_10_16, w_10_19, w_10_21, w_10_22, w_10_23, w_10_24, w_10_27, w_10_29, w_10_30, w_10_33, w_10_34, w_10_37, w_10_39, w_10_40, w_10_43, w_10_45, w_10_46, w_10_47, w_10_48, w_10_51, w_10_53, w_10_54, w_10_57, w_10_58, w_10_61, w_10_63, w_10_64, w_10_65, w_10_66, w_10_69, w_10_71, w_10_72, w_10_73, w_10_74, w_10_75, w_10_78, w_10_79, w_10_80, w_10_83, w_10_84, w_10_87, w_10_88, w_10_89, w_10_90, w_10_91, w_10_92, w_10_93, mm_k_none, mm_k_int, mm_k_ref, mm_k_null, mm_K_inl, mm_tl_some, mm_tl_none, mm_fg_ok, mm_rc_ok, mm_fp_ok, mm_ai_ok, mm_si_ok, mm_az_ok, mm_sz_ok, z01, z11, zb, b2i_t, b2i_f, true_and, and_true, c_g0, c_g1, c_g2, c_g3, c_g4, c_g5, c_g6, c_g7, c_g8, c_g9, c_g10, c_g11, c_g12, c_gl, c_o0, c_o1, c_o2, c_o3, c_ol, c_s0, c_s1, c_s2, c_s3, c_sl, Nat.zero_le, Nat.not_lt_zero, if_true, if_false, m1_lt, m1_ge, mm_inT, pk_mul, nI_add, mm_in_nI, mm_cl_nI, nI_eq, nI_ltI, nI_leI, ↓reduceIte, Nat.add_zero, Nat.reduceLeDiff, oI_some, oI_none, m1_lt, nI_lt0, Rf_fail_eq, Rf_out_eq, eq_self, not_true_eq_false, not_false_eq_true, Nat.reduceEqDiff, Nat.reduceLT, ne_eq, or_true, true_or, or_false, false_or, decide_true, decide_false, Bool.true_eq_false, Bool.false_eq_true, b2i_ne, hst, h6, h7, hc8, hfs, hw, hP.1, nI_m, mm_cpT, c_set_6 hL hn hk, c_set_7 hL hn hk, c_set_8 hL hn hk, c_set_cnt hL hn hk, c_put_2, c_put_at, c_put_ne, c_putput, c_put_76, c_cnt_1, c_cnt_at, ne_eq]
theorem St_takeOut_eq (hL : LK Λ σ) (hn : n < sN σ) (hk : kS (sK σ n) = true) {P : List (Nat × Int32)} (hP : holds β n P) (hl : P.length ≤ c_len σ 6 n) {w : Nat} (hw : w < P.length) (hkey : P[w].1 < c_len σ 8 n) : ∃ β', oS n β β' ∧ holds β' n (delG P w) ∧ β'.1 8 n = upd (β.1 8 n) P[w].1 (β.1 8 n P[w].1 + nI 1) ∧ ∀ Q, WPC X (d + 1) 12 [.ref (Λ.1 5 n), .int (nI w)] (mm_C Λ σ β M) Q = Q (.inl none) (mm_C Λ σ β' M) := by
  have hst := fun β => c_st_at (β := β) (M := M) hL hn hk
  have h6 := fun β => c_arr_at (β := β) (M := M) hL hn hk (c := 6) (Or.inl rfl)
  have h7 := fun β => c_arr_at (β := β) (M := M) hL hn hk (c := 7) (Or.inr (Or.inl rfl))
  have hc8 := fun β => c_arr_at (β := β) (M := M) hL hn hk (c := 8) (Or.inr (Or.inr rfl))
  have g := c_len6_le (σ := σ) (n := n)
  have g7 : c_len σ 7 n = c_len σ 6 n := rfl
  have g8 := c_len8_le (σ := σ) (n := n)
  have hil := delG_len (L := P) (i := w) hw
  have ekey := (hP.2 w hw).2
  refine ⟨c_put (c_put (c_cnt (c_put β 8 n (upd (β.1 8 n) P[w].1 (β.1 8 n P[w].1 + nI 1))) n (nI (P.length - 1))) 6 n (va_cpy (β.1 6 n) (β.1 6 n) (w + 1) w (P.length - 1 - w))) 7 n (va_cpy (β.1 7 n) (β.1 7 n) (w + 1) w (P.length - 1 - w)), ⟨fun c' m' h => ?_, fun m' h => ?_⟩, ⟨?_, fun j hj => ?_⟩, ?_, fun Q => ?_⟩
  · rw [c_put_ne (by omega), c_put_ne (by omega), c_cnt_1, c_put_ne (by omega)]
  · show (c_cnt _ n _).2 m' = _
    rw [c_cnt_ne h]
    rfl
  · show (c_cnt _ n _).2 n = _
    rw [c_cnt_at, hil]
  · rw [c_put_ne (by omega), c_put_at, c_put_at]
    by_cases z : j < w
    · rw [pk_cpy_out (by omega), pk_cpy_out (by omega), delG_lt hw z]
      exact hP.2 j (by omega)
    · rw [pk_cpy_in (by omega) (by omega), pk_cpy_in (by omega) (by omega), delG_ge hw (by omega), show w + 1 + (j - w) = j + 1 by omega]
      exact hP.2 (j + 1) (by omega)
  · rw [c_put_ne (by omega), c_put_ne (by omega), c_cnt_1, c_put_at]
  · simp (disch := omega) only [e_12, w_12_0, w_12_1, w_12_4, w_12_5, w_12_8, w_12_9, w_12_10, w_12_11, w_12_12, w_12_13, w_12_14, w_12_15, w_12_16, w_12_17, w_12_20, w_12_21, w_12_22, w_12_25, w_12_26, w_12_29, w_12_30, w_12_31, w_12_32, w_12_33, w_12_36, w_12_37, w_12_38, w_12_41, w_12_42, w_12_43, w_12_46, w_12_47, w_12_50, w_12_51, w_12_52, w_12_53, w_12_54, w_12_57, w_12_58, w_12_59, w_12_62, w_12_63, w_12_64, w_12_67, mm_k_none, mm_k_int, mm_k_ref, mm_k_null, mm_K_inl, mm_tl_some, mm_tl_none, mm_fg_ok, mm_rc_ok, mm_fp_ok, mm_ai_ok, mm_si_ok, mm_az_ok, mm_sz_ok, z01, z11, zb, b2i_t, b2i_f, true_and, and_true, c_g0, c_g1, c_g2, c_g3, c_g4, c_g5, c_g6, c_g7, c_g8, c_g9, c_g10, c_g11, c_g12, c_gl, c_o0, c_o1, c_o2, c_o3, c_ol, c_s0, c_s1, c_s2, c_s3, c_sl, Nat.zero_le, Nat.not_lt_zero, if_true, if_false, m1_lt, m1_ge, mm_inT, pk_mul, nI_add, mm_in_nI, mm_cl_nI, nI_eq, nI_ltI, nI_leI, ↓reduceIte, Nat.add_zero, Nat.reduceLeDiff, oI_some, oI_none, m1_lt, nI_lt0, Rf_fail_eq, Rf_out_eq, eq_self, not_true_eq_false, not_false_eq_true, Nat.reduceEqDiff, Nat.reduceLT, ne_eq, or_true, true_or, or_false, false_or, decide_true, decide_false, Bool.true_eq_false, Bool.false_eq_true, b2i_ne, hst, h6, h7, hc8, ekey, hP.1, nI_m, mm_cpT, c_set_6 hL hn hk, c_set_7 hL hn hk, c_set_8 hL hn hk, c_set_cnt hL hn hk, c_put_2, c_put_at, c_put_ne, c_putput, c_cnt_1, c_cnt_at, ne_eq]
theorem St_replace_eq (hL : LK Λ σ) (hn : n < sN σ) (hk : kS (sK σ n) = true) {P : List (Nat × Int32)} (hP : holds β n P) (h8 : ∀ p, p ∈ P → p.1 < 8) (hl : P.length ≤ c_len σ 6 n) {key i : Nat} {v : Int32} (hkey : key < 8) (hi : fsK key P + i < P.length) : ∀ Q, WPC X (d + 1) 11 [.ref (Λ.1 5 n), .int (nI key), .int (nI i), .int v] (mm_C Λ σ β M) Q = Q (.inl (some (.int P[fsK key P + i].2))) (mm_C Λ σ (c_put β 6 n (upd (β.1 6 n) (fsK key P + i) v)) M) := by
  have hst := fun β => c_st_at (β := β) (M := M) hL hn hk
  have h6 := fun β => c_arr_at (β := β) (M := M) hL hn hk (c := 6) (Or.inl rfl)
  have g := c_len6_le (σ := σ) (n := n)
  have hfs := fun Q => St_firstOf_eq (X := X) (d := d) (M := M) (Q := Q) hL hn hk hP h8 hl hkey
  have e := (hP.2 _ hi).1
  intro Q
  simp (disch := omega) only [e_11, w_11_0, w_11_1, w_11_2, w_11_5, w_11_6, w_11_7, w_11_9, w_11_10, w_11_13, w_11_15, w_11_16, w_11_18, w_11_19, w_11_22, w_11_24, w_11_25, w_11_26, w_11_28, mm_k_none, mm_k_int, mm_k_ref, mm_k_null, mm_K_inl, mm_tl_some, mm_tl_none, mm_fg_ok, mm_rc_ok, mm_fp_ok, mm_ai_ok, mm_si_ok, mm_az_ok, mm_sz_ok, z01, z11, zb, b2i_t, b2i_f, true_and, and_true, c_g0, c_g1, c_g2, c_g3, c_g4, c_g5, c_g6, c_g7, c_g8, c_g9, c_g10, c_g11, c_g12, c_gl, c_o0, c_o1, c_o2, c_o3, c_ol, c_s0, c_s1, c_s2, c_s3, c_sl, Nat.zero_le, Nat.not_lt_zero, if_true, if_false, m1_lt, m1_ge, mm_inT, pk_mul, nI_add, mm_in_nI, mm_cl_nI, nI_eq, nI_ltI, nI_leI, ↓reduceIte, Nat.add_zero, Nat.reduceLeDiff, oI_some, oI_none, m1_lt, nI_lt0, Rf_fail_eq, Rf_out_eq, eq_self, not_true_eq_false, not_false_eq_true, Nat.reduceEqDiff, Nat.reduceLT, ne_eq, or_true, true_or, or_false, false_or, decide_true, decide_false, Bool.true_eq_false, Bool.false_eq_true, b2i_ne, hst, h6, hfs, e, c_set_6 hL hn hk]
end CL13
