/-! the reference: its memory as an overlay -/
/-- failed, nodes, and the arrays by their place behind the object: 1 handle 2 kind 3 one 4 two 5 number 6 partLength 7 noted 8 leaves 9 height 10 ints 11 count 12 changes 13 order 14 keys 15 need 16 el 17 size -/
abbrev RS : Type := Int32 × Int32 × (Nat → Nat → Int32)
def r_len (j : Nat) : Nat := match j with
  | 1 => 10
  | 10 => 7680
  | 11 => 320
  | 12 => 320
  | 13 => 320
  | 16 => 3200
  | _ => 40
def r_obj (rm : Nat) (ρ : RS) : List Value := [.int ρ.1, .ref (rm + 1), .ref (rm + 2), .ref (rm + 3), .ref (rm + 4), .ref (rm + 5), .ref (rm + 6), .ref (rm + 7), .ref (rm + 8), .ref (rm + 9), .int ρ.2.1, .ref (rm + 10), .ref (rm + 11), .ref (rm + 12), .ref (rm + 13), .ref (rm + 14), .ref (rm + 15), .ref (rm + 16), .ref (rm + 17)]
def r_cell (rm : Nat) (ρ : RS) (j : Nat) : mm_O := if j = 0 then .inr (3, r_obj rm ρ) else .inl (if j = 15 then 1 else 0, r_len j, .inl (ρ.2.2 j))
/-- the memory with the reference laid over it -/
def mm_R (rm : Nat) (ρ : RS) (M : mm_M) : mm_M := (M.1, M.2.1, fun q => if rm ≤ q ∧ q < rm + 18 then some (r_cell rm ρ (q - rm)) else M.2.2 q)
def r_put (ρ : RS) (j : Nat) (f : Nat → Int32) : RS := (ρ.1, ρ.2.1, fun i => if i = j then f else ρ.2.2 i)
theorem r_at {rm : Nat} {ρ : RS} {M : mm_M} : (mm_R rm ρ M).2.2 rm = some (.inr (3, r_obj rm ρ)) := by simp [mm_R, r_cell]
theorem r_at_j {rm : Nat} {ρ : RS} {M : mm_M} (j : Nat) (h0 : j ≠ 0) (hj : j < 18) : (mm_R rm ρ M).2.2 (rm + j) = some (.inl (if j = 15 then 1 else 0, r_len j, .inl (ρ.2.2 j))) := by
  simp [mm_R, r_cell, h0, hj]
theorem r_set_j {rm : Nat} {ρ : RS} {M : mm_M} (j : Nat) (h0 : j ≠ 0) (hj : j < 18) {t : Nat} {f : Nat → Int32} {n : Nat} (hn : n = r_len j) (ht : t = if j = 15 then 1 else 0) : mm_set (mm_R rm ρ M) (rm + j) (.inl (t, n, .inl f)) = mm_R rm (r_put ρ j f) M := by
  subst hn; subst ht
  unfold mm_set mm_R
  congr 2
  funext q
  by_cases hq : q = rm + j
  · subst hq
    simp [r_cell, h0, hj, r_put]
  · rw [if_neg hq]
    by_cases h : rm ≤ q ∧ q < rm + 18
    · have h2 : ¬ q - rm = j := by omega
      simp only [if_pos h, r_cell, r_put, r_obj, h2, if_false]
    · simp only [if_neg h]
theorem r_set_0 {rm : Nat} {ρ : RS} {M : mm_M} {fs : List Value} {ρ' : RS} (h : fs = r_obj rm ρ') (ha : ρ'.2.2 = ρ.2.2) : mm_set (mm_R rm ρ M) rm (.inr (3, fs)) = mm_R rm ρ' M := by
  subst h
  unfold mm_set mm_R
  congr 2
  funext q
  by_cases hq : q = rm
  · subst hq
    simp [r_cell]
  · rw [if_neg hq]
    by_cases h : rm ≤ q ∧ q < rm + 18
    · have h2 : ¬ q - rm = 0 := by omega
      simp only [if_pos h, r_cell, h2, if_false, ha]
    · simp only [if_neg h]
theorem r_at_1 {rm : Nat} {ρ : RS} {M : mm_M} : (mm_R rm ρ M).2.2 (rm + 1) = some (.inl (0, 10, .inl (ρ.2.2 1))) := r_at_j 1 (by decide) (by decide)
theorem r_at_2 {rm : Nat} {ρ : RS} {M : mm_M} : (mm_R rm ρ M).2.2 (rm + 2) = some (.inl (0, 40, .inl (ρ.2.2 2))) := r_at_j 2 (by decide) (by decide)
theorem r_at_3 {rm : Nat} {ρ : RS} {M : mm_M} : (mm_R rm ρ M).2.2 (rm + 3) = some (.inl (0, 40, .inl (ρ.2.2 3))) := r_at_j 3 (by decide) (by decide)
theorem r_at_4 {rm : Nat} {ρ : RS} {M : mm_M} : (mm_R rm ρ M).2.2 (rm + 4) = some (.inl (0, 40, .inl (ρ.2.2 4))) := r_at_j 4 (by decide) (by decide)
theorem r_at_5 {rm : Nat} {ρ : RS} {M : mm_M} : (mm_R rm ρ M).2.2 (rm + 5) = some (.inl (0, 40, .inl (ρ.2.2 5))) := r_at_j 5 (by decide) (by decide)
theorem r_at_6 {rm : Nat} {ρ : RS} {M : mm_M} : (mm_R rm ρ M).2.2 (rm + 6) = some (.inl (0, 40, .inl (ρ.2.2 6))) := r_at_j 6 (by decide) (by decide)
theorem r_at_7 {rm : Nat} {ρ : RS} {M : mm_M} : (mm_R rm ρ M).2.2 (rm + 7) = some (.inl (0, 40, .inl (ρ.2.2 7))) := r_at_j 7 (by decide) (by decide)
theorem r_at_8 {rm : Nat} {ρ : RS} {M : mm_M} : (mm_R rm ρ M).2.2 (rm + 8) = some (.inl (0, 40, .inl (ρ.2.2 8))) := r_at_j 8 (by decide) (by decide)
theorem r_at_9 {rm : Nat} {ρ : RS} {M : mm_M} : (mm_R rm ρ M).2.2 (rm + 9) = some (.inl (0, 40, .inl (ρ.2.2 9))) := r_at_j 9 (by decide) (by decide)
theorem r_at_10 {rm : Nat} {ρ : RS} {M : mm_M} : (mm_R rm ρ M).2.2 (rm + 10) = some (.inl (0, 7680, .inl (ρ.2.2 10))) := r_at_j 10 (by decide) (by decide)
theorem r_at_11 {rm : Nat} {ρ : RS} {M : mm_M} : (mm_R rm ρ M).2.2 (rm + 11) = some (.inl (0, 320, .inl (ρ.2.2 11))) := r_at_j 11 (by decide) (by decide)
theorem r_at_12 {rm : Nat} {ρ : RS} {M : mm_M} : (mm_R rm ρ M).2.2 (rm + 12) = some (.inl (0, 320, .inl (ρ.2.2 12))) := r_at_j 12 (by decide) (by decide)
theorem r_at_13 {rm : Nat} {ρ : RS} {M : mm_M} : (mm_R rm ρ M).2.2 (rm + 13) = some (.inl (0, 320, .inl (ρ.2.2 13))) := r_at_j 13 (by decide) (by decide)
theorem r_at_14 {rm : Nat} {ρ : RS} {M : mm_M} : (mm_R rm ρ M).2.2 (rm + 14) = some (.inl (0, 40, .inl (ρ.2.2 14))) := r_at_j 14 (by decide) (by decide)
theorem r_at_15 {rm : Nat} {ρ : RS} {M : mm_M} : (mm_R rm ρ M).2.2 (rm + 15) = some (.inl (1, 40, .inl (ρ.2.2 15))) := r_at_j 15 (by decide) (by decide)
theorem r_at_16 {rm : Nat} {ρ : RS} {M : mm_M} : (mm_R rm ρ M).2.2 (rm + 16) = some (.inl (0, 3200, .inl (ρ.2.2 16))) := r_at_j 16 (by decide) (by decide)
theorem r_at_17 {rm : Nat} {ρ : RS} {M : mm_M} : (mm_R rm ρ M).2.2 (rm + 17) = some (.inl (0, 40, .inl (ρ.2.2 17))) := r_at_j 17 (by decide) (by decide)
theorem r_set_1 {rm : Nat} {ρ : RS} {M : mm_M} {f : Nat → Int32} : mm_set (mm_R rm ρ M) (rm + 1) (.inl (0, 10, .inl f)) = mm_R rm (r_put ρ 1 f) M := r_set_j 1 (by decide) (by decide) rfl rfl
theorem r_set_2 {rm : Nat} {ρ : RS} {M : mm_M} {f : Nat → Int32} : mm_set (mm_R rm ρ M) (rm + 2) (.inl (0, 40, .inl f)) = mm_R rm (r_put ρ 2 f) M := r_set_j 2 (by decide) (by decide) rfl rfl
theorem r_set_3 {rm : Nat} {ρ : RS} {M : mm_M} {f : Nat → Int32} : mm_set (mm_R rm ρ M) (rm + 3) (.inl (0, 40, .inl f)) = mm_R rm (r_put ρ 3 f) M := r_set_j 3 (by decide) (by decide) rfl rfl
theorem r_set_4 {rm : Nat} {ρ : RS} {M : mm_M} {f : Nat → Int32} : mm_set (mm_R rm ρ M) (rm + 4) (.inl (0, 40, .inl f)) = mm_R rm (r_put ρ 4 f) M := r_set_j 4 (by decide) (by decide) rfl rfl
theorem r_set_5 {rm : Nat} {ρ : RS} {M : mm_M} {f : Nat → Int32} : mm_set (mm_R rm ρ M) (rm + 5) (.inl (0, 40, .inl f)) = mm_R rm (r_put ρ 5 f) M := r_set_j 5 (by decide) (by decide) rfl rfl
theorem r_set_6 {rm : Nat} {ρ : RS} {M : mm_M} {f : Nat → Int32} : mm_set (mm_R rm ρ M) (rm + 6) (.inl (0, 40, .inl f)) = mm_R rm (r_put ρ 6 f) M := r_set_j 6 (by decide) (by decide) rfl rfl
theorem r_set_7 {rm : Nat} {ρ : RS} {M : mm_M} {f : Nat → Int32} : mm_set (mm_R rm ρ M) (rm + 7) (.inl (0, 40, .inl f)) = mm_R rm (r_put ρ 7 f) M := r_set_j 7 (by decide) (by decide) rfl rfl
theorem r_set_8 {rm : Nat} {ρ : RS} {M : mm_M} {f : Nat → Int32} : mm_set (mm_R rm ρ M) (rm + 8) (.inl (0, 40, .inl f)) = mm_R rm (r_put ρ 8 f) M := r_set_j 8 (by decide) (by decide) rfl rfl
theorem r_set_9 {rm : Nat} {ρ : RS} {M : mm_M} {f : Nat → Int32} : mm_set (mm_R rm ρ M) (rm + 9) (.inl (0, 40, .inl f)) = mm_R rm (r_put ρ 9 f) M := r_set_j 9 (by decide) (by decide) rfl rfl
theorem r_set_10 {rm : Nat} {ρ : RS} {M : mm_M} {f : Nat → Int32} : mm_set (mm_R rm ρ M) (rm + 10) (.inl (0, 7680, .inl f)) = mm_R rm (r_put ρ 10 f) M := r_set_j 10 (by decide) (by decide) rfl rfl
theorem r_set_11 {rm : Nat} {ρ : RS} {M : mm_M} {f : Nat → Int32} : mm_set (mm_R rm ρ M) (rm + 11) (.inl (0, 320, .inl f)) = mm_R rm (r_put ρ 11 f) M := r_set_j 11 (by decide) (by decide) rfl rfl
theorem r_set_12 {rm : Nat} {ρ : RS} {M : mm_M} {f : Nat → Int32} : mm_set (mm_R rm ρ M) (rm + 12) (.inl (0, 320, .inl f)) = mm_R rm (r_put ρ 12 f) M := r_set_j 12 (by decide) (by decide) rfl rfl
theorem r_set_13 {rm : Nat} {ρ : RS} {M : mm_M} {f : Nat → Int32} : mm_set (mm_R rm ρ M) (rm + 13) (.inl (0, 320, .inl f)) = mm_R rm (r_put ρ 13 f) M := r_set_j 13 (by decide) (by decide) rfl rfl
theorem r_set_14 {rm : Nat} {ρ : RS} {M : mm_M} {f : Nat → Int32} : mm_set (mm_R rm ρ M) (rm + 14) (.inl (0, 40, .inl f)) = mm_R rm (r_put ρ 14 f) M := r_set_j 14 (by decide) (by decide) rfl rfl
theorem r_set_15 {rm : Nat} {ρ : RS} {M : mm_M} {f : Nat → Int32} : mm_set (mm_R rm ρ M) (rm + 15) (.inl (1, 40, .inl f)) = mm_R rm (r_put ρ 15 f) M := r_set_j 15 (by decide) (by decide) rfl rfl
theorem r_set_16 {rm : Nat} {ρ : RS} {M : mm_M} {f : Nat → Int32} : mm_set (mm_R rm ρ M) (rm + 16) (.inl (0, 3200, .inl f)) = mm_R rm (r_put ρ 16 f) M := r_set_j 16 (by decide) (by decide) rfl rfl
theorem r_set_17 {rm : Nat} {ρ : RS} {M : mm_M} {f : Nat → Int32} : mm_set (mm_R rm ρ M) (rm + 17) (.inl (0, 40, .inl f)) = mm_R rm (r_put ρ 17 f) M := r_set_j 17 (by decide) (by decide) rfl rfl
theorem r_set_f {rm : Nat} {ρ : RS} {M : mm_M} {x : Int32} : mm_set (mm_R rm ρ M) rm (.inr (3, (r_obj rm ρ).set 0 (.int x))) = mm_R rm (x, ρ.2.1, ρ.2.2) M := r_set_0 (ρ' := (x, ρ.2.1, ρ.2.2)) rfl rfl
theorem r_set_n {rm : Nat} {ρ : RS} {M : mm_M} {x : Int32} : mm_set (mm_R rm ρ M) rm (.inr (3, (r_obj rm ρ).set 10 (.int x))) = mm_R rm (ρ.1, x, ρ.2.2) M := r_set_0 (ρ' := (ρ.1, x, ρ.2.2)) rfl rfl
theorem r_g_0 {rm : Nat} {ρ : RS} : (r_obj rm ρ)[0]? = some (.int ρ.1) := rfl
theorem r_g_1 {rm : Nat} {ρ : RS} : (r_obj rm ρ)[1]? = some (.ref (rm + 1)) := rfl
theorem r_g_2 {rm : Nat} {ρ : RS} : (r_obj rm ρ)[2]? = some (.ref (rm + 2)) := rfl
theorem r_g_3 {rm : Nat} {ρ : RS} : (r_obj rm ρ)[3]? = some (.ref (rm + 3)) := rfl
theorem r_g_4 {rm : Nat} {ρ : RS} : (r_obj rm ρ)[4]? = some (.ref (rm + 4)) := rfl
theorem r_g_5 {rm : Nat} {ρ : RS} : (r_obj rm ρ)[5]? = some (.ref (rm + 5)) := rfl
theorem r_g_6 {rm : Nat} {ρ : RS} : (r_obj rm ρ)[6]? = some (.ref (rm + 6)) := rfl
theorem r_g_7 {rm : Nat} {ρ : RS} : (r_obj rm ρ)[7]? = some (.ref (rm + 7)) := rfl
theorem r_g_8 {rm : Nat} {ρ : RS} : (r_obj rm ρ)[8]? = some (.ref (rm + 8)) := rfl
theorem r_g_9 {rm : Nat} {ρ : RS} : (r_obj rm ρ)[9]? = some (.ref (rm + 9)) := rfl
theorem r_g_10 {rm : Nat} {ρ : RS} : (r_obj rm ρ)[10]? = some (.int ρ.2.1) := rfl
theorem r_g_11 {rm : Nat} {ρ : RS} : (r_obj rm ρ)[11]? = some (.ref (rm + 10)) := rfl
theorem r_g_12 {rm : Nat} {ρ : RS} : (r_obj rm ρ)[12]? = some (.ref (rm + 11)) := rfl
theorem r_g_13 {rm : Nat} {ρ : RS} : (r_obj rm ρ)[13]? = some (.ref (rm + 12)) := rfl
theorem r_g_14 {rm : Nat} {ρ : RS} : (r_obj rm ρ)[14]? = some (.ref (rm + 13)) := rfl
theorem r_g_15 {rm : Nat} {ρ : RS} : (r_obj rm ρ)[15]? = some (.ref (rm + 14)) := rfl
theorem r_g_16 {rm : Nat} {ρ : RS} : (r_obj rm ρ)[16]? = some (.ref (rm + 15)) := rfl
theorem r_g_17 {rm : Nat} {ρ : RS} : (r_obj rm ρ)[17]? = some (.ref (rm + 16)) := rfl
theorem r_g_18 {rm : Nat} {ρ : RS} : (r_obj rm ρ)[18]? = some (.ref (rm + 17)) := rfl
theorem r_olen {rm : Nat} {ρ : RS} : (r_obj rm ρ).length = 19 := rfl
theorem r_put_at {ρ : RS} {j : Nat} {f : Nat → Int32} : (r_put ρ j f).2.2 j = f := by simp [r_put]
theorem r_put_ne {ρ : RS} {j i : Nat} {f : Nat → Int32} (h : i ≠ j) : (r_put ρ j f).2.2 i = ρ.2.2 i := by simp [r_put, h]
theorem r_put_1 {ρ : RS} {j : Nat} {f : Nat → Int32} : (r_put ρ j f).1 = ρ.1 := rfl
theorem r_put_2 {ρ : RS} {j : Nat} {f : Nat → Int32} : (r_put ρ j f).2.1 = ρ.2.1 := rfl
theorem r_putput {ρ : RS} {j : Nat} {f g : Nat → Int32} : r_put (r_put ρ j f) j g = r_put ρ j g := by
  unfold r_put
  congr 2
  funext i
  by_cases h : i = j <;> simp [h]
section RF1
variable {X : Nat × Nat × (Nat → Int32)} {d rm : Nat} {ρ : RS} {M : mm_M} {Q : mm_Out → mm_M → Prop}
theorem Rf_out_eq {v n : Int32} : WPC X d 66 [.ref rm, .int v, .int n] M Q = Q (.inl (some (.int (b2i (decide (v < nI 0 ∨ ¬ v < n)))))) M := by
  apply WP_det
  change WPC X d 66 [.ref rm, .int v, .int n] M _
  simp only [e_66, w_66_0, w_66_1, w_66_4, w_66_5, w_66_6, w_66_9, w_66_10, w_66_13, w_66_14, mm_k_none, mm_k_int, mm_k_ref, mm_k_null, mm_K_inl, mm_tl_some, mm_tl_none, mm_fg_ok, mm_rc_ok, mm_fp_ok, mm_ai_ok, mm_si_ok, mm_az_ok, mm_sz_ok, z01, z11, zb, b2i_t, b2i_f, true_and, and_true]
  by_cases h1 : v < nI 0
  · simp [h1, b2i]
  · by_cases h2 : v < n
    · simp [h1, h2, b2i]
    · simp [h1, h2, b2i]
theorem Rf_fail_eq {c : Int32} : WPC X d 67 [.ref rm, .int c] (mm_R rm ρ M) Q = Q (.inl (some (.int (nI 0)))) (mm_R rm (c, ρ.2.1, ρ.2.2) M) := by
  simp only [e_67, w_67_0, w_67_1, w_67_2, w_67_5, w_67_6, mm_k_none, mm_k_int, mm_k_ref, mm_k_null, mm_K_inl, mm_tl_some, mm_tl_none, mm_fg_ok, mm_rc_ok, mm_fp_ok, mm_ai_ok, mm_si_ok, mm_az_ok, mm_sz_ok, z01, z11, zb, b2i_t, b2i_f, true_and, and_true, r_at, r_at_1, r_at_2, r_at_3, r_at_4, r_at_5, r_at_6, r_at_7, r_at_8, r_at_9, r_at_10, r_at_11, r_at_12, r_at_13, r_at_14, r_at_15, r_at_16, r_at_17, r_set_1, r_set_2, r_set_3, r_set_4, r_set_5, r_set_6, r_set_7, r_set_8, r_set_9, r_set_10, r_set_11, r_set_12, r_set_13, r_set_14, r_set_15, r_set_16, r_set_17, r_set_f, r_set_n, r_g_0, r_g_1, r_g_2, r_g_3, r_g_4, r_g_5, r_g_6, r_g_7, r_g_8, r_g_9, r_g_10, r_g_11, r_g_12, r_g_13, r_g_14, r_g_15, r_g_16, r_g_17, r_g_18, r_olen]
  simp
end RF1
