/-! the class: what stores hold -/
theorem ctK_app {key : Nat} : ∀ (A B : List (Nat × Int32)), ctK key (A ++ B) = ctK key A + ctK key B
  | [], B => by simp [ctK]
  | p :: A, B => by
    simp only [List.cons_append, ctK]
    rw [ctK_app A B]
    omega
theorem ctK_map {key x : Nat} : ∀ (L : List Int32), ctK key (L.map (fun v => (x, v))) = if x = key then L.length else 0
  | [] => by simp [ctK]
  | v :: L => by
    simp only [List.map_cons, ctK, List.length_cons]
    rw [ctK_map L]
    by_cases h : x = key
    · rw [if_pos h, if_pos h, if_pos h]; omega
    · rw [if_neg h, if_neg h, if_neg h]
theorem fsK_app {key : Nat} : ∀ (A B : List (Nat × Int32)), (∀ p, p ∈ A → p.1 ≠ key) → fsK key (A ++ B) = A.length + fsK key B
  | [], B, _ => by simp
  | p :: A, B, h => by
    simp only [List.cons_append, fsK, List.length_cons]
    rw [if_neg (h p (by simp)), fsK_app A B (fun q hq => h q (by simp [hq]))]
    omega
def flat (f : Nat → List Int32) (R : List Nat) : List (Nat × Int32) := R.flatMap (fun k => (f k).map (fun v => (k, v)))
theorem flat_cons {f : Nat → List Int32} {x : Nat} {R : List Nat} : flat f (x :: R) = (f x).map (fun v => (x, v)) ++ flat f R := by simp [flat]
theorem flat_keys {f : Nat → List Int32} {R : List Nat} {p : Nat × Int32} (h : p ∈ flat f R) : p.1 ∈ R := by
  unfold flat at h
  rw [List.mem_flatMap] at h
  obtain ⟨k, hk, hp⟩ := h
  rw [List.mem_map] at hp
  obtain ⟨v, -, rfl⟩ := hp
  exact hk
theorem flat_ct {f : Nat → List Int32} {key : Nat} : ∀ (R : List Nat), R.Nodup → ctK key (flat f R) = if key ∈ R then (f key).length else 0
  | [], _ => by simp [flat, ctK]
  | x :: R, hn => by
    obtain ⟨h1, h2⟩ := List.nodup_cons.1 hn
    rw [flat_cons, ctK_app, ctK_map, flat_ct R h2]
    by_cases h : x = key
    · subst h
      rw [if_pos rfl, if_neg h1, if_pos (by simp)]
      omega
    · have h' : ¬ key = x := fun z => h z.symm
      rw [if_neg h]
      simp [h']
theorem flat_fs {f : Nat → List Int32} {key : Nat} : ∀ (R : List Nat), R.Nodup → key ∈ R → ∀ i (hi : i < (f key).length), (flat f R)[fsK key (flat f R) + i]? = some (key, (f key)[i])
  | [], _, h, _, _ => by cases h
  | x :: R, hn, hk, i, hi => by
    obtain ⟨h1, h2⟩ := List.nodup_cons.1 hn
    rw [flat_cons]
    by_cases h : x = key
    · subst h
      have e : fsK x ((f x).map (fun v => (x, v)) ++ flat f R) = 0 := by
        cases z : f x with
        | nil => rw [z] at hi; simp at hi
        | cons v L => simp [fsK]
      rw [e, Nat.zero_add, List.getElem?_append_left (by simpa using hi)]
      simp [hi]
    · have hk2 : key ∈ R := by
        rcases List.mem_cons.1 hk with z | z
        · exact absurd z.symm h
        · exact z
      rw [fsK_app _ _ (fun p hp => by
        rw [List.mem_map] at hp
        obtain ⟨v, -, rfl⟩ := hp
        exact h)]
      rw [List.getElem?_append_right (by omega)]
      have := flat_fs R h2 hk2 i hi
      rw [← this]
      congr 1
      omega
theorem flat_map2 {f : Nat → List Int32} : ∀ (R : List Nat), (flat f R).map (·.2) = R.flatMap f
  | [] => rfl
  | x :: R => by
    rw [flat_cons, List.map_append, flat_map2 R, List.flatMap_cons]
    simp [Function.comp_def]
theorem dk_map {x : Nat} : ∀ (L : List Int32) (B : List (Nat × Int32)), dk (some x) (L.map (fun v => (x, v)) ++ B) = dk (some x) B
  | [], B => rfl
  | v :: L, B => by
    rw [List.map_cons, List.cons_append]
    show (if some x = some x then dk (some x) (L.map (fun v => (x, v)) ++ B) else _) = _
    rw [if_pos rfl, dk_map L B]
theorem dk_flat {f : Nat → List Int32} : ∀ (R : List Nat) (pr : Option Nat), R.Nodup → (∀ k, k ∈ R → f k ≠ []) → (∀ k, k ∈ R → pr ≠ some k) → dk pr (flat f R) = R
  | [], _, _, _, _ => rfl
  | x :: R, pr, hn, hf, hp => by
    obtain ⟨h1, h2⟩ := List.nodup_cons.1 hn
    rw [flat_cons]
    cases z : f x with
    | nil => exact absurd z (hf x (by simp))
    | cons v L =>
      rw [List.map_cons, List.cons_append]
      show (if pr = some x then _ else x :: dk (some x) (L.map (fun v => (x, v)) ++ flat f R)) = _
      rw [if_neg (hp x (by simp)), dk_map, dk_flat R (some x) h2 (fun k hk => hf k (by simp [hk])) (fun k hk y => by
        cases y
        exact h1 hk)]
theorem cat_flat {σ : Sg} {n : Nat} : cat σ n = flat (fun k => sS σ (8 * n + k)) (ksO σ n) := rfl
section CL5
variable {X : Nat × Nat × (Nat → Int32)} {d T n c m : Nat} {Λ : Lay} {σ : Sg} {β : CS} {M : mm_M} {Q : mm_Out → mm_M → Prop}
theorem ks_nodup (hW : WF T σ) (hn : n < sN σ) : (ksO σ n).Nodup := by
  unfold ksO
  by_cases h : sK σ n = 6
  · rw [if_pos h]; exact (hW.rk hn h).2.1
  · rw [if_neg h]; simp
theorem ks_8 (hW : WF T σ) (hn : n < sN σ) : ∀ k, k ∈ ksO σ n → k < 8 := by
  intro k hk
  unfold ksO at hk
  by_cases h : sK σ n = 6
  · rw [if_pos h] at hk; exact (((hW.rk hn h).2.2 k).1 hk).1
  · rw [if_neg h] at hk; simp at hk; omega
theorem cat_8 (hW : WF T σ) (hn : n < sN σ) : ∀ p, p ∈ cat σ n → p.1 < 8 := fun p hp => ks_8 hW hn _ (flat_keys hp)
theorem kS_cases (h : kS (sK σ n) = true) : sK σ n = 0 ∨ sK σ n = 1 ∨ sK σ n = 2 ∨ sK σ n = 6 := by
  simp [kS] at h
  omega
theorem cat_map2 (h : kS (sK σ n) = true) : (cat σ n).map (·.2) = if sK σ n = 6 then (sR σ n).flatMap (fun k => sS σ (8 * n + k)) else sS σ (8 * n) := by
  rw [cat_flat, flat_map2]
  unfold ksO
  by_cases h6 : sK σ n = 6
  · rw [if_pos h6, if_pos h6]
  · rw [if_neg h6, if_neg h6]
    simp
theorem cat_len (hW : WF T σ) (hn : n < sN σ) (h : kS (sK σ n) = true) : (cat σ n).length ≤ c_len σ 6 n := by
  have e := congrArg List.length (cat_map2 h)
  rw [List.length_map] at e
  obtain ⟨-, -, -, -, -, -, -, -, -, -, -, -, -, -, e0, e1, e6⟩ := hW.2.2.2.1 n hn
  rw [e, c_len6]
  rcases kS_cases h with k | k | k | k
  · rw [if_neg (by omega), if_pos k]; exact e0 k
  · rw [if_neg (by omega), if_neg (by omega)]; exact e1 (Or.inl k)
  · rw [if_neg (by omega), if_neg (by omega)]; exact e1 (Or.inr k)
  · rw [if_pos k, if_neg (by omega)]; exact (e6 k).1
/-- one key's ints among the others -/
theorem cat_seg (hW : WF T σ) (hn : n < sN σ) (h : kS (sK σ n) = true) {k : Nat} (hk : k < c_len σ 8 n) : ctK k (cat σ n) = (sS σ (8 * n + k)).length ∧ ∀ i (hi : i < (sS σ (8 * n + k)).length), ∃ g : fsK k (cat σ n) + i < (cat σ n).length, (cat σ n)[fsK k (cat σ n) + i].2 = (sS σ (8 * n + k))[i] := by
  have hnd := ks_nodup hW hn
  have hk8 : c_len σ 8 n = if sK σ n = 6 then 8 else 1 := rfl
  rw [hk8] at hk
  have hin : (sS σ (8 * n + k)) ≠ [] → k ∈ ksO σ n := by
    intro hne
    unfold ksO
    by_cases h6 : sK σ n = 6
    · rw [if_pos h6] at hk ⊢
      exact ((hW.rk hn h6).2.2 k).2 ⟨hk, hne⟩
    · rw [if_neg h6] at hk ⊢
      simp
      omega
  constructor
  · rw [cat_flat, flat_ct _ hnd]
    by_cases hne : sS σ (8 * n + k) = []
    · rw [hne]
      split
      · rfl
      · rfl
    · rw [if_pos (hin hne)]
  · intro i hi
    have hne : sS σ (8 * n + k) ≠ [] := fun z => by rw [z] at hi; simp at hi
    have e := flat_fs (f := fun k => sS σ (8 * n + k)) (ksO σ n) hnd (hin hne) i hi
    rw [← cat_flat] at e
    obtain ⟨g, e2⟩ := List.getElem?_eq_some_iff.1 e
    exact ⟨g, by rw [e2]⟩
theorem St_fillKeys_lp (hW : WF T σ) (hL : LK Λ σ) (hn : n < sN σ) (hk : kS (sK σ n) = true) {P : List (Nat × Int32)} (hl : P.length ≤ c_len σ 6 n) (hB : isB σ c m) (hl2 : P.length ≤ c_len σ c m) (h8 : ∀ p, p ∈ P → p.1 < 8) : ∀ (j k : Nat) (β : CS) (K : List Nat) (pr : Option Nat), j + k = P.length → holds β n P → K.length ≤ k → (k = 0 → pr = none) → (∀ h : 0 < k, ∀ h2 : k - 1 < P.length, pr = some P[k - 1].1) → bfAt β c m (K.map nI) → ∃ f, bfAt (c_put β c m f) c m ((K ++ dk pr (P.drop k)).map nI) ∧ ∀ Q, WP X d 4 4 [some (.ref (Λ.1 5 n)), some (.ref (Λ.1 c m)), some (.int (nI K.length)), some (.int (nI k))] [] (mm_C Λ σ β M) Q = Q (.inl (some (.int (nI (K ++ dk pr (P.drop k)).length)))) (mm_C Λ σ (c_put β c m f) M) := by
  have hst := fun β => c_st_at (β := β) (M := M) hL hn hk
  have h7 := fun β => c_arr_at (β := β) (M := M) hL hn hk (c := 7) (Or.inr (Or.inl rfl))
  have g := c_len6_le (σ := σ) (n := n)
  have g7 : c_len σ 7 n = c_len σ 6 n := rfl
  have g2 := c_len_le hW hB
  have hbc := isB_c hB
  intro j
  induction j with
  | zero =>
    intro k β K pr hk2 hP hKk hpr0 hpr hb
    have e : P.length ≤ k := by omega
    rw [List.drop_eq_nil_of_le e]
    have hself : c_put β c m (β.1 c m) = β := by
      unfold c_put
      have : (fun c' n' => if c' = c ∧ n' = m then β.1 c m else β.1 c' n') = β.1 := by
        funext c' n'
        by_cases z : c' = c ∧ n' = m
        · rw [if_pos z, z.1, z.2]
        · rw [if_neg z]
      rw [this]
    refine ⟨β.1 c m, by rw [hself]; simpa [dk] using hb, fun Q => ?_⟩
    rw [hself, w_4_4]
    simp (disch := omega) only [w_4_0, w_4_1, w_4_2, w_4_3, w_4_5, w_4_6, w_4_9, w_4_12, w_4_13, w_4_16, w_4_17, w_4_20, w_4_21, w_4_22, w_4_23, w_4_26, w_4_27, w_4_28, w_4_29, w_4_30, w_4_33, w_4_34, w_4_35, w_4_36, w_4_39, w_4_40, w_4_41, w_4_42, w_4_45, w_4_48, w_4_51, w_4_52, mm_k_none, mm_k_int, mm_k_ref, mm_k_null, mm_K_inl, mm_tl_some, mm_tl_none, mm_fg_ok, mm_rc_ok, mm_fp_ok, mm_ai_ok, mm_si_ok, mm_az_ok, mm_sz_ok, z01, z11, zb, b2i_t, b2i_f, true_and, and_true, c_g0, c_g1, c_g2, c_g3, c_g4, c_g5, c_g6, c_g7, c_g8, c_g9, c_g10, c_g11, c_g12, c_gl, c_o0, c_o1, c_o2, c_o3, c_ol, c_s0, c_s1, c_s2, c_s3, c_sl, Nat.zero_le, Nat.not_lt_zero, if_true, if_false, m1_lt, m1_ge, mm_inT, pk_mul, nI_add, mm_in_nI, mm_cl_nI, nI_eq, nI_ltI, nI_leI, ↓reduceIte, Nat.add_zero, Nat.reduceLeDiff, oI_some, oI_none, m1_lt, nI_lt0, Rf_fail_eq, Rf_out_eq, eq_self, not_true_eq_false, not_false_eq_true, Nat.reduceEqDiff, Nat.reduceLT, ne_eq, or_true, true_or, or_false, false_or, decide_true, decide_false, Bool.true_eq_false, Bool.false_eq_true, b2i_ne, hst, hP.1, e, dk, List.append_nil]
  | succ j ih =>
    intro k β K pr hk2 hP hKk hpr0 hpr hb
    have e : ¬ P.length ≤ k := by omega
    have hkl : k < P.length := by omega
    have hd : P.drop k = P[k] :: P.drop (k + 1) := List.drop_eq_getElem_cons hkl
    have hp8 := h8 _ (List.getElem_mem hkl)
    rw [hd]
    have eks := (hP.2 k hkl).2
    have hsame : ∀ (h : 0 < k), (pr = some P[k].1 ↔ P[k].1 = P[k - 1].1) := by
      intro h
      rw [hpr h (by omega), Option.some.injEq]
      exact ⟨fun z => z.symm, fun z => z.symm⟩
    by_cases hs : pr = some P[k].1
    · have hk0 : 0 < k := by
        apply Nat.pos_of_ne_zero
        intro z
        rw [hpr0 z] at hs
        cases hs
      have e1 : dk pr (P[k] :: P.drop (k + 1)) = dk (some P[k].1) (P.drop (k + 1)) := by
        rw [dk, if_pos hs]
      obtain ⟨f, hf, hq⟩ := ih (k + 1) β K (some P[k].1) (by omega) hP (by omega) (fun z => by omega) (fun _ _ => by simp) hb
      rw [e1]
      refine ⟨f, hf, fun Q => Eq.trans ?_ (hq Q)⟩
      have ek2 := (hP.2 (k - 1) (by omega)).2
      have hp82 := h8 _ (List.getElem_mem (show k - 1 < P.length by omega))
      have heq := (hsame hk0).1 hs
      have hkz : ¬ k = 0 := by omega
      rw [w_4_4]
      simp (disch := omega) only [w_4_0, w_4_1, w_4_2, w_4_3, w_4_5, w_4_6, w_4_9, w_4_12, w_4_13, w_4_16, w_4_17, w_4_20, w_4_21, w_4_22, w_4_23, w_4_26, w_4_27, w_4_28, w_4_29, w_4_30, w_4_33, w_4_34, w_4_35, w_4_36, w_4_39, w_4_40, w_4_41, w_4_42, w_4_45, w_4_48, w_4_51, w_4_52, mm_k_none, mm_k_int, mm_k_ref, mm_k_null, mm_K_inl, mm_tl_some, mm_tl_none, mm_fg_ok, mm_rc_ok, mm_fp_ok, mm_ai_ok, mm_si_ok, mm_az_ok, mm_sz_ok, z01, z11, zb, b2i_t, b2i_f, true_and, and_true, c_g0, c_g1, c_g2, c_g3, c_g4, c_g5, c_g6, c_g7, c_g8, c_g9, c_g10, c_g11, c_g12, c_gl, c_o0, c_o1, c_o2, c_o3, c_ol, c_s0, c_s1, c_s2, c_s3, c_sl, Nat.zero_le, Nat.not_lt_zero, if_true, if_false, m1_lt, m1_ge, mm_inT, pk_mul, nI_add, mm_in_nI, mm_cl_nI, nI_eq, nI_ltI, nI_leI, ↓reduceIte, Nat.add_zero, Nat.reduceLeDiff, oI_some, oI_none, m1_lt, nI_lt0, Rf_fail_eq, Rf_out_eq, eq_self, not_true_eq_false, not_false_eq_true, Nat.reduceEqDiff, Nat.reduceLT, ne_eq, or_true, true_or, or_false, false_or, decide_true, decide_false, Bool.true_eq_false, Bool.false_eq_true, b2i_ne, hst, h7, hP.1, e, hkz, eks, nI_m, ek2, heq]
    · have e1 : dk pr (P[k] :: P.drop (k + 1)) = P[k].1 :: dk (some P[k].1) (P.drop (k + 1)) := by
        rw [dk, if_neg hs]
      have hP' : holds (c_put β c m (upd (β.1 c m) K.length (nI P[k].1))) n P := by
        refine ⟨hP.1, fun i hi => ?_⟩
        rw [c_put_ne (by omega), c_put_ne (by omega)]
        exact hP.2 i hi
      obtain ⟨f, hf, hq⟩ := ih (k + 1) (c_put β c m (upd (β.1 c m) K.length (nI P[k].1))) (K ++ [P[k].1]) (some P[k].1) (by omega) hP' (by simp; omega) (fun z => by omega) (fun _ _ => by simp) (fun i hi => by
        rw [c_put_at]
        simp only [List.map_append, List.length_append, List.length_map, List.map_cons, List.map_nil, List.length_cons, List.length_nil] at hi ⊢
        by_cases z : i < K.length
        · rw [up_ne (by omega), List.getElem_append_left (by simpa using z)]
          exact hb i (by simpa using z)
        · have : i = K.length := by omega
          subst this
          rw [up_at]
          simp)
      have hpp : ∀ f, c_put (c_put β c m (upd (β.1 c m) K.length (nI P[k].1))) c m f = c_put β c m f := by
        intro f
        unfold c_put
        congr 1
        funext c' n'
        by_cases z : c' = c ∧ n' = m
        · simp [z]
        · simp [z]
      rw [hpp] at hf
      rw [e1]
      refine ⟨f, by simpa using hf, fun Q => ?_⟩
      have hq' := hq Q
      rw [hpp] at hq'
      simp only [List.append_assoc, List.cons_append, List.nil_append, List.length_append, List.length_cons, List.length_nil] at hq' ⊢
      refine Eq.trans ?_ hq'
      rw [w_4_4]
      by_cases hk0 : k = 0
      · subst hk0
        simp (disch := omega) only [w_4_0, w_4_1, w_4_2, w_4_3, w_4_5, w_4_6, w_4_9, w_4_12, w_4_13, w_4_16, w_4_17, w_4_20, w_4_21, w_4_22, w_4_23, w_4_26, w_4_27, w_4_28, w_4_29, w_4_30, w_4_33, w_4_34, w_4_35, w_4_36, w_4_39, w_4_40, w_4_41, w_4_42, w_4_45, w_4_48, w_4_51, w_4_52, mm_k_none, mm_k_int, mm_k_ref, mm_k_null, mm_K_inl, mm_tl_some, mm_tl_none, mm_fg_ok, mm_rc_ok, mm_fp_ok, mm_ai_ok, mm_si_ok, mm_az_ok, mm_sz_ok, z01, z11, zb, b2i_t, b2i_f, true_and, and_true, c_g0, c_g1, c_g2, c_g3, c_g4, c_g5, c_g6, c_g7, c_g8, c_g9, c_g10, c_g11, c_g12, c_gl, c_o0, c_o1, c_o2, c_o3, c_ol, c_s0, c_s1, c_s2, c_s3, c_sl, Nat.zero_le, Nat.not_lt_zero, if_true, if_false, m1_lt, m1_ge, mm_inT, pk_mul, nI_add, mm_in_nI, mm_cl_nI, nI_eq, nI_ltI, nI_leI, ↓reduceIte, Nat.add_zero, Nat.reduceLeDiff, oI_some, oI_none, m1_lt, nI_lt0, Rf_fail_eq, Rf_out_eq, eq_self, not_true_eq_false, not_false_eq_true, Nat.reduceEqDiff, Nat.reduceLT, ne_eq, or_true, true_or, or_false, false_or, decide_true, decide_false, Bool.true_eq_false, Bool.false_eq_true, b2i_ne, hst, h7, hP.1, e, eks, c_b_at hL hB, c_set_b hL hB]
      · have ek2 := (hP.2 (k - 1) (by omega)).2
        have hp82 := h8 _ (List.getElem_mem (show k - 1 < P.length by omega))
        have hne : ¬ P[k].1 = P[k - 1].1 := fun z => hs ((hsame (by omega)).2 z)
        simp (disch := omega) only [w_4_0, w_4_1, w_4_2, w_4_3, w_4_5, w_4_6, w_4_9, w_4_12, w_4_13, w_4_16, w_4_17, w_4_20, w_4_21, w_4_22, w_4_23, w_4_26, w_4_27, w_4_28, w_4_29, w_4_30, w_4_33, w_4_34, w_4_35, w_4_36, w_4_39, w_4_40, w_4_41, w_4_42, w_4_45, w_4_48, w_4_51, w_4_52, mm_k_none, mm_k_int, mm_k_ref, mm_k_null, mm_K_inl, mm_tl_some, mm_tl_none, mm_fg_ok, mm_rc_ok, mm_fp_ok, mm_ai_ok, mm_si_ok, mm_az_ok, mm_sz_ok, z01, z11, zb, b2i_t, b2i_f, true_and, and_true, c_g0, c_g1, c_g2, c_g3, c_g4, c_g5, c_g6, c_g7, c_g8, c_g9, c_g10, c_g11, c_g12, c_gl, c_o0, c_o1, c_o2, c_o3, c_ol, c_s0, c_s1, c_s2, c_s3, c_sl, Nat.zero_le, Nat.not_lt_zero, if_true, if_false, m1_lt, m1_ge, mm_inT, pk_mul, nI_add, mm_in_nI, mm_cl_nI, nI_eq, nI_ltI, nI_leI, ↓reduceIte, Nat.add_zero, Nat.reduceLeDiff, oI_some, oI_none, m1_lt, nI_lt0, Rf_fail_eq, Rf_out_eq, eq_self, not_true_eq_false, not_false_eq_true, Nat.reduceEqDiff, Nat.reduceLT, ne_eq, or_true, true_or, or_false, false_or, decide_true, decide_false, Bool.true_eq_false, Bool.false_eq_true, b2i_ne, hst, h7, hP.1, e, hk0, eks, nI_m, ek2, hne, c_b_at hL hB, c_set_b hL hB]
end CL5
