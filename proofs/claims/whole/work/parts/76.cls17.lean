/-! the class: putIn -/
theorem LK_same {Λ : Lay} {σ σ2 : Sg} (hL : LK Λ σ) (h1 : sN σ2 = sN σ) (h2 : sK σ2 = sK σ) : LK Λ σ2 := by
  unfold LK
  rw [h1, h2]
  exact hL
theorem cat_same {σ σ2 : Sg} (h2 : sK σ2 = sK σ) (h3 : sS σ2 = sS σ) (h4 : sR σ2 = sR σ) (n : Nat) : cat σ2 n = cat σ n := by
  unfold cat ksO
  rw [h2, h3, h4]
theorem StRel_same {σ σ2 : Sg} {β : CS} (hS : StRel σ β) (h1 : sN σ2 = sN σ) (h2 : sK σ2 = sK σ) (h3 : sS σ2 = sS σ) (h4 : sR σ2 = sR σ) (h5 : sC σ2 = sC σ) : StRel σ2 β := by
  intro n hn hk
  rw [h1] at hn
  rw [h2] at hk
  rw [cat_same h2 h3 h4, h2, h5]
  exact hS n hn hk
theorem setP_f {σ : Sg} {n p : Nat} : sN (setP σ n p) = sN σ ∧ sK (setP σ n p) = sK σ ∧ sO (setP σ n p) = sO σ ∧ sV (setP σ n p) = sV σ ∧ sS (setP σ n p) = sS σ ∧ sC (setP σ n p) = sC σ ∧ sR (setP σ n p) = sR σ := ⟨rfl, rfl, rfl, rfl, rfl, rfl, rfl⟩
theorem setD_f {σ : Sg} {n p : Nat} : sN (setD σ n p) = sN σ ∧ sK (setD σ n p) = sK σ ∧ sS (setD σ n p) = sS σ ∧ sR (setD σ n p) = sR σ ∧ sC (setD σ n p) = sC σ := ⟨rfl, rfl, rfl, rfl, rfl⟩
theorem setL_f {σ : Sg} {l c : Nat} {L : List Int32} : sN (setL σ l L c) = sN σ ∧ sK (setL σ l L c) = sK σ ∧ sO (setL σ l L c) = sO σ ∧ sV (setL σ l L c) = sV σ := ⟨rfl, rfl, rfl, rfl⟩
section CL18
variable {X : Nat × Nat × (Nat → Int32)} {d T n c m l : Nat} {Λ : Lay} {σ σ2 : Sg} {β : CS} {M : mm_M} {Q : mm_Out → mm_M → Prop}
theorem Lc_leafOf_lq (hW : WF T σ) (hL : LK Λ σ2) (g1 : sN σ2 = sN σ) (g2 : sK σ2 = sK σ) (g3 : sO σ2 = sO σ) : ∀ (n : Nat) (a : Nat), n < sN σ → kRow (sK σ n) = true → WP X d 26 2 [some (.ref a), some (.ref (Λ.1 4 n))] [] (mm_C Λ σ2 β M) Q = Q (.inl (some (.ref (Λ.1 4 (lf σ n))))) (mm_C Λ σ2 β M) := by
  intro n
  induction n using Nat.strongRecOn with
  | _ n ih =>
    intro a hn hr
    have hnode := c_node_at (M := M) (β := β) hL (show n < sN σ2 by omega)
    have hv : vBase Λ σ2 n = vBase Λ σ n := by unfold vBase; rw [g2, g3]
    rw [lf_at hW hn, w_26_2]
    cases hb : kBased (sK σ n) with
    | false =>
      have vb := vBase_0 (Λ := Λ) hb (row_two hr)
      simp (disch := omega) only [w_26_0, w_26_1, w_26_3, w_26_6, w_26_6n, w_26_9, w_26_9n, w_26_10, w_26_13, w_26_13n, w_26_14, w_26_17, w_26_17n, w_26_18, mm_k_none, mm_k_int, mm_k_ref, mm_k_null, mm_K_inl, mm_tl_some, mm_tl_none, mm_fg_ok, mm_rc_ok, mm_fp_ok, mm_ai_ok, mm_si_ok, mm_az_ok, mm_sz_ok, z01, z11, zb, b2i_t, b2i_f, true_and, and_true, c_g0, c_g1, c_g2, c_g3, c_g4, c_g5, c_g6, c_g7, c_g8, c_g9, c_g10, c_g11, c_g12, c_gl, c_o0, c_o1, c_o2, c_o3, c_ol, c_s0, c_s1, c_s2, c_s3, c_sl, Nat.zero_le, Nat.not_lt_zero, if_true, if_false, m1_lt, m1_ge, mm_inT, pk_mul, nI_add, mm_in_nI, mm_cl_nI, nI_eq, nI_ltI, nI_leI, ↓reduceIte, Nat.add_zero, Nat.reduceLeDiff, oI_some, oI_none, m1_lt, nI_lt0, Rf_fail_eq, Rf_out_eq, eq_self, not_true_eq_false, not_false_eq_true, Nat.reduceEqDiff, Nat.reduceLT, ne_eq, or_true, true_or, or_false, false_or, decide_true, decide_false, Bool.true_eq_false, Bool.false_eq_true, b2i_ne, hnode, hv, vb]
    | true =>
      have ho := hW.o hn (kB_one hb)
      have vb := vBase_b (Λ := Λ) hb
      rw [if_pos rfl]
      refine Eq.trans ?_ (ih _ ho a (by omega) (hW.row hn hb))
      simp (disch := omega) only [w_26_0, w_26_1, w_26_3, w_26_6, w_26_6n, w_26_9, w_26_9n, w_26_10, w_26_13, w_26_13n, w_26_14, w_26_17, w_26_17n, w_26_18, mm_k_none, mm_k_int, mm_k_ref, mm_k_null, mm_K_inl, mm_tl_some, mm_tl_none, mm_fg_ok, mm_rc_ok, mm_fp_ok, mm_ai_ok, mm_si_ok, mm_az_ok, mm_sz_ok, z01, z11, zb, b2i_t, b2i_f, true_and, and_true, c_g0, c_g1, c_g2, c_g3, c_g4, c_g5, c_g6, c_g7, c_g8, c_g9, c_g10, c_g11, c_g12, c_gl, c_o0, c_o1, c_o2, c_o3, c_ol, c_s0, c_s1, c_s2, c_s3, c_sl, Nat.zero_le, Nat.not_lt_zero, if_true, if_false, m1_lt, m1_ge, mm_inT, pk_mul, nI_add, mm_in_nI, mm_cl_nI, nI_eq, nI_ltI, nI_leI, ↓reduceIte, Nat.add_zero, Nat.reduceLeDiff, oI_some, oI_none, m1_lt, nI_lt0, Rf_fail_eq, Rf_out_eq, eq_self, not_true_eq_false, not_false_eq_true, Nat.reduceEqDiff, Nat.reduceLT, ne_eq, or_true, true_or, or_false, false_or, decide_true, decide_false, Bool.true_eq_false, Bool.false_eq_true, b2i_ne, hnode, hv, vb]
theorem Lc_changesOf_q (hW : WF T σ) (hL : LK Λ σ2) (hβ : StRel σ2 β) (g1 : sN σ2 = sN σ) (g2 : sK σ2 = sK σ) (g3 : sO σ2 = sO σ) (g4 : sV σ2 = sV σ) (hn : n < sN σ) (hr : kRow (sK σ n) = true) : WPC X (d + 1) 25 [.ref (Λ.1 4 n)] (mm_C Λ σ2 β M) Q = Q (.inl (some (.int (nI (ch σ2 n))))) (mm_C Λ σ2 β M) := by
  obtain ⟨s, k, h1, h2, h3, h4, h5, h6⟩ := leaf_st (Λ := Λ) hW hn hr
  have hlf := (lf_lt hW n hn).1
  have h3' : vStore Λ σ2 (lf σ n) = .ref (Λ.1 5 s) := by rw [← h3]; unfold vStore; rw [g2, g3]
  have h4' : vKey σ2 (lf σ n) = k := by rw [← h4]; unfold vKey sB; rw [g2, g4]
  have h5' : k < c_len σ2 8 s := by
    show k < if sK σ2 s = 6 then 8 else 1
    rw [g2]
    exact h5
  have h8 : c_len σ2 8 s ≤ 8 := c_len8_le
  have hlo' := lo_same g2 g3 g4 n
  have e : β.1 8 s k = nI (ch σ2 n) := by
    obtain ⟨b1, b2, b3, b4⟩ := hβ s (by omega) (by rw [g2]; exact h2)
    rw [g2] at b2 b3 b4
    rcases h6 with ⟨hlo, hk⟩ | ⟨hlo, hk, rfl, hs⟩
    · have : ch σ2 n = sC σ2 (8 * s + k) := ch_lo (hlo'.trans hlo)
      rw [this]
      rcases hk with hk | hk
      · have : k = 0 := by unfold c_len at h5; simp [hk] at h5; exact h5
        subst this
        exact b3 hk
      · exact b4 hk k (by omega)
    · have : ch σ2 n = 0 := by unfold ch; rw [hlo', hlo]
      rw [this]
      exact b2 hk
  have hlq := fun d Q => Lc_leafOf_lq (X := X) (d := d) (M := M) (β := β) (Q := Q) hW hL g1 g2 g3 n (Λ.1 4 n) hn hr
  have hle : ∀ d Q, WPC X d 26 [.ref (Λ.1 4 n)] (mm_C Λ σ2 β M) Q = Q (.inl (some (.ref (Λ.1 4 (lf σ n))))) (mm_C Λ σ2 β M) := by
    intro d Q
    rw [← hlq d Q]
    simp only [e_26, w_26_0, w_26_1, w_26_3, w_26_6, w_26_6n, w_26_9, w_26_9n, w_26_10, w_26_13, w_26_13n, w_26_14, w_26_17, w_26_17n, w_26_18, mm_k_none, mm_k_int, mm_k_ref, mm_k_null, mm_K_inl, mm_tl_some, mm_tl_none, mm_fg_ok, mm_rc_ok, mm_fp_ok, mm_ai_ok, mm_si_ok, mm_az_ok, mm_sz_ok, z01, z11, zb, b2i_t, b2i_f, true_and, and_true]
  have hk2 : kS (sK σ2 s) = true := by rw [g2]; exact h2
  have hs2 : s < sN σ2 := by omega
  simp (disch := omega) only [e_25, w_25_0, w_25_1, w_25_4, w_25_5, w_25_6, w_25_9, w_25_12, w_25_13, w_25_16, w_25_17, mm_k_none, mm_k_int, mm_k_ref, mm_k_null, mm_K_inl, mm_tl_some, mm_tl_none, mm_fg_ok, mm_rc_ok, mm_fp_ok, mm_ai_ok, mm_si_ok, mm_az_ok, mm_sz_ok, z01, z11, zb, b2i_t, b2i_f, true_and, and_true, c_g0, c_g1, c_g2, c_g3, c_g4, c_g5, c_g6, c_g7, c_g8, c_g9, c_g10, c_g11, c_g12, c_gl, c_o0, c_o1, c_o2, c_o3, c_ol, c_s0, c_s1, c_s2, c_s3, c_sl, Nat.zero_le, Nat.not_lt_zero, if_true, if_false, m1_lt, m1_ge, mm_inT, pk_mul, nI_add, mm_in_nI, mm_cl_nI, nI_eq, nI_ltI, nI_leI, ↓reduceIte, Nat.add_zero, Nat.reduceLeDiff, oI_some, oI_none, m1_lt, nI_lt0, Rf_fail_eq, Rf_out_eq, eq_self, not_true_eq_false, not_false_eq_true, Nat.reduceEqDiff, Nat.reduceLT, ne_eq, or_true, true_or, or_false, false_or, decide_true, decide_false, Bool.true_eq_false, Bool.false_eq_true, b2i_ne, hle, c_node_at hL (show lf σ n < sN σ2 by omega), h3', h4', c_st_at hL hs2 hk2, c_arr_at hL hs2 hk2 (Or.inr (Or.inr rfl)), h5', e]
/-- one key's ints lie within the store -/
theorem seg_le (hW : WF T σ) {s k : Nat} (h1 : s < sN σ) (h2 : kS (sK σ s) = true) (h5 : k < c_len σ 8 s) : fsK k (cat σ s) + (sS σ (8 * s + k)).length ≤ (cat σ s).length := by
  obtain ⟨-, h⟩ := cat_seg hW h1 h2 h5
  by_cases z : (sS σ (8 * s + k)).length = 0
  · have := fsK_le (key := k) (cat σ s)
    omega
  · obtain ⟨g, -⟩ := h ((sS σ (8 * s + k)).length - 1) (by omega)
    omega
theorem chg_at (hW : WF T σ) (hS : StRel σ β) {s k : Nat} (h1 : s < sN σ) (hk : sK σ s = 0 ∨ sK σ s = 6) (h5 : k < c_len σ 8 s) : β.1 8 s k = nI (sC σ (8 * s + k)) := by
  have h2 : kS (sK σ s) = true := by rcases hk with z | z <;> rw [z] <;> rfl
  obtain ⟨b1, b2, b3, b4⟩ := hS s h1 h2
  rcases hk with hk | hk
  · have : k = 0 := by unfold c_len at h5; simp [hk] at h5; exact h5
    subst this
    exact b3 hk
  · refine b4 hk k ?_
    have := c_len8_le (σ := σ) (n := s)
    omega
theorem Lc_putIn_leaf (hW : WF T σ) (hL : LK Λ σ) (hS : StRel σ β) {v : Int32} (hroom : (cat σ (l / 8)).length < c_len σ 6 (l / 8)) (hn : n < sN σ) (hr : kRow (sK σ n) = true) (hb : kBased (sK σ n) = false) (hlo : lo σ n = some l) {i : Nat} (hi : i ≤ (El σ n).length) : ∃ β', StRel (setL σ l (insAt (sS σ l) i v) 1) β' ∧ ∀ Q, WPC X (d + 2) 52 [.ref (Λ.1 4 n), .int (nI i), .int v] (mm_C Λ σ β M) Q = Q (.inl none) (mm_C Λ (setL σ l (insAt (sS σ l) i v) 1) β' M) := by
  obtain ⟨s, k, h1, h2, h3, h4, h5, h6, h7⟩ := leaf_El (Λ := Λ) hW hn hr hb
  obtain ⟨e1, e2, e3⟩ := h7 l hlo
  have hl8 := lo_N hW hn hlo
  have hk := lo_k hW hn hlo
  have hz := lo_z hW hn hlo
  rw [← e2] at hroom
  have hseg := seg_le hW h1 h2 h5
  rw [h6] at hi
  have hnode := c_node_at (M := M) (β := β) hL hn
  have h12 := hW.k12 hn
  have hk07 : sK σ n = 0 ∨ sK σ n = 7 := by
    rcases (on_leaf hW hn hb hlo).2 with z | z
    · exact Or.inl z.1
    · exact Or.inr z.1
  have hk8 := c_len8_le (σ := σ) (n := s)
  have hst := c_st_at (β := β) (M := M) hL h1 h2
  obtain ⟨β', o1, o2, o3, q⟩ := St_putIn_eq (X := X) (d := d) (M := M) (v := v) (i := i) hL h1 h2 (hS s h1 h2).1 (cat_8 hW h1) hroom h5 (by omega)
  have hks : sK σ s = 0 ∨ sK σ s = 6 := by rw [e2]; exact hk
  have hc := chg_at hW hS h1 hks h5
  have hsl : sS σ l = sS σ (8 * s + k) := by rw [← e1]
  refine ⟨β', StRel_setL hW hl8 hk hz hS (by rw [← e2]; exact o1) ?_ ?_, fun Q => ?_⟩
  · rw [cat_ins hW hl8 hk hz (by rw [hsl]; exact hi), ← e2, ← e3]
    exact o2
  · rw [← e2, ← e3, o3, hc, e1, nI_add]
  · rw [mm_C_setL]
    rcases hk07 with z | z
    · simp (disch := omega) only [e_52, w_52_0, w_52_1, w_52_4_0, w_52_4_1, w_52_4_2, w_52_4_3, w_52_4_4, w_52_4_5, w_52_4_6, w_52_4_7, w_52_4_8, w_52_4_9, w_52_4_10, w_52_4_11, w_52_4_12, w_52_32, w_52_33, w_52_36, w_52_37, w_52_40, w_52_43, w_52_44, w_52_45, w_52_46, w_52_49, w_52_52, w_52_53, w_52_56, w_52_57, w_52_60, w_52_61, w_52_62, w_52_63, w_52_66, w_52_67, w_52_68, w_52_71, w_52_72, w_52_73, w_52_76, w_52_77, w_52_78, w_52_81, w_52_84, w_52_87, w_52_90, w_52_91, w_52_94, w_52_95, w_52_98, w_52_99, w_52_100, w_52_103, mm_k_none, mm_k_int, mm_k_ref, mm_k_null, mm_K_inl, mm_tl_some, mm_tl_none, mm_fg_ok, mm_rc_ok, mm_fp_ok, mm_ai_ok, mm_si_ok, mm_az_ok, mm_sz_ok, z01, z11, zb, b2i_t, b2i_f, true_and, and_true, c_g0, c_g1, c_g2, c_g3, c_g4, c_g5, c_g6, c_g7, c_g8, c_g9, c_g10, c_g11, c_g12, c_gl, c_o0, c_o1, c_o2, c_o3, c_ol, c_s0, c_s1, c_s2, c_s3, c_sl, Nat.zero_le, Nat.not_lt_zero, if_true, if_false, m1_lt, m1_ge, mm_inT, pk_mul, nI_add, mm_in_nI, mm_cl_nI, nI_eq, nI_ltI, nI_leI, ↓reduceIte, Nat.add_zero, Nat.reduceLeDiff, oI_some, oI_none, m1_lt, nI_lt0, Rf_fail_eq, Rf_out_eq, eq_self, not_true_eq_false, not_false_eq_true, Nat.reduceEqDiff, Nat.reduceLT, ne_eq, or_true, true_or, or_false, false_or, decide_true, decide_false, Bool.true_eq_false, Bool.false_eq_true, b2i_ne, hnode, z, h3, h4, hst, q]
    · simp (disch := omega) only [e_52, w_52_0, w_52_1, w_52_4_0, w_52_4_1, w_52_4_2, w_52_4_3, w_52_4_4, w_52_4_5, w_52_4_6, w_52_4_7, w_52_4_8, w_52_4_9, w_52_4_10, w_52_4_11, w_52_4_12, w_52_32, w_52_33, w_52_36, w_52_37, w_52_40, w_52_43, w_52_44, w_52_45, w_52_46, w_52_49, w_52_52, w_52_53, w_52_56, w_52_57, w_52_60, w_52_61, w_52_62, w_52_63, w_52_66, w_52_67, w_52_68, w_52_71, w_52_72, w_52_73, w_52_76, w_52_77, w_52_78, w_52_81, w_52_84, w_52_87, w_52_90, w_52_91, w_52_94, w_52_95, w_52_98, w_52_99, w_52_100, w_52_103, mm_k_none, mm_k_int, mm_k_ref, mm_k_null, mm_K_inl, mm_tl_some, mm_tl_none, mm_fg_ok, mm_rc_ok, mm_fp_ok, mm_ai_ok, mm_si_ok, mm_az_ok, mm_sz_ok, z01, z11, zb, b2i_t, b2i_f, true_and, and_true, c_g0, c_g1, c_g2, c_g3, c_g4, c_g5, c_g6, c_g7, c_g8, c_g9, c_g10, c_g11, c_g12, c_gl, c_o0, c_o1, c_o2, c_o3, c_ol, c_s0, c_s1, c_s2, c_s3, c_sl, Nat.zero_le, Nat.not_lt_zero, if_true, if_false, m1_lt, m1_ge, mm_inT, pk_mul, nI_add, mm_in_nI, mm_cl_nI, nI_eq, nI_ltI, nI_leI, ↓reduceIte, Nat.add_zero, Nat.reduceLeDiff, oI_some, oI_none, m1_lt, nI_lt0, Rf_fail_eq, Rf_out_eq, eq_self, not_true_eq_false, not_false_eq_true, Nat.reduceEqDiff, Nat.reduceLT, ne_eq, or_true, true_or, or_false, false_or, decide_true, decide_false, Bool.true_eq_false, Bool.false_eq_true, b2i_ne, hnode, z, h3, h4, hst, q]
theorem chN_below (hW : WF T σ) (hn : n < sN σ) (hb : kBased (sK σ n) = true) {L : List Int32} {up : Bool} : sP (chN σ l L (sO σ n) up) n = sP σ n := by
  have ho := hW.o hn (kB_one hb)
  rw [chN_P, if_neg]
  rintro ⟨z, -⟩
  have := on_le hW _ (show sO σ n < sN σ by omega) z
  omega
theorem Lc_put_note {σ1 : Sg} {β' : CS} (hW : WF T σ) (hL : LK Λ σ) (s1 : StRel σ1 β') (f1 : sN σ1 = sN σ) (f3 : sK σ1 = sK σ) (f4 : sO σ1 = sO σ) (f6 : sV σ1 = sV σ) (hn : n < sN σ) (h4 : sK σ n = 4) (hlo : lo σ n = some l) {p q : Nat} (hP : sP σ1 n = p) (hp : p ≤ 72) (hC : sC σ1 l = q) (hq : q < 1000001) {l1 l2 : Option Value} : StRel (setD (setP σ1 n (p + 1)) n q) β' ∧ ∀ Q, WP X (d + 2) 52 66 [some (.ref (Λ.1 4 n)), l1, l2] [] (mm_C Λ σ1 β' M) Q = Q (.inl none) (mm_C Λ (setD (setP σ1 n (p + 1)) n q) β' M) := by
  have hb : kBased (sK σ n) = true := by rw [h4]; rfl
  have ho := hW.o hn (kB_one hb)
  have hr := hW.row hn hb
  have hloo : lo σ (sO σ n) = some l := (lo_o hW hn hb).symm.trans hlo
  obtain ⟨p1, p2, p3, p4, p5, p6, p7⟩ := setP_f (σ := σ1) (n := n) (p := p + 1)
  have hL1 : LK Λ σ1 := LK_same hL f1 f3
  have k1 : sK σ1 n = 4 := by rw [f3]; exact h4
  have v1 : vLen σ1 n = p := (if_pos k1).trans hP
  have hn1 : n < sN σ1 := by omega
  have node1 := c_node_at (M := M) (β := β') hL1 hn1
  have sl := fun M => set_len (β := β') (M := M) (p := p + 1) hL1 hn1 k1
  generalize hσ2 : setP σ1 n (p + 1) = σ2 at p1 p2 p3 p4 p5 p6 p7 sl ⊢
  have hL2 : LK Λ σ2 := LK_same hL1 p1 p2
  have hS2 : StRel σ2 β' := StRel_same s1 p1 p2 p5 p7 p6
  have k2 : sK σ2 n = 4 := by rw [p2]; exact k1
  have hn2 : n < sN σ2 := by omega
  have node2 := c_node_at (M := M) (β := β') hL2 hn2
  have vb2 : vBase Λ σ2 n = .ref (Λ.1 4 (sO σ n)) := by
    rw [vBase_b (by rw [k2]; rfl), p3, f4]
  have hch : ch σ2 (sO σ n) = q := by
    rw [ch_lo ((lo_same (p2.trans f3) (p3.trans f4) (p4.trans f6) _).trans hloo), p6, hC]
  have qc := fun d Q => Lc_changesOf_q (X := X) (d := d) (M := M) (Q := Q) hW hL2 hS2 (p1.trans f1) (p2.trans f3) (p3.trans f4) (p4.trans f6) (show sO σ n < sN σ by omega) hr
  rw [hch] at qc
  have sn := fun M => set_noted (β := β') (M := M) (p := q) hL2 hn2 k2
  obtain ⟨x1, x2, x3, x4, x5⟩ := setD_f (σ := σ2) (n := n) (p := q)
  refine ⟨StRel_same hS2 x1 x2 x3 x4 x5, fun Q => ?_⟩
  simp (disch := omega) only [w_52_0, w_52_1, w_52_4_0, w_52_4_1, w_52_4_2, w_52_4_3, w_52_4_4, w_52_4_5, w_52_4_6, w_52_4_7, w_52_4_8, w_52_4_9, w_52_4_10, w_52_4_11, w_52_4_12, w_52_32, w_52_33, w_52_36, w_52_37, w_52_40, w_52_43, w_52_44, w_52_45, w_52_46, w_52_49, w_52_52, w_52_53, w_52_56, w_52_57, w_52_60, w_52_61, w_52_62, w_52_63, w_52_66, w_52_67, w_52_68, w_52_71, w_52_72, w_52_73, w_52_76, w_52_77, w_52_78, w_52_81, w_52_84, w_52_87, w_52_90, w_52_91, w_52_94, w_52_95, w_52_98, w_52_99, w_52_100, w_52_103, mm_k_none, mm_k_int, mm_k_ref, mm_k_null, mm_K_inl, mm_tl_some, mm_tl_none, mm_fg_ok, mm_rc_ok, mm_fp_ok, mm_ai_ok, mm_si_ok, mm_az_ok, mm_sz_ok, z01, z11, zb, b2i_t, b2i_f, true_and, and_true, c_g0, c_g1, c_g2, c_g3, c_g4, c_g5, c_g6, c_g7, c_g8, c_g9, c_g10, c_g11, c_g12, c_gl, c_o0, c_o1, c_o2, c_o3, c_ol, c_s0, c_s1, c_s2, c_s3, c_sl, Nat.zero_le, Nat.not_lt_zero, if_true, if_false, m1_lt, m1_ge, mm_inT, pk_mul, nI_add, mm_in_nI, mm_cl_nI, nI_eq, nI_ltI, nI_leI, ↓reduceIte, Nat.add_zero, Nat.reduceLeDiff, oI_some, oI_none, m1_lt, nI_lt0, Rf_fail_eq, Rf_out_eq, eq_self, not_true_eq_false, not_false_eq_true, Nat.reduceEqDiff, Nat.reduceLT, ne_eq, or_true, true_or, or_false, false_or, decide_true, decide_false, Bool.true_eq_false, Bool.false_eq_true, b2i_ne, node1, v1, sl, node2, vb2, qc, sn]
theorem Lc_putIn_eq (hW : WF T σ) (hL : LK Λ σ) (hS : StRel σ β) {v : Int32} (hroom : (cat σ (l / 8)).length < c_len σ 6 (l / 8)) : ∀ (n : Nat), n < sN σ → sup σ 0 n = true → lo σ n = some l → stale σ n = false → ∀ (i : Nat), i ≤ (El σ n).length → ∃ β', StRel (chN σ l (insAt (sS σ l) (dn σ true n i) v) n true) β' ∧ ∀ Q, WPC X (d + sG σ n + 1) 52 [.ref (Λ.1 4 n), .int (nI i), .int v] (mm_C Λ σ β M) Q = Q (.inl none) (mm_C Λ (chN σ l (insAt (sS σ l) (dn σ true n i) v) n true) β' M) := by
  intro n
  induction n using Nat.strongRecOn with
  | _ n ih =>
    intro hn hsup hlo hs i hi
    have h12 := hW.k12 hn
    have h72 := El_72 hW hn
    have hnode := c_node_at (M := M) (β := β) hL hn
    cases hb : kBased (sK σ n) with
    | false =>
      have hr : kRow (sK σ n) = true := by
        rw [sup_at hW hn, hb] at hsup
        simp at hsup
        simp [kRow]
        omega
      obtain ⟨β', s1, q⟩ := Lc_putIn_leaf (X := X) (d := d) (M := M) (v := v) hW hL hS hroom hn hr hb hlo hi
      have h2 := row_two hr
      have hg := (hW.2.2.2.1 n hn).2.2.2.2.2.2.2.2.2.2.2.2.2.1 hb h2
      have k3 : ¬ sK σ n = 3 := fun y => by rw [y] at hb; exact absurd hb (by decide)
      have k4 : ¬ sK σ n = 4 := fun y => by rw [y] at hb; exact absurd hb (by decide)
      have k5 : ¬ sK σ n = 5 := fun y => by rw [y] at hb; exact absurd hb (by decide)
      rw [dn_at hW hn, if_neg k3, if_neg k4, if_neg k5, chN_0 hW hn hb, hg.2]
      exact ⟨β', s1, q⟩
    | true =>
      have ho := hW.o hn (kB_one hb)
      have hr := hW.row hn hb
      have hG := ((hW.2.2.2.1 n hn).2.2.2.2.2.2.2.2.2.2.2.1 hb).2
      have hso := stale_o hW hn hs (kB_one hb)
      have hloo : lo σ (sO σ n) = some l := (lo_o hW hn hb).symm.trans hlo
      have vb := vBase_b (Λ := Λ) hb
      have h72o := El_72 hW (show sO σ n < sN σ by omega)
      have hsupo : sup σ 0 (sO σ n) = true := by
        rw [sup_at hW hn, hb, if_pos rfl] at hsup
        by_cases z : sK σ n = 5 ∧ 0 ≠ 1
        · rw [if_pos z] at hsup; cases hsup
        · rw [if_neg z] at hsup; exact hsup
      have hk5 : ¬ sK σ n = 5 := by
        intro z
        rw [sup_at hW hn, hb, if_pos rfl, if_pos ⟨z, by decide⟩] at hsup
        cases hsup
      have ih' := ih (sO σ n) ho (by omega) hsupo hloo hso
      rw [hG, ← Nat.add_assoc]
      by_cases h3 : sK σ n = 3
      · have hl3 := len_3 hW hn h3
        obtain ⟨β', s1, q⟩ := ih' ((El σ (sO σ n)).length - i) (by omega)
        have qr := fun Q => Lc_rowLength_eq (X := X) (d := d + sG σ (sO σ n)) (M := M) (Q := Q) hW hL hS (show sO σ n < sN σ by omega) hr hso
        rw [chN_o hW hn hb (by omega), dn_at hW hn, if_pos h3, if_pos rfl, Nat.sub_zero]
        refine ⟨β', s1, fun Q => ?_⟩
        simp (disch := omega) only [e_52, w_52_0, w_52_1, w_52_4_0, w_52_4_1, w_52_4_2, w_52_4_3, w_52_4_4, w_52_4_5, w_52_4_6, w_52_4_7, w_52_4_8, w_52_4_9, w_52_4_10, w_52_4_11, w_52_4_12, w_52_32, w_52_33, w_52_36, w_52_37, w_52_40, w_52_43, w_52_44, w_52_45, w_52_46, w_52_49, w_52_52, w_52_53, w_52_56, w_52_57, w_52_60, w_52_61, w_52_62, w_52_63, w_52_66, w_52_67, w_52_68, w_52_71, w_52_72, w_52_73, w_52_76, w_52_77, w_52_78, w_52_81, w_52_84, w_52_87, w_52_90, w_52_91, w_52_94, w_52_95, w_52_98, w_52_99, w_52_100, w_52_103, mm_k_none, mm_k_int, mm_k_ref, mm_k_null, mm_K_inl, mm_tl_some, mm_tl_none, mm_fg_ok, mm_rc_ok, mm_fp_ok, mm_ai_ok, mm_si_ok, mm_az_ok, mm_sz_ok, z01, z11, zb, b2i_t, b2i_f, true_and, and_true, c_g0, c_g1, c_g2, c_g3, c_g4, c_g5, c_g6, c_g7, c_g8, c_g9, c_g10, c_g11, c_g12, c_gl, c_o0, c_o1, c_o2, c_o3, c_ol, c_s0, c_s1, c_s2, c_s3, c_sl, Nat.zero_le, Nat.not_lt_zero, if_true, if_false, m1_lt, m1_ge, mm_inT, pk_mul, nI_add, mm_in_nI, mm_cl_nI, nI_eq, nI_ltI, nI_leI, ↓reduceIte, Nat.add_zero, Nat.reduceLeDiff, oI_some, oI_none, m1_lt, nI_lt0, Rf_fail_eq, Rf_out_eq, eq_self, not_true_eq_false, not_false_eq_true, Nat.reduceEqDiff, Nat.reduceLT, ne_eq, or_true, true_or, or_false, false_or, decide_true, decide_false, Bool.true_eq_false, Bool.false_eq_true, b2i_ne, hnode, h3, vb, qr, nI_m, q]
      · have h4 : sK σ n = 4 := by rcases kB_cases hb with z | z | z <;> omega
        obtain ⟨hl4, hl4'⟩ := len_4 hW hn h4 hs
        obtain ⟨β', s1, q⟩ := ih' (i + sB σ n) (by omega)
        have vs : vStart σ n = sB σ n := if_pos h4
        rw [dn_at hW hn, if_neg h3, if_pos h4]
        generalize hLL : insAt (sS σ l) (dn σ true (sO σ n) (i + sB σ n)) v = L at s1 q ⊢
        obtain ⟨f1, -, f3, f4, -, f6, -, -⟩ := chN_f (σ := σ) (l := l) (n := sO σ n) (L := L) (up := true)
        obtain ⟨c1, c2, c3⟩ := chN_c (σ := σ) (l := l) (n := sO σ n) (L := L) (up := true)
        have eP := chN_below (l := l) (L := L) (up := true) hW hn hb
        have e4 := chN_4 (l := l) (L := L) (up := true) hW hn h4 hlo (p := sP σ n + 1) (q := sC σ l + 1) rfl rfl
        have hcT := hW.c l
        generalize hσ1 : chN σ l L (sO σ n) true = σ1 at s1 q f1 f3 f4 f6 c1 c2 c3 eP e4 ⊢
        obtain ⟨s2, qn⟩ := Lc_put_note (X := X) (d := d + sG σ (sO σ n)) (M := M) (l1 := some (.int (nI i))) (l2 := some (.int v)) hW hL s1 f1 f3 f4 f6 hn h4 hlo eP (by omega) (q := sC σ l + 1) (by rw [c2, ud_at]) (by omega)
        rw [e4]
        refine ⟨β', s2, fun Q => ?_⟩
        rw [Nat.add_comm i] at q
        refine Eq.trans ?_ (qn Q)
        simp (disch := omega) only [e_52, w_52_0, w_52_1, w_52_4_0, w_52_4_1, w_52_4_2, w_52_4_3, w_52_4_4, w_52_4_5, w_52_4_6, w_52_4_7, w_52_4_8, w_52_4_9, w_52_4_10, w_52_4_11, w_52_4_12, w_52_32, w_52_33, w_52_36, w_52_37, w_52_40, w_52_43, w_52_44, w_52_45, w_52_46, w_52_49, w_52_52, w_52_53, w_52_56, w_52_57, w_52_60, w_52_61, w_52_62, w_52_63, w_52_77, w_52_78, w_52_81, w_52_84, w_52_87, w_52_90, w_52_91, w_52_94, w_52_95, w_52_98, w_52_99, w_52_100, w_52_103, mm_k_none, mm_k_int, mm_k_ref, mm_k_null, mm_K_inl, mm_tl_some, mm_tl_none, mm_fg_ok, mm_rc_ok, mm_fp_ok, mm_ai_ok, mm_si_ok, mm_az_ok, mm_sz_ok, z01, z11, zb, b2i_t, b2i_f, true_and, and_true, c_g0, c_g1, c_g2, c_g3, c_g4, c_g5, c_g6, c_g7, c_g8, c_g9, c_g10, c_g11, c_g12, c_gl, c_o0, c_o1, c_o2, c_o3, c_ol, c_s0, c_s1, c_s2, c_s3, c_sl, Nat.zero_le, Nat.not_lt_zero, if_true, if_false, m1_lt, m1_ge, mm_inT, pk_mul, nI_add, mm_in_nI, mm_cl_nI, nI_eq, nI_ltI, nI_leI, ↓reduceIte, Nat.add_zero, Nat.reduceLeDiff, oI_some, oI_none, m1_lt, nI_lt0, Rf_fail_eq, Rf_out_eq, eq_self, not_true_eq_false, not_false_eq_true, Nat.reduceEqDiff, Nat.reduceLT, ne_eq, or_true, true_or, or_false, false_or, decide_true, decide_false, Bool.true_eq_false, Bool.false_eq_true, b2i_ne, hnode, h4, vb, vs, q]
end CL18
