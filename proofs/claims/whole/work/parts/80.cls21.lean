/-! the class: add, insert, put, take, remove -/
theorem opC.chg {X : Nat × Nat × (Nat → Int32)} {d : Nat} {Λ : Lay} {σ σ' : Sg} {β β' : CS} {M : mm_M} {k : Nat} {args : List Value} {o : Out} {ex : Nat → Nat} {b : Int32} (e : o = (0, b, σ')) (hL : LK Λ σ') (hS : StRel σ' β') (q : ∀ Q, WPC X d k (.ref (Λ.1 0 0) :: args) (mm_C Λ σ β M) Q = Q (.inl (some (.int b))) (mm_C Λ σ' β' M)) : opC X d Λ σ β M k args o ex := by
  subst e
  exact ⟨fun _ => ⟨Λ, β', 0, 0, hL, hS, rfl, fun q t h => Or.inl h, by omega, by omega, q⟩, fun z => absurd rfl z⟩
theorem mm_ln_ok {X : Nat × Nat × (Nat → Int32)} {a n : Nat} {f : Nat → Int32} {K : Int32 → Prop} : mm_ln X a (some (.inl (0, n, .inl f))) K = K (nI n) := by
  show (0 < 5 ∧ K (Int32.ofNat n)) = K (nI n)
  rw [eq_true (show 0 < 5 by decide), true_and]
  rfl
section CL22
variable {X : Nat × Nat × (Nat → Int32)} {d T n c m l : Nat} {Λ : Lay} {σ : Sg} {β : CS} {M : mm_M} {Q : mm_Out → mm_M → Prop}
theorem ful_cat (hW : WF T σ) (hl8 : l < 8 * sN σ) (hk : sK σ (l / 8) = 0 ∨ sK σ (l / 8) = 6) (hz : sK σ (l / 8) = 0 → l = 8 * (l / 8)) : fulB σ l = decide ((cat σ (l / 8)).length = c_len σ 6 (l / 8)) := by
  have hkS : kS (sK σ (l / 8)) = true := by rcases hk with z | z <;> rw [z] <;> rfl
  have e := congrArg List.length (cat_map2 hkS)
  rw [List.length_map] at e
  unfold fulB
  rw [e, c_len6]
  rcases hk with z | z
  · rw [if_pos z, if_neg (by omega), if_pos z, ← hz z]
  · rw [if_neg (by omega), if_pos z, if_neg (by omega)]
theorem St_isFull_eq (hL : LK Λ σ) (hn : n < sN σ) (hk : kS (sK σ n) = true) {P : List (Nat × Int32)} (hP : holds β n P) (hl : P.length ≤ c_len σ 6 n) : WPC X d 9 [.ref (Λ.1 5 n)] (mm_C Λ σ β M) Q = Q (.inl (some (.int (b2i (decide (P.length = c_len σ 6 n)))))) (mm_C Λ σ β M) := by
  have hst := c_st_at (β := β) (M := M) hL hn hk
  have h6 := c_arr_at (β := β) (M := M) hL hn hk (c := 6) (Or.inl rfl)
  have g := c_len6_le (σ := σ) (n := n)
  by_cases e : P.length = c_len σ 6 n
  · rw [decide_eq_true e]
    simp (disch := omega) only [e_9, w_9_0, w_9_1, w_9_4, w_9_5, w_9_8, w_9_9, w_9_12, w_9_13, w_9_16, w_9_17, mm_k_none, mm_k_int, mm_k_ref, mm_k_null, mm_K_inl, mm_tl_some, mm_tl_none, mm_fg_ok, mm_rc_ok, mm_fp_ok, mm_ai_ok, mm_si_ok, mm_az_ok, mm_sz_ok, z01, z11, zb, b2i_t, b2i_f, true_and, and_true, c_g0, c_g1, c_g2, c_g3, c_g4, c_g5, c_g6, c_g7, c_g8, c_g9, c_g10, c_g11, c_g12, c_gl, c_o0, c_o1, c_o2, c_o3, c_ol, c_s0, c_s1, c_s2, c_s3, c_sl, Nat.zero_le, Nat.not_lt_zero, if_true, if_false, m1_lt, m1_ge, mm_inT, pk_mul, nI_add, mm_in_nI, mm_cl_nI, nI_eq, nI_ltI, nI_leI, ↓reduceIte, Nat.add_zero, Nat.reduceLeDiff, oI_some, oI_none, m1_lt, nI_lt0, Rf_fail_eq, Rf_out_eq, eq_self, not_true_eq_false, not_false_eq_true, Nat.reduceEqDiff, Nat.reduceLT, ne_eq, or_true, true_or, or_false, false_or, decide_true, decide_false, Bool.true_eq_false, Bool.false_eq_true, b2i_ne, hst, h6, hP.1, mm_ln_ok, e, z01, z11]
  · rw [decide_eq_false e]
    simp (disch := omega) only [e_9, w_9_0, w_9_1, w_9_4, w_9_5, w_9_8, w_9_9, w_9_12, w_9_13, w_9_16, w_9_17, mm_k_none, mm_k_int, mm_k_ref, mm_k_null, mm_K_inl, mm_tl_some, mm_tl_none, mm_fg_ok, mm_rc_ok, mm_fp_ok, mm_ai_ok, mm_si_ok, mm_az_ok, mm_sz_ok, z01, z11, zb, b2i_t, b2i_f, true_and, and_true, c_g0, c_g1, c_g2, c_g3, c_g4, c_g5, c_g6, c_g7, c_g8, c_g9, c_g10, c_g11, c_g12, c_gl, c_o0, c_o1, c_o2, c_o3, c_ol, c_s0, c_s1, c_s2, c_s3, c_sl, Nat.zero_le, Nat.not_lt_zero, if_true, if_false, m1_lt, m1_ge, mm_inT, pk_mul, nI_add, mm_in_nI, mm_cl_nI, nI_eq, nI_ltI, nI_leI, ↓reduceIte, Nat.add_zero, Nat.reduceLeDiff, oI_some, oI_none, m1_lt, nI_lt0, Rf_fail_eq, Rf_out_eq, eq_self, not_true_eq_false, not_false_eq_true, Nat.reduceEqDiff, Nat.reduceLT, ne_eq, or_true, true_or, or_false, false_or, decide_true, decide_false, Bool.true_eq_false, Bool.false_eq_true, b2i_ne, hst, h6, hP.1, mm_ln_ok, e, z01, z11]
theorem Lc_room_eq (hW : WF T σ) (hL : LK Λ σ) (hS : StRel σ β) (hn : n < sN σ) (hr : kRow (sK σ n) = true) (hlo : lo σ n = some l) : WPC X (d + 7) 51 [.ref (Λ.1 4 n)] (mm_C Λ σ β M) Q = if fulB σ l = true then Q (.inr 1) (mm_C Λ σ β (mm_skip M 6)) else Q (.inl none) (mm_C Λ σ β M) := by
  obtain ⟨s, k, h1, h2, h3, h4, h5, h6⟩ := leaf_st (Λ := Λ) hW hn hr
  have hlf := (lf_lt hW n hn).1
  have hk8 := c_len8_le (σ := σ) (n := s)
  have e : s = l / 8 := by
    rcases h6 with ⟨z, -⟩ | ⟨z, -⟩
    · rw [hlo] at z
      cases z
      omega
    · rw [hlo] at z
      cases z
  have hq := fun d Q => St_isFull_eq (X := X) (d := d) (M := M) (Q := Q) hL h1 h2 (hS s h1 h2).1 (cat_len hW h1 h2)
  have hf := ful_cat hW (lo_N hW hn hlo) (lo_k hW hn hlo) (lo_z hW hn hlo)
  rw [← e] at hf
  rw [← hf] at hq
  have hle := fun d Q => Lc_leafOf_eq (X := X) (d := d) (M := M) (β := β) (Q := Q) hW hL hn hr
  have hnode := c_node_at (M := M) (β := β) hL (show lf σ n < sN σ by omega)
  have hst := c_st_at (β := β) (M := M) hL h1 h2
  cases z : fulB σ l <;> rw [z] at hq <;> simp (disch := omega) only [e_51, w_51_0, w_51_1, w_51_4, w_51_7, w_51_10, w_51_13, w_51_14, w_51_17, w_51_18, w_51_21, mm_k_none, mm_k_int, mm_k_ref, mm_k_null, mm_K_inl, mm_tl_some, mm_tl_none, mm_fg_ok, mm_rc_ok, mm_fp_ok, mm_ai_ok, mm_si_ok, mm_az_ok, mm_sz_ok, z01, z11, zb, b2i_t, b2i_f, true_and, and_true, c_g0, c_g1, c_g2, c_g3, c_g4, c_g5, c_g6, c_g7, c_g8, c_g9, c_g10, c_g11, c_g12, c_gl, c_o0, c_o1, c_o2, c_o3, c_ol, c_s0, c_s1, c_s2, c_s3, c_sl, Nat.zero_le, Nat.not_lt_zero, if_true, if_false, m1_lt, m1_ge, mm_inT, pk_mul, nI_add, mm_in_nI, mm_cl_nI, nI_eq, nI_ltI, nI_leI, ↓reduceIte, Nat.add_zero, Nat.reduceLeDiff, oI_some, oI_none, m1_lt, nI_lt0, Rf_fail_eq, Rf_out_eq, eq_self, not_true_eq_false, not_false_eq_true, Nat.reduceEqDiff, Nat.reduceLT, ne_eq, or_true, true_or, or_false, false_or, decide_true, decide_false, Bool.true_eq_false, Bool.false_eq_true, b2i_ne, mm_K_inr, mm_G_ok, c_skip, rf_n, rf_s, Lc_needTold_1, Lc_needTold_0, Lc_needTold_eq, Lc_needRoom_1, Lc_needRoom_0, Lc_needRoom_eq, Lc_needPlace_1, Lc_needPlace_0, Lc_needPlace_eq, Lc_needThere_1, Lc_needThere_0, Lc_needThere_eq, Lc_needSupported_1, Lc_needSupported_0, Lc_needSupported_eq, hle, hnode, h3, hst, hq, Bool.not_true, Bool.not_false]
/-- after a change through a row it is not STALE -/
theorem chN_fresh {T' : Nat} (hW : WF T σ) (hn : n < sN σ) (hr : kRow (sK σ n) = true) {L : List Int32} {up : Bool} (hW' : WF T' (chN σ l L n up)) : ∀ q, q < sN σ → onP σ n q = true → kRow (sK σ q) = true → stale (chN σ l L n up) q = false := by
  obtain ⟨f1, -, f3, f4, f5, f6, -, -⟩ := chN_f (σ := σ) (l := l) (n := n) (L := L) (up := up)
  obtain ⟨g1, g2, g3, g4⟩ := setL_f (σ := σ) (l := l) (L := L) (c := 1)
  obtain ⟨c1, c2, c3⟩ := chN_c (σ := σ) (l := l) (n := n) (L := L) (up := up)
  intro q
  induction q using Nat.strongRecOn with
  | _ q ih =>
    intro hq hon hr
    cases hb : kBased (sK σ q) with
    | false =>
      exact bas_null hW' (by omega) (by rw [f3]; exact hb) (by rw [f3]; exact row_two hr)
    | true =>
      have ho := hW.o hq (kB_one hb)
      have hi := ih _ ho (by omega) (on_o hW n hn hon hb) (hW.row hq hb)
      have h2 := row_two hr
      rw [stale_at hW' (by omega), f3, f4, hi, h2, kB_one hb]
      have : lst1 (chN σ l L n up) q = false := by
        unfold lst1
        rw [decide_eq_false_iff_not, f3, f4]
        rintro ⟨z, y⟩
        apply y
        rw [chN_D, if_pos ⟨hon, z⟩]
        have e := (lo_same (σ := σ) (σ' := chN σ l L n up) f3 f4 f6 (sO σ q)).trans (lo_same (σ := σ) (σ' := setL σ l L 1) g2 g3 g4 (sO σ q)).symm
        unfold ch
        rw [e]
        rfl
      rw [this]
      rfl
theorem chN_rd {T' : Nat} (hW : WF T σ) (hL : LK Λ σ) (hn : n < sN σ) (hr : kRow (sK σ n) = true) {L : List Int32} {up : Bool} (hW' : WF T' (chN σ l L n up)) (hS' : StRel (chN σ l L n up) β) (d : Nat) (M : mm_M) (Q) : WPC X (d + 1) 38 [.ref (Λ.1 4 n)] (mm_C Λ (chN σ l L n up) β M) Q = Q (.inl (some (.int (nI (El (chN σ l L n up) n).length)))) (mm_C Λ (chN σ l L n up) β M) := by
  obtain ⟨f1, -, f3, f4, f5, f6, -, -⟩ := chN_f (σ := σ) (l := l) (n := n) (L := L) (up := up)
  refine Lc_rowLength_eq hW' (LK_same hL f1 f3) hS' (by omega) (by rw [f3]; exact hr) (chN_fresh hW hn hr hW' n hn ?_ hr)
  rw [on_at hW hn]
  simp
theorem sup_row (hW : WF T σ) (hn : n < sN σ) {w : Nat} (hw : w ≠ 1) (hsup : sup σ w n = true) : kRow (sK σ n) = true := by
  rw [sup_at hW hn] at hsup
  cases hb : kBased (sK σ n) with
  | true =>
    rcases kB_cases hb with z | z | z <;> rw [z] <;> rfl
  | false =>
    rw [hb, if_neg (by decide)] at hsup
    have hsup := of_decide_eq_true hsup
    have h : sK σ n = 0 ∨ sK σ n = 7 := by omega
    rcases h with z | z <;> rw [z] <;> rfl
theorem Lc_putIn_d (hW : WF T σ) (hL : LK Λ σ) (hS : StRel σ β) {v : Int32} (hn : n < sN σ) (hsup : sup σ 0 n = true) (hlo : lo σ n = some l) (hs : stale σ n = false) (hf : fulB σ l = false) {i : Nat} (hi : i ≤ (El σ n).length) : ∃ β', StRel (chN σ l (insAt (sS σ l) (dn σ true n i) v) n true) β' ∧ ∀ Q, WPC X (d + 7) 52 [.ref (Λ.1 4 n), .int (nI i), .int v] (mm_C Λ σ β M) Q = Q (.inl none) (mm_C Λ (chN σ l (insAt (sS σ l) (dn σ true n i) v) n true) β' M) := by
  have hg := (hW.lg hn).2.2.2
  have hl8 := lo_N hW hn hlo
  rw [ful_cat hW hl8 (lo_k hW hn hlo) (lo_z hW hn hlo), decide_eq_false_iff_not] at hf
  have hkS : kS (sK σ (l / 8)) = true := by rcases lo_k hW hn hlo with z | z <;> rw [z] <;> rfl
  have hlen := cat_len hW (show l / 8 < sN σ by omega) hkS
  have h := Lc_putIn_eq (X := X) (d := d + (6 - sG σ n)) (M := M) (v := v) hW hL hS (l := l) (by omega) n hn hsup hlo hs i hi
  rw [show d + (6 - sG σ n) + sG σ n + 1 = d + 7 by omega] at h
  exact h
theorem putIn_len (hW : WF T σ) (hn : n < sN σ) (hlo : lo σ n = some l) (hs : stale σ n = false) {i : Nat} {v : Int32} (hi : i ≤ (El σ n).length) : (El (chN σ l (insAt (sS σ l) (dn σ true n i) v) n true) n).length = (El σ n).length + 1 := by
  have hd := dn_lt hW (ins := true) n hn hlo hs i (by rw [if_pos rfl]; omega)
  rw [if_pos rfl] at hd
  have hil := insAt_len (L := sS σ l) (i := dn σ true n i) (v := v) (by omega)
  have := chN_len hW hn hlo hs (L := insAt (sS σ l) (dn σ true n i) v) (up := true) (by rw [if_pos rfl, if_pos rfl]; omega) (fun z => by cases z) n hn (by rw [on_at hW hn]; simp)
  rw [if_pos rfl, if_pos rfl] at this
  exact this
theorem opC_add (hW : WF T σ) (hT : T + 1 < 1000000) (hL : LK Λ σ) (hS : StRel σ β) {h v : Int32} : opC X (d + 16) Λ σ β M 48 [.int h, .int v] (sp_add σ h v) exI := by
  cases hn : ndo σ h with
  | none =>
    refine opC.no (β' := β) 1 (by decide) (by simp only [sp_add, hn]) hS fun Q => ?_
    have q1 := fun Q => Lc_nodeIn_no (X := X) (d := d + 8) (β := β) (M := M) (Q := Q) hL hn
    simp (disch := omega) only [e_48, w_48_0, w_48_1, w_48_2, w_48_5, w_48_6, w_48_7, w_48_10, w_48_13, w_48_14, w_48_17, w_48_18, w_48_21, w_48_22, w_48_23, w_48_26, w_48_27, w_48_30, w_48_31, w_48_34, mm_k_none, mm_k_int, mm_k_ref, mm_k_null, mm_K_inl, mm_tl_some, mm_tl_none, mm_fg_ok, mm_rc_ok, mm_fp_ok, mm_ai_ok, mm_si_ok, mm_az_ok, mm_sz_ok, z01, z11, zb, b2i_t, b2i_f, true_and, and_true, c_g0, c_g1, c_g2, c_g3, c_g4, c_g5, c_g6, c_g7, c_g8, c_g9, c_g10, c_g11, c_g12, c_gl, c_o0, c_o1, c_o2, c_o3, c_ol, c_s0, c_s1, c_s2, c_s3, c_sl, Nat.zero_le, Nat.not_lt_zero, if_true, if_false, m1_lt, m1_ge, mm_inT, pk_mul, nI_add, mm_in_nI, mm_cl_nI, nI_eq, nI_ltI, nI_leI, ↓reduceIte, Nat.add_zero, Nat.reduceLeDiff, oI_some, oI_none, m1_lt, nI_lt0, Rf_fail_eq, Rf_out_eq, eq_self, not_true_eq_false, not_false_eq_true, Nat.reduceEqDiff, Nat.reduceLT, ne_eq, or_true, true_or, or_false, false_or, decide_true, decide_false, Bool.true_eq_false, Bool.false_eq_true, b2i_ne, mm_K_inr, mm_G_ok, c_skip, rf_n, rf_s, c_obj_at hL, q1]
    rfl
  | some n =>
    have hlt := ndo_lt hW hn
    have h72 := El_72 hW hlt
    have q1 := fun Q => Lc_nodeIn_ok (X := X) (d := d + 8) (β := β) (M := M) (Q := Q) hL hn
    have qw := fun d Q => Lc_canBeWritten_eq (X := X) (d := d) (β := β) (M := M) (Q := Q) hW hL hlt
    cases hsup : sup σ 0 n with
    | false =>
      rw [hsup] at qw
      refine opC.no (β' := β) 2 (by decide) (by simp only [sp_add, hn, hsup, if_true]) hS fun Q => ?_
      simp (disch := omega) only [e_48, w_48_0, w_48_1, w_48_2, w_48_5, w_48_6, w_48_7, w_48_10, w_48_13, w_48_14, w_48_17, w_48_18, w_48_21, w_48_22, w_48_23, w_48_26, w_48_27, w_48_30, w_48_31, w_48_34, mm_k_none, mm_k_int, mm_k_ref, mm_k_null, mm_K_inl, mm_tl_some, mm_tl_none, mm_fg_ok, mm_rc_ok, mm_fp_ok, mm_ai_ok, mm_si_ok, mm_az_ok, mm_sz_ok, z01, z11, zb, b2i_t, b2i_f, true_and, and_true, c_g0, c_g1, c_g2, c_g3, c_g4, c_g5, c_g6, c_g7, c_g8, c_g9, c_g10, c_g11, c_g12, c_gl, c_o0, c_o1, c_o2, c_o3, c_ol, c_s0, c_s1, c_s2, c_s3, c_sl, Nat.zero_le, Nat.not_lt_zero, if_true, if_false, m1_lt, m1_ge, mm_inT, pk_mul, nI_add, mm_in_nI, mm_cl_nI, nI_eq, nI_ltI, nI_leI, ↓reduceIte, Nat.add_zero, Nat.reduceLeDiff, oI_some, oI_none, m1_lt, nI_lt0, Rf_fail_eq, Rf_out_eq, eq_self, not_true_eq_false, not_false_eq_true, Nat.reduceEqDiff, Nat.reduceLT, ne_eq, or_true, true_or, or_false, false_or, decide_true, decide_false, Bool.true_eq_false, Bool.false_eq_true, b2i_ne, mm_K_inr, mm_G_ok, c_skip, rf_n, rf_s, Lc_needTold_1, Lc_needTold_0, Lc_needTold_eq, Lc_needRoom_1, Lc_needRoom_0, Lc_needRoom_eq, Lc_needPlace_1, Lc_needPlace_0, Lc_needPlace_eq, Lc_needThere_1, Lc_needThere_0, Lc_needThere_eq, Lc_needSupported_1, Lc_needSupported_0, Lc_needSupported_eq, c_obj_at hL, q1, qw]
      rfl
    | true =>
      rw [hsup] at qw
      have hr := sup_row hW hlt (by decide) hsup
      cases hs : stale σ n with
      | true =>
        refine opC.no (β' := β) 3 (by decide) (by simp only [sp_add, hn, hsup, hs, Bool.true_eq_false, if_false, if_true]) hS fun Q => ?_
        have q2 := fun Q => Lc_needFresh_no (X := X) (d := d + 7) (β := β) (M := M) (Q := Q) hW hL hS hlt hs
        simp (disch := omega) only [e_48, w_48_0, w_48_1, w_48_2, w_48_5, w_48_6, w_48_7, w_48_10, w_48_13, w_48_14, w_48_17, w_48_18, w_48_21, w_48_22, w_48_23, w_48_26, w_48_27, w_48_30, w_48_31, w_48_34, mm_k_none, mm_k_int, mm_k_ref, mm_k_null, mm_K_inl, mm_tl_some, mm_tl_none, mm_fg_ok, mm_rc_ok, mm_fp_ok, mm_ai_ok, mm_si_ok, mm_az_ok, mm_sz_ok, z01, z11, zb, b2i_t, b2i_f, true_and, and_true, c_g0, c_g1, c_g2, c_g3, c_g4, c_g5, c_g6, c_g7, c_g8, c_g9, c_g10, c_g11, c_g12, c_gl, c_o0, c_o1, c_o2, c_o3, c_ol, c_s0, c_s1, c_s2, c_s3, c_sl, Nat.zero_le, Nat.not_lt_zero, if_true, if_false, m1_lt, m1_ge, mm_inT, pk_mul, nI_add, mm_in_nI, mm_cl_nI, nI_eq, nI_ltI, nI_leI, ↓reduceIte, Nat.add_zero, Nat.reduceLeDiff, oI_some, oI_none, m1_lt, nI_lt0, Rf_fail_eq, Rf_out_eq, eq_self, not_true_eq_false, not_false_eq_true, Nat.reduceEqDiff, Nat.reduceLT, ne_eq, or_true, true_or, or_false, false_or, decide_true, decide_false, Bool.true_eq_false, Bool.false_eq_true, b2i_ne, mm_K_inr, mm_G_ok, c_skip, rf_n, rf_s, Lc_needTold_1, Lc_needTold_0, Lc_needTold_eq, Lc_needRoom_1, Lc_needRoom_0, Lc_needRoom_eq, Lc_needPlace_1, Lc_needPlace_0, Lc_needPlace_eq, Lc_needThere_1, Lc_needThere_0, Lc_needThere_eq, Lc_needSupported_1, Lc_needSupported_0, Lc_needSupported_eq, c_obj_at hL, q1, qw, q2]
        rfl
      | false =>
        have q2 := fun Q => Lc_needFresh_ok (X := X) (d := d + 7) (β := β) (M := M) (Q := Q) hW hL hS hlt hs
        obtain ⟨l, hlo⟩ := sup_lo hW (by decide) n hlt hsup
        have q3 := fun Q => Lc_room_eq (X := X) (d := d + 8) (M := M) (Q := Q) hW hL hS hlt hr hlo
        cases hf : fulB σ l with
        | true =>
          rw [hf] at q3
          refine opC.no (β' := β) 3 (by decide) (by simp only [sp_add, sp_putIn, hn, hlo, hf, hsup, hs, Bool.true_eq_false, Bool.false_eq_true, if_false, if_true]) hS fun Q => ?_
          simp (disch := omega) only [e_48, w_48_0, w_48_1, w_48_2, w_48_5, w_48_6, w_48_7, w_48_10, w_48_13, w_48_14, w_48_17, w_48_18, w_48_21, w_48_22, w_48_23, w_48_26, w_48_27, w_48_30, w_48_31, w_48_34, mm_k_none, mm_k_int, mm_k_ref, mm_k_null, mm_K_inl, mm_tl_some, mm_tl_none, mm_fg_ok, mm_rc_ok, mm_fp_ok, mm_ai_ok, mm_si_ok, mm_az_ok, mm_sz_ok, z01, z11, zb, b2i_t, b2i_f, true_and, and_true, c_g0, c_g1, c_g2, c_g3, c_g4, c_g5, c_g6, c_g7, c_g8, c_g9, c_g10, c_g11, c_g12, c_gl, c_o0, c_o1, c_o2, c_o3, c_ol, c_s0, c_s1, c_s2, c_s3, c_sl, Nat.zero_le, Nat.not_lt_zero, if_true, if_false, m1_lt, m1_ge, mm_inT, pk_mul, nI_add, mm_in_nI, mm_cl_nI, nI_eq, nI_ltI, nI_leI, ↓reduceIte, Nat.add_zero, Nat.reduceLeDiff, oI_some, oI_none, m1_lt, nI_lt0, Rf_fail_eq, Rf_out_eq, eq_self, not_true_eq_false, not_false_eq_true, Nat.reduceEqDiff, Nat.reduceLT, ne_eq, or_true, true_or, or_false, false_or, decide_true, decide_false, Bool.true_eq_false, Bool.false_eq_true, b2i_ne, mm_K_inr, mm_G_ok, c_skip, rf_n, rf_s, Lc_needTold_1, Lc_needTold_0, Lc_needTold_eq, Lc_needRoom_1, Lc_needRoom_0, Lc_needRoom_eq, Lc_needPlace_1, Lc_needPlace_0, Lc_needPlace_eq, Lc_needThere_1, Lc_needThere_0, Lc_needThere_eq, Lc_needSupported_1, Lc_needSupported_0, Lc_needSupported_eq, c_obj_at hL, q1, qw, q2, q3]
          rfl
        | false =>
          rw [hf] at q3
          obtain ⟨β', s1, q4⟩ := Lc_putIn_d (X := X) (d := d + 8) (M := M) (v := v) hW hL hS hlt hsup hlo hs hf (Nat.le_refl _)
          have qr := fun d Q => Lc_rowLength_eq (X := X) (d := d) (M := M) (Q := Q) hW hL hS hlt hr hs
          have hW' := WF_putIn hW hT hlt hs hsup (v := v) (Nat.le_refl (El σ n).length)
          have esp : sp_putIn σ n (El σ n).length v = (0, nI ((El σ n).length + 1), chN σ l (insAt (sS σ l) (dn σ true n (El σ n).length) v) n true) := by
            simp only [sp_putIn, hlo, hf, Bool.false_eq_true, if_false]
            rfl
          rw [esp] at hW'
          have qn := chN_rd (X := X) hW hL hlt hr hW' s1
          have hlen := putIn_len hW hlt hlo hs (v := v) (Nat.le_refl (El σ n).length)
          generalize hσ' : chN σ l (insAt (sS σ l) (dn σ true n (El σ n).length) v) n true = σ' at s1 q4 esp hW' qn hlen
          rw [hlen] at qn
          have e1 : sN σ' = sN σ := by rw [← hσ']; rfl
          have e2 : sK σ' = sK σ := by rw [← hσ']; rfl
          refine opC.chg (β' := β') (b := nI ((El σ n).length + 1)) (σ' := σ') ?_ (LK_same hL e1 e2) s1 fun Q => ?_
          · simp only [sp_add, hn, hsup, hs, Bool.true_eq_false, Bool.false_eq_true, if_false]
            exact esp
          · simp (disch := omega) only [e_48, w_48_0, w_48_1, w_48_2, w_48_5, w_48_6, w_48_7, w_48_10, w_48_13, w_48_14, w_48_17, w_48_18, w_48_21, w_48_22, w_48_23, w_48_26, w_48_27, w_48_30, w_48_31, w_48_34, mm_k_none, mm_k_int, mm_k_ref, mm_k_null, mm_K_inl, mm_tl_some, mm_tl_none, mm_fg_ok, mm_rc_ok, mm_fp_ok, mm_ai_ok, mm_si_ok, mm_az_ok, mm_sz_ok, z01, z11, zb, b2i_t, b2i_f, true_and, and_true, c_g0, c_g1, c_g2, c_g3, c_g4, c_g5, c_g6, c_g7, c_g8, c_g9, c_g10, c_g11, c_g12, c_gl, c_o0, c_o1, c_o2, c_o3, c_ol, c_s0, c_s1, c_s2, c_s3, c_sl, Nat.zero_le, Nat.not_lt_zero, if_true, if_false, m1_lt, m1_ge, mm_inT, pk_mul, nI_add, mm_in_nI, mm_cl_nI, nI_eq, nI_ltI, nI_leI, ↓reduceIte, Nat.add_zero, Nat.reduceLeDiff, oI_some, oI_none, m1_lt, nI_lt0, Rf_fail_eq, Rf_out_eq, eq_self, not_true_eq_false, not_false_eq_true, Nat.reduceEqDiff, Nat.reduceLT, ne_eq, or_true, true_or, or_false, false_or, decide_true, decide_false, Bool.true_eq_false, Bool.false_eq_true, b2i_ne, mm_K_inr, mm_G_ok, c_skip, rf_n, rf_s, Lc_needTold_1, Lc_needTold_0, Lc_needTold_eq, Lc_needRoom_1, Lc_needRoom_0, Lc_needRoom_eq, Lc_needPlace_1, Lc_needPlace_0, Lc_needPlace_eq, Lc_needThere_1, Lc_needThere_0, Lc_needThere_eq, Lc_needSupported_1, Lc_needSupported_0, Lc_needSupported_eq, c_obj_at hL, q1, qw, q2, q3, q4, qr, qn]
end CL22
