/-! the class: takeOut of KEYS -/
theorem split_at {R : List Nat} {i : Nat} (hi : i < R.length) : R = R.take i ++ R[i] :: R.drop (i + 1) := by
  conv => lhs; rw [← List.take_append_drop i R, List.drop_eq_getElem_cons hi]
theorem flat_gone {f f' : Nat → List Int32} {R1 R2 : List Nat} {key : Nat} (h' : f' key = []) (hf : ∀ k, k ∈ R1 ++ key :: R2 → k ≠ key → f' k = f k) (hn : (R1 ++ key :: R2).Nodup) : flat f' ((R1 ++ key :: R2).erase key) = flat f R1 ++ flat f R2 := by
  have h1 : key ∉ R1 := fun z => (List.nodup_append.1 hn).2.2 key z key List.mem_cons_self rfl
  have h2 : key ∉ R2 := (List.nodup_cons.1 (List.nodup_append.1 hn).2.1).1
  rw [flat_erase h', flat_app, flat_cons, h']
  rw [flat_congr R1 (fun k hk => hf k (by simp [hk]) (fun z => h1 (by rw [← z]; exact hk))), flat_congr R2 (fun k hk => hf k (by simp [hk]) (fun z => h2 (by rw [← z]; exact hk)))]
  rfl
section CL21
variable {X : Nat × Nat × (Nat → Int32)} {d T n c m l : Nat} {Λ : Lay} {σ : Sg} {β : CS} {M : mm_M} {Q : mm_Out → mm_M → Prop}
theorem St_tk_2 (hL : LK Λ σ) (hn : n < sN σ) (hk : kS (sK σ n) = true) {A B : List (Nat × Int32)} {key many : Nat} (hkey : key < c_len σ 8 n) {l1 : Option Value} : ∀ (C : List Int32) (q : Nat) (β : CS), holds β n (A ++ C.map (fun v => (key, v)) ++ B) → A.length + C.length + B.length ≤ c_len σ 6 n → q + C.length = many → many ≤ 24 → ∃ β', oS n β β' ∧ holds β' n (A ++ B) ∧ β'.1 8 n = upd (β.1 8 n) key (β.1 8 n key + nI C.length) ∧ ∀ Q, WP X (d + 2) 13 42 [some (.ref (Λ.1 5 n)), l1, some (.int (nI A.length)), some (.int (nI many)), some (.int (nI q))] [] (mm_C Λ σ β M) Q = Q (.inl none) (mm_C Λ σ β' M)
  | [], q, β, hP, hl, hq, hm => by
    rw [List.map_nil, List.append_nil] at hP
    rw [List.length_nil] at hq
    have e : many ≤ q := by omega
    refine ⟨β, ⟨fun _ _ _ => rfl, fun _ _ => rfl⟩, hP, upd_self.symm, fun Q => ?_⟩
    rw [w_13_42]
    simp (disch := omega) only [w_13_0, w_13_1, w_13_2, w_13_3, w_13_5, w_13_6, w_13_9, w_13_10, w_13_11, w_13_12, w_13_15, w_13_16, w_13_17, w_13_20, w_13_21, w_13_22, w_13_25, w_13_28, w_13_29, w_13_30, w_13_33, w_13_34, w_13_35, w_13_38, w_13_39, w_13_40, w_13_44, w_13_45, w_13_48, w_13_49, w_13_50, w_13_53, w_13_56, w_13_59, mm_k_none, mm_k_int, mm_k_ref, mm_k_null, mm_K_inl, mm_tl_some, mm_tl_none, mm_fg_ok, mm_rc_ok, mm_fp_ok, mm_ai_ok, mm_si_ok, mm_az_ok, mm_sz_ok, z01, z11, zb, b2i_t, b2i_f, true_and, and_true, c_g0, c_g1, c_g2, c_g3, c_g4, c_g5, c_g6, c_g7, c_g8, c_g9, c_g10, c_g11, c_g12, c_gl, c_o0, c_o1, c_o2, c_o3, c_ol, c_s0, c_s1, c_s2, c_s3, c_sl, Nat.zero_le, Nat.not_lt_zero, if_true, if_false, m1_lt, m1_ge, mm_inT, pk_mul, nI_add, mm_in_nI, mm_cl_nI, nI_eq, nI_ltI, nI_leI, ↓reduceIte, Nat.add_zero, Nat.reduceLeDiff, oI_some, oI_none, m1_lt, nI_lt0, Rf_fail_eq, Rf_out_eq, eq_self, not_true_eq_false, not_false_eq_true, Nat.reduceEqDiff, Nat.reduceLT, ne_eq, or_true, true_or, or_false, false_or, decide_true, decide_false, Bool.true_eq_false, Bool.false_eq_true, b2i_ne, e]
  | v :: C, q, β, hP, hl, hq, hm => by
    rw [List.length_cons] at hl hq
    have g := c_len6_le (σ := σ) (n := n)
    have e : ¬ many ≤ q := by omega
    have hst := c_st_at (β := β) (M := M) hL hn hk
    have hpl : (A ++ (v :: C).map (fun v => (key, v)) ++ B).length = A.length + (C.length + 1) + B.length := by simp; omega
    have hw : A.length < (A ++ (v :: C).map (fun v => (key, v)) ++ B).length := by omega
    have eg : (A ++ (v :: C).map (fun v => (key, v)) ++ B)[A.length] = (key, v) := by simp
    have ed : delG (A ++ (v :: C).map (fun v => (key, v)) ++ B) A.length = A ++ C.map (fun v => (key, v)) ++ B := by
      rw [List.append_assoc]
      have := delG_app_r (A := A) (B := (v :: C).map (fun v => (key, v)) ++ B) (j := 0)
      rw [Nat.add_zero] at this
      rw [this, List.append_assoc]
      rfl
    obtain ⟨β1, o1, o2, o3, q1⟩ := St_takeOut_eq (X := X) (d := d) (M := M) hL hn hk hP (by omega) hw (by rw [eg]; exact hkey)
    rw [eg] at o3
    rw [ed] at o2
    obtain ⟨β', p1, p2, p3, q2⟩ := St_tk_2 hL hn hk (A := A) (B := B) (many := many) hkey (l1 := l1) C (q + 1) β1 o2 (by omega) (by omega) hm
    refine ⟨β', o1.trans p1, p2, ?_, fun Q => ?_⟩
    · rw [p3, o3, up_at, upd_upd, List.length_cons, Int32.add_assoc, nI_add, Nat.add_comm 1]
    · rw [w_13_42]
      refine Eq.trans ?_ (q2 Q)
      simp (disch := omega) only [w_13_0, w_13_1, w_13_2, w_13_3, w_13_5, w_13_6, w_13_9, w_13_10, w_13_11, w_13_12, w_13_15, w_13_16, w_13_17, w_13_20, w_13_21, w_13_22, w_13_25, w_13_28, w_13_29, w_13_30, w_13_33, w_13_34, w_13_35, w_13_38, w_13_39, w_13_40, w_13_44, w_13_45, w_13_48, w_13_49, w_13_50, w_13_53, w_13_56, w_13_59, mm_k_none, mm_k_int, mm_k_ref, mm_k_null, mm_K_inl, mm_tl_some, mm_tl_none, mm_fg_ok, mm_rc_ok, mm_fp_ok, mm_ai_ok, mm_si_ok, mm_az_ok, mm_sz_ok, z01, z11, zb, b2i_t, b2i_f, true_and, and_true, c_g0, c_g1, c_g2, c_g3, c_g4, c_g5, c_g6, c_g7, c_g8, c_g9, c_g10, c_g11, c_g12, c_gl, c_o0, c_o1, c_o2, c_o3, c_ol, c_s0, c_s1, c_s2, c_s3, c_sl, Nat.zero_le, Nat.not_lt_zero, if_true, if_false, m1_lt, m1_ge, mm_inT, pk_mul, nI_add, mm_in_nI, mm_cl_nI, nI_eq, nI_ltI, nI_leI, ↓reduceIte, Nat.add_zero, Nat.reduceLeDiff, oI_some, oI_none, m1_lt, nI_lt0, Rf_fail_eq, Rf_out_eq, eq_self, not_true_eq_false, not_false_eq_true, Nat.reduceEqDiff, Nat.reduceLT, ne_eq, or_true, true_or, or_false, false_or, decide_true, decide_false, Bool.true_eq_false, Bool.false_eq_true, b2i_ne, e, hst, q1]
theorem St_tk_1 (hW : WF T σ) (hL : LK Λ σ) (hS : StRel σ β) (hn : n < sN σ) (h6 : sK σ n = 6) {i : Nat} (hi : i < (sR σ n).length) : ∀ (j k : Nat), j + k = i → WP X (d + 1) 13 4 [some (.ref (Λ.1 5 n)), some (.int (nI i)), some (.int (nI (flat (fun k => sS σ (8 * n + k)) ((sR σ n).take k)).length)), some (.int (nI k)), none] [] (mm_C Λ σ β M) Q = WP X (d + 1) 13 28 [some (.ref (Λ.1 5 n)), some (.int (nI i)), some (.int (nI (flat (fun k => sS σ (8 * n + k)) ((sR σ n).take i)).length)), some (.int (nI i)), none] [] (mm_C Λ σ β M) Q := by
  have hk : kS (sK σ n) = true := by rw [h6]; rfl
  have hr8 := hW.r8 n
  have hst := c_st_at (β := β) (M := M) hL hn hk
  have h7 := c_arr_at (β := β) (M := M) hL hn hk (c := 7) (Or.inr (Or.inl rfl))
  have g7 : c_len σ 7 n = c_len σ 6 n := rfl
  have ecat : cat σ n = flat (fun k => sS σ (8 * n + k)) (sR σ n) := by
    rw [cat_flat]
    unfold ksO
    rw [if_pos h6]
  obtain ⟨d1, d2, d3⟩ := hW.rk hn h6
  have hlen := cat_len hW hn hk
  have h24 := c_len6_le (σ := σ) (n := n)
  have hP := (hS n hn hk).1
  intro j
  induction j with
  | zero =>
    intro k hk2
    have e : k = i := by omega
    subst e
    rw [w_13_4]
    simp (disch := omega) only [w_13_0, w_13_1, w_13_2, w_13_3, w_13_5, w_13_6, w_13_9, w_13_10, w_13_11, w_13_12, w_13_15, w_13_16, w_13_17, w_13_20, w_13_21, w_13_22, w_13_25, w_13_28, w_13_29, w_13_30, w_13_33, w_13_34, w_13_35, w_13_38, w_13_39, w_13_40, w_13_44, w_13_45, w_13_48, w_13_49, w_13_50, w_13_53, w_13_56, w_13_59, mm_k_none, mm_k_int, mm_k_ref, mm_k_null, mm_K_inl, mm_tl_some, mm_tl_none, mm_fg_ok, mm_rc_ok, mm_fp_ok, mm_ai_ok, mm_si_ok, mm_az_ok, mm_sz_ok, z01, z11, zb, b2i_t, b2i_f, true_and, and_true, c_g0, c_g1, c_g2, c_g3, c_g4, c_g5, c_g6, c_g7, c_g8, c_g9, c_g10, c_g11, c_g12, c_gl, c_o0, c_o1, c_o2, c_o3, c_ol, c_s0, c_s1, c_s2, c_s3, c_sl, Nat.zero_le, Nat.not_lt_zero, if_true, if_false, m1_lt, m1_ge, mm_inT, pk_mul, nI_add, mm_in_nI, mm_cl_nI, nI_eq, nI_ltI, nI_leI, ↓reduceIte, Nat.add_zero, Nat.reduceLeDiff, oI_some, oI_none, m1_lt, nI_lt0, Rf_fail_eq, Rf_out_eq, eq_self, not_true_eq_false, not_false_eq_true, Nat.reduceEqDiff, Nat.reduceLT, ne_eq, or_true, true_or, or_false, false_or, decide_true, decide_false, Bool.true_eq_false, Bool.false_eq_true, b2i_ne, Nat.le_refl]
  | succ j ih =>
    intro k hk2
    have e : ¬ i ≤ k := by omega
    have hkl : k < (sR σ n).length := by omega
    obtain ⟨k8, hne⟩ := (d3 _).1 (List.getElem_mem hkl)
    obtain ⟨g, eg⟩ := flat_nth (f := fun k => sS σ (8 * n + k)) hkl hne
    have et := flat_take1 (f := fun k => sS σ (8 * n + k)) hkl
    have h5 : (sR σ n)[k] < c_len σ 8 n := by
      show _ < if sK σ n = 6 then 8 else 1
      rw [if_pos h6]; exact k8
    have hct := fun Q => St_countOf_eq (X := X) (d := d) (M := M) (Q := Q) hL hn hk hP (cat_8 hW hn) hlen k8
    rw [(cat_seg hW hn hk h5).1] at hct
    have h24' := hW.s24 (8 * n + (sR σ n)[k])
    refine Eq.trans ?_ (ih (k + 1) (by omega))
    rw [et]
    generalize (flat (fun k => sS σ (8 * n + k)) ((sR σ n).take k)).length = w at g eg ⊢
    have hw : w < (cat σ n).length := by rw [ecat]; exact g
    have ek : β.1 7 n w = nI (sR σ n)[k] := by
      rw [(hP.2 w hw).2, ← eg]
      congr 2
      simp only [ecat]
    rw [w_13_4]
    simp (disch := omega) only [w_13_0, w_13_1, w_13_2, w_13_3, w_13_5, w_13_6, w_13_9, w_13_10, w_13_11, w_13_12, w_13_15, w_13_16, w_13_17, w_13_20, w_13_21, w_13_22, w_13_25, w_13_28, w_13_29, w_13_30, w_13_33, w_13_34, w_13_35, w_13_38, w_13_39, w_13_40, w_13_44, w_13_45, w_13_48, w_13_49, w_13_50, w_13_53, w_13_56, w_13_59, mm_k_none, mm_k_int, mm_k_ref, mm_k_null, mm_K_inl, mm_tl_some, mm_tl_none, mm_fg_ok, mm_rc_ok, mm_fp_ok, mm_ai_ok, mm_si_ok, mm_az_ok, mm_sz_ok, z01, z11, zb, b2i_t, b2i_f, true_and, and_true, c_g0, c_g1, c_g2, c_g3, c_g4, c_g5, c_g6, c_g7, c_g8, c_g9, c_g10, c_g11, c_g12, c_gl, c_o0, c_o1, c_o2, c_o3, c_ol, c_s0, c_s1, c_s2, c_s3, c_sl, Nat.zero_le, Nat.not_lt_zero, if_true, if_false, m1_lt, m1_ge, mm_inT, pk_mul, nI_add, mm_in_nI, mm_cl_nI, nI_eq, nI_ltI, nI_leI, ↓reduceIte, Nat.add_zero, Nat.reduceLeDiff, oI_some, oI_none, m1_lt, nI_lt0, Rf_fail_eq, Rf_out_eq, eq_self, not_true_eq_false, not_false_eq_true, Nat.reduceEqDiff, Nat.reduceLT, ne_eq, or_true, true_or, or_false, false_or, decide_true, decide_false, Bool.true_eq_false, Bool.false_eq_true, b2i_ne, e, hst, h7, ek, hct]
theorem Lc_takeOut_keys (hW : WF T σ) (hL : LK Λ σ) (hS : StRel σ β) (hm : n < sN σ) (h8 : sK σ n = 8) {i : Nat} (hi : i < (El σ n).length) : ∃ β', StRel (setL σ (8 * sO σ n + (sR σ (sO σ n)).getD i 0) [] (sS σ (8 * sO σ n + (sR σ (sO σ n)).getD i 0)).length) β' ∧ β'.1 2 0 = β.1 2 0 ∧ ∀ Q, WPC X (d + 3) 58 [.ref (Λ.1 4 n), .int (nI i)] (mm_C Λ σ β M) Q = Q (.inl none) (mm_C Λ (setL σ (8 * sO σ n + (sR σ (sO σ n)).getD i 0) [] (sS σ (8 * sO σ n + (sR σ (sO σ n)).getD i 0)).length) β' M) := by
  have ho := hW.o hm (show kOne (sK σ n) = true by rw [h8]; rfl)
  have h6 := hW.map hm (Or.inr h8)
  have vst : vStore Λ σ n = .ref (Λ.1 5 (sO σ n)) := by
    unfold vStore
    rw [if_neg (by rw [h8]; decide), if_pos (Or.inr h8)]
  have hnode := c_node_at (M := M) (β := β) hL hm
  have hElen : (El σ n).length = (sR σ (sO σ n)).length := by rw [El_at hW hm, h8, ElB_8, List.length_map]
  rw [hElen] at hi
  generalize hs : sO σ n = s at ho h6 vst hi ⊢
  have hn : s < sN σ := by omega
  have e0 : (sR σ s).getD i 0 = (sR σ s)[i] := by simp [hi]
  rw [e0]
  have hk : kS (sK σ s) = true := by rw [h6]; rfl
  have hr8 := hW.r8 s
  have hst := c_st_at (β := β) (M := M) hL hn hk
  have h7 := c_arr_at (β := β) (M := M) hL hn hk (c := 7) (Or.inr (Or.inl rfl))
  have g7 : c_len σ 7 s = c_len σ 6 s := rfl
  have ecat : cat σ s = flat (fun k => sS σ (8 * s + k)) (sR σ s) := by
    rw [cat_flat]
    unfold ksO
    rw [if_pos h6]
  obtain ⟨d1, d2, d3⟩ := hW.rk hn h6
  have hlen := cat_len hW hn hk
  have h24 := c_len6_le (σ := σ) (n := s)
  have hP := (hS s hn hk).1
  obtain ⟨k8, hne⟩ := (d3 _).1 (List.getElem_mem hi)
  obtain ⟨g, eg⟩ := flat_nth (f := fun k => sS σ (8 * s + k)) hi hne
  have h5 : (sR σ s)[i] < c_len σ 8 s := by
    show _ < if sK σ s = 6 then 8 else 1
    rw [if_pos h6]; exact k8
  have hct := fun Q => St_countOf_eq (X := X) (d := d + 1) (M := M) (Q := Q) hL hn hk hP (cat_8 hW hn) hlen k8
  rw [(cat_seg hW hn hk h5).1] at hct
  have h24' := hW.s24 (8 * s + (sR σ s)[i])
  have hpos : 1 ≤ (sS σ (8 * s + (sR σ s)[i])).length := Nat.pos_of_ne_zero fun z => hne (List.eq_nil_of_length_eq_zero z)
  have hsp := split_at hi
  have ecat2 : cat σ s = flat (fun k => sS σ (8 * s + k)) ((sR σ s).take i) ++ (sS σ (8 * s + (sR σ s)[i])).map (fun v => ((sR σ s)[i], v)) ++ flat (fun k => sS σ (8 * s + k)) ((sR σ s).drop (i + 1)) := by
    rw [ecat]
    conv => lhs; rw [hsp]
    rw [flat_app, flat_cons, List.append_assoc]
  have q1 := fun Q => St_tk_1 (X := X) (d := d + 1) (M := M) (Q := Q) hW hL hS hn h6 hi i 0 (by omega)
  simp only [List.take_zero] at q1
  have ez : (flat (fun k => sS σ (8 * s + k)) []).length = 0 := rfl
  rw [ez] at q1
  have hP' := hP
  rw [ecat2] at hP'
  have hlen2 := hlen
  rw [ecat2] at hlen2
  simp only [List.length_append, List.length_map] at hlen2
  have ek : β.1 7 s (flat (fun k => sS σ (8 * s + k)) ((sR σ s).take i)).length = nI (sR σ s)[i] := by
    have hw : (flat (fun k => sS σ (8 * s + k)) ((sR σ s).take i)).length < (cat σ s).length := by rw [ecat]; exact g
    rw [(hP.2 _ hw).2, ← eg]
    congr 2
    simp only [ecat]
  obtain ⟨β', o1, o2, o3, q2⟩ := St_tk_2 (X := X) (d := d) (M := M) hL hn hk (A := flat (fun k => sS σ (8 * s + k)) ((sR σ s).take i)) (B := flat (fun k => sS σ (8 * s + k)) ((sR σ s).drop (i + 1))) (many := (sS σ (8 * s + (sR σ s)[i])).length) h5 (l1 := some (.int (nI i))) (sS σ (8 * s + (sR σ s)[i])) 0 β hP' hlen2 (by omega) h24'
  have hc := chg_at hW hS hn (Or.inr h6) h5
  generalize hA : (flat (fun k => sS σ (8 * s + k)) ((sR σ s).take i)).length = w at q1 q2 ek g hlen2
  have hwl : w < 24 := by
    have : (flat (fun k => sS σ (8 * s + k)) (sR σ s)).length ≤ 24 := by rw [← ecat]; omega
    omega
  generalize hkey : (sR σ s)[i] = key at *
  have e2 : (8 * s + key) / 8 = s := by omega
  have e3 : (8 * s + key) % 8 = key := by omega
  have hk' : sK σ ((8 * s + key) / 8) = 0 ∨ sK σ ((8 * s + key) / 8) = 6 := by rw [e2]; exact Or.inr h6
  have hz : sK σ ((8 * s + key) / 8) = 0 → 8 * s + key = 8 * ((8 * s + key) / 8) := by rw [e2]; intro z; omega
  have hl8 : 8 * s + key < 8 * sN σ := by omega
  refine ⟨β', StRel_setL hW hl8 hk' hz hS (by rw [e2]; exact o1) ?_ ?_, o1.1 2 0 (by omega), fun Q => ?_⟩
  · have e4 : cat (setL σ (8 * s + key) [] (sS σ (8 * s + key)).length) ((8 * s + key) / 8) = flat (fun k => sS σ (8 * s + k)) ((sR σ s).take i) ++ flat (fun k => sS σ (8 * s + k)) ((sR σ s).drop (i + 1)) := by
      rw [cat_flat, ks_setL, e2, e3, if_pos h6]
      show flat (fun k => ud (sS σ) (8 * s + key) [] (8 * s + k)) (if ([] : List Int32) = [] then (sR σ s).erase key else _) = _
      rw [if_pos rfl]
      conv => lhs; rw [hsp]
      refine flat_gone (f := fun k => sS σ (8 * s + k)) ud_at (fun k _ hk => ud_ne (by omega)) ?_
      rw [← hsp]
      exact d2
    rw [e4, e2]
    exact o2
  · rw [e2, e3, o3, hc, nI_add]
  · rw [mm_C_setL]
    simp (disch := omega) only [e_58, w_58_0, w_58_1, w_58_4_0, w_58_4_1, w_58_4_2, w_58_4_3, w_58_4_4, w_58_4_5, w_58_4_6, w_58_4_7, w_58_4_8, w_58_4_9, w_58_4_10, w_58_4_11, w_58_4_12, w_58_44, w_58_45, w_58_48, w_58_49, w_58_52, w_58_55, w_58_56, w_58_57, w_58_58, w_58_59, w_58_62, w_58_65, w_58_66, w_58_69, w_58_70, w_58_73, w_58_74, w_58_75, w_58_78, w_58_79, w_58_80, w_58_83, w_58_84, w_58_85, w_58_88, w_58_89, w_58_90, w_58_93, w_58_96, w_58_99, w_58_102, w_58_103, w_58_106, w_58_107, w_58_110, w_58_113, w_58_114, w_58_117, w_58_118, w_58_121, w_58_124, w_58_125, w_58_128, w_58_129, w_58_132, w_58_135, w_58_136, w_58_139, w_58_140, w_58_143, w_58_144, w_58_147, w_58_150, w_58_151, w_58_152, w_58_155, mm_k_none, mm_k_int, mm_k_ref, mm_k_null, mm_K_inl, mm_tl_some, mm_tl_none, mm_fg_ok, mm_rc_ok, mm_fp_ok, mm_ai_ok, mm_si_ok, mm_az_ok, mm_sz_ok, z01, z11, zb, b2i_t, b2i_f, true_and, and_true, c_g0, c_g1, c_g2, c_g3, c_g4, c_g5, c_g6, c_g7, c_g8, c_g9, c_g10, c_g11, c_g12, c_gl, c_o0, c_o1, c_o2, c_o3, c_ol, c_s0, c_s1, c_s2, c_s3, c_sl, Nat.zero_le, Nat.not_lt_zero, if_true, if_false, m1_lt, m1_ge, mm_inT, pk_mul, nI_add, mm_in_nI, mm_cl_nI, nI_eq, nI_ltI, nI_leI, ↓reduceIte, Nat.add_zero, Nat.reduceLeDiff, oI_some, oI_none, m1_lt, nI_lt0, Rf_fail_eq, Rf_out_eq, eq_self, not_true_eq_false, not_false_eq_true, Nat.reduceEqDiff, Nat.reduceLT, ne_eq, or_true, true_or, or_false, false_or, decide_true, decide_false, Bool.true_eq_false, Bool.false_eq_true, b2i_ne, hnode, h8, vst, hst]
    simp (disch := omega) only [e_13, w_13_0, w_13_1, w_13_2, w_13_3, w_13_5, w_13_6, w_13_9, w_13_10, w_13_11, w_13_12, w_13_15, w_13_16, w_13_17, w_13_20, w_13_21, w_13_22, w_13_25, w_13_28, w_13_29, w_13_30, w_13_33, w_13_34, w_13_35, w_13_38, w_13_39, w_13_40, w_13_44, w_13_45, w_13_48, w_13_49, w_13_50, w_13_53, w_13_56, w_13_59, mm_k_none, mm_k_int, mm_k_ref, mm_k_null, mm_K_inl, mm_tl_some, mm_tl_none, mm_fg_ok, mm_rc_ok, mm_fp_ok, mm_ai_ok, mm_si_ok, mm_az_ok, mm_sz_ok, z01, z11, zb, b2i_t, b2i_f, true_and, and_true, c_g0, c_g1, c_g2, c_g3, c_g4, c_g5, c_g6, c_g7, c_g8, c_g9, c_g10, c_g11, c_g12, c_gl, c_o0, c_o1, c_o2, c_o3, c_ol, c_s0, c_s1, c_s2, c_s3, c_sl, Nat.zero_le, Nat.not_lt_zero, if_true, if_false, m1_lt, m1_ge, mm_inT, pk_mul, nI_add, mm_in_nI, mm_cl_nI, nI_eq, nI_ltI, nI_leI, ↓reduceIte, Nat.add_zero, Nat.reduceLeDiff, oI_some, oI_none, m1_lt, nI_lt0, Rf_fail_eq, Rf_out_eq, eq_self, not_true_eq_false, not_false_eq_true, Nat.reduceEqDiff, Nat.reduceLT, ne_eq, or_true, true_or, or_false, false_or, decide_true, decide_false, Bool.true_eq_false, Bool.false_eq_true, b2i_ne, q1]
    have hw7 : w < c_len σ 7 s := by omega
    simp (disch := omega) only [e_13, w_13_0, w_13_1, w_13_2, w_13_3, w_13_5, w_13_6, w_13_9, w_13_10, w_13_11, w_13_12, w_13_15, w_13_16, w_13_17, w_13_20, w_13_21, w_13_22, w_13_25, w_13_28, w_13_29, w_13_30, w_13_33, w_13_34, w_13_35, w_13_38, w_13_39, w_13_40, w_13_44, w_13_45, w_13_48, w_13_49, w_13_50, w_13_53, w_13_56, w_13_59, w_58_0, w_58_1, w_58_4_0, w_58_4_1, w_58_4_2, w_58_4_3, w_58_4_4, w_58_4_5, w_58_4_6, w_58_4_7, w_58_4_8, w_58_4_9, w_58_4_10, w_58_4_11, w_58_4_12, w_58_44, w_58_45, w_58_48, w_58_49, w_58_52, w_58_55, w_58_56, w_58_57, w_58_58, w_58_59, w_58_62, w_58_65, w_58_66, w_58_69, w_58_70, w_58_73, w_58_74, w_58_75, w_58_78, w_58_79, w_58_80, w_58_83, w_58_84, w_58_85, w_58_88, w_58_89, w_58_90, w_58_93, w_58_96, w_58_99, w_58_102, w_58_103, w_58_106, w_58_107, w_58_110, w_58_113, w_58_114, w_58_117, w_58_118, w_58_121, w_58_124, w_58_125, w_58_128, w_58_129, w_58_132, w_58_135, w_58_136, w_58_139, w_58_140, w_58_143, w_58_144, w_58_147, w_58_150, w_58_151, w_58_152, w_58_155, mm_k_none, mm_k_int, mm_k_ref, mm_k_null, mm_K_inl, mm_tl_some, mm_tl_none, mm_fg_ok, mm_rc_ok, mm_fp_ok, mm_ai_ok, mm_si_ok, mm_az_ok, mm_sz_ok, z01, z11, zb, b2i_t, b2i_f, true_and, and_true, c_g0, c_g1, c_g2, c_g3, c_g4, c_g5, c_g6, c_g7, c_g8, c_g9, c_g10, c_g11, c_g12, c_gl, c_o0, c_o1, c_o2, c_o3, c_ol, c_s0, c_s1, c_s2, c_s3, c_sl, Nat.zero_le, Nat.not_lt_zero, if_true, if_false, m1_lt, m1_ge, mm_inT, pk_mul, nI_add, mm_in_nI, mm_cl_nI, nI_eq, nI_ltI, nI_leI, ↓reduceIte, Nat.add_zero, Nat.reduceLeDiff, oI_some, oI_none, m1_lt, nI_lt0, Rf_fail_eq, Rf_out_eq, eq_self, not_true_eq_false, not_false_eq_true, Nat.reduceEqDiff, Nat.reduceLT, ne_eq, or_true, true_or, or_false, false_or, decide_true, decide_false, Bool.true_eq_false, Bool.false_eq_true, b2i_ne, hst, h7, hw7, ek, hct, q2]
end CL21
