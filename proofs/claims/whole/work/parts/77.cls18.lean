/-! the class: replace -/
theorem setAt_set {L : List Int32} {i : Nat} {v : Int32} (h : i < L.length) : setAt L i v = L.set i v := by
  unfold setAt
  rw [List.set_eq_take_append_cons_drop, if_pos h]
theorem flat_set {f f' : Nat → List Int32} {key i : Nat} {v : Int32} (h' : f' key = (f key).set i v) (hf : ∀ k, k ≠ key → f' k = f k) (hi : i < (f key).length) : ∀ (R : List Nat), R.Nodup → key ∈ R → flat f' R = (flat f R).set (fsK key (flat f R) + i) (key, v)
  | [], _, h => by cases h
  | x :: R, hn, hk => by
    obtain ⟨h1, h2⟩ := List.nodup_cons.1 hn
    have hne : f key ≠ [] := fun z => by rw [z] at hi; simp at hi
    rw [flat_cons, flat_cons]
    by_cases e : x = key
    · subst e
      rw [fsK_map0 hne, Nat.zero_add, List.set_append_left _ _ (by simpa using hi), h', flat_congr R (fun k hk2 => hf k (fun z => h1 (by rw [← z]; exact hk2))), List.map_set]
    · have hk2 : key ∈ R := by
        rcases List.mem_cons.1 hk with z | z
        · exact absurd z.symm e
        · exact z
      rw [fsK_mapne e, hf x e, flat_set h' hf hi R h2 hk2, List.set_append_right _ _ (by simp; omega)]
      congr 2
      simp
      omega
section CL19
variable {X : Nat × Nat × (Nat → Int32)} {d T n c m l : Nat} {Λ : Lay} {σ : Sg} {β : CS} {M : mm_M} {Q : mm_Out → mm_M → Prop}
theorem cat_in (hW : WF T σ) (hn : n < sN σ) {k : Nat} (hk : k < c_len σ 8 n) (hne : sS σ (8 * n + k) ≠ []) : k ∈ ksO σ n := by
  have hk8 : c_len σ 8 n = if sK σ n = 6 then 8 else 1 := rfl
  rw [hk8] at hk
  unfold ksO
  by_cases h6 : sK σ n = 6
  · rw [if_pos h6] at hk ⊢
    exact ((hW.rk hn h6).2.2 k).2 ⟨hk, hne⟩
  · rw [if_neg h6] at hk ⊢
    simp
    omega
theorem cat_seg1 (hW : WF T σ) (hn : n < sN σ) {k : Nat} (hk : k < c_len σ 8 n) : ∀ i (hi : i < (sS σ (8 * n + k)).length), ∃ g : fsK k (cat σ n) + i < (cat σ n).length, (cat σ n)[fsK k (cat σ n) + i] = (k, (sS σ (8 * n + k))[i]) := by
  intro i hi
  have hne : sS σ (8 * n + k) ≠ [] := fun z => by rw [z] at hi; simp at hi
  have e := flat_fs (f := fun k => sS σ (8 * n + k)) (ksO σ n) (ks_nodup hW hn) (cat_in hW hn hk hne) i hi
  rw [← cat_flat] at e
  obtain ⟨g, e2⟩ := List.getElem?_eq_some_iff.1 e
  exact ⟨g, e2⟩
theorem l8_len (hk : sK σ (l / 8) = 0 ∨ sK σ (l / 8) = 6) (hz : sK σ (l / 8) = 0 → l = 8 * (l / 8)) : l % 8 < c_len σ 8 (l / 8) := by
  show l % 8 < if sK σ (l / 8) = 6 then 8 else 1
  rcases hk with z | z
  · have := hz z
    rw [if_neg (by omega)]
    omega
  · rw [if_pos z]
    omega
theorem cat_set (hW : WF T σ) (hl8 : l < 8 * sN σ) (hk : sK σ (l / 8) = 0 ∨ sK σ (l / 8) = 6) (hz : sK σ (l / 8) = 0 → l = 8 * (l / 8)) {i : Nat} {v : Int32} (hi : i < (sS σ l).length) : cat (setS σ l (setAt (sS σ l) i v)) (l / 8) = (cat σ (l / 8)).set (fsK (l % 8) (cat σ (l / 8)) + i) (l % 8, v) := by
  have hn : l / 8 < sN σ := by omega
  have hl : 8 * (l / 8) + l % 8 = l := by omega
  have hnd := ks_nodup hW hn
  have hne : sS σ (8 * (l / 8) + l % 8) ≠ [] := fun z => by rw [hl] at z; rw [z] at hi; simp at hi
  have hin := cat_in hW hn (l8_len hk hz) hne
  rw [cat_flat, cat_flat]
  show flat (fun k => ud (sS σ) l (setAt (sS σ l) i v) (8 * (l / 8) + k)) (ksO σ (l / 8)) = _
  have g1 : flat (fun k => ud (sS σ) l (setAt (sS σ l) i v) (8 * (l / 8) + k)) (ksO σ (l / 8)) = flat (fun k => if k = l % 8 then (sS σ (8 * (l / 8) + l % 8)).set i v else sS σ (8 * (l / 8) + k)) (ksO σ (l / 8)) := by
    apply flat_congr
    intro k hk
    have := ks_8 hW hn k hk
    by_cases z : k = l % 8
    · rw [if_pos z, z, hl, ud_at, setAt_set hi]
    · rw [if_neg z]; exact ud_ne (by omega)
  rw [g1]
  exact flat_set (f := fun k => sS σ (8 * (l / 8) + k)) (if_pos rfl) (fun k hk => if_neg hk) (by rw [hl]; exact hi) _ hnd hin
theorem cat_setS_ne (hW : WF T σ) {L : List Int32} {q : Nat} (hq : q < sN σ) (hne : q ≠ l / 8) : cat (setS σ l L) q = cat σ q := by
  rw [cat_flat, cat_flat]
  show flat (fun k => ud (sS σ) l L (8 * q + k)) (ksO σ q) = _
  apply flat_congr
  intro k hk
  have := ks_8 hW hq k hk
  show ud (sS σ) l L (8 * q + k) = _
  rw [ud_ne (by omega)]
theorem StRel_setS (hW : WF T σ) (hl8 : l < 8 * sN σ) (hk : sK σ (l / 8) = 0 ∨ sK σ (l / 8) = 6) (hz : sK σ (l / 8) = 0 → l = 8 * (l / 8)) (hS : StRel σ β) {p : Nat} {v : Int32} (hp : p < (sS σ l).length) : StRel (setS σ l (setAt (sS σ l) p v)) (c_put β 6 (l / 8) (upd (β.1 6 (l / 8)) (fsK (l % 8) (cat σ (l / 8)) + p) v)) := by
  have hl : 8 * (l / 8) + l % 8 = l := by omega
  intro q hq hks
  have hq' : q < sN σ := hq
  have hks' : kS (sK σ q) = true := hks
  obtain ⟨a1, a2, a3, a4⟩ := hS q hq' hks'
  by_cases e : q = l / 8
  · subst e
    have hp2 : p < (sS σ (8 * (l / 8) + l % 8)).length := by rw [hl]; exact hp
    obtain ⟨g, e1⟩ := cat_seg1 hW hq' (l8_len hk hz) p hp2
    refine ⟨?_, fun z => ?_, fun z => ?_, fun z k hk8 => ?_⟩
    · rw [cat_set hW hl8 hk hz hp]
      refine ⟨by rw [c_put_2, List.length_set]; exact a1.1, fun i hi => ?_⟩
      rw [c_put_at, c_put_ne (by omega), List.getElem_set]
      rw [List.length_set] at hi
      obtain ⟨x1, x2⟩ := a1.2 i hi
      by_cases y : fsK (l % 8) (cat σ (l / 8)) + p = i
      · subst y
        rw [if_pos rfl, up_at, x2, e1]
        exact ⟨rfl, rfl⟩
      · rw [if_neg y, up_ne (fun z => y z.symm)]
        exact ⟨x1, x2⟩
    · rw [c_put_ne (by omega)]; exact a2 z
    · rw [c_put_ne (by omega)]; exact a3 z
    · rw [c_put_ne (by omega)]; exact a4 z k hk8
  · refine ⟨?_, fun z => ?_, fun z => ?_, fun z k hk8 => ?_⟩
    · rw [cat_setS_ne hW hq' e]
      unfold holds at a1 ⊢
      rw [c_put_2, c_put_ne (by omega), c_put_ne (by omega)]
      exact a1
    · rw [c_put_ne (by omega)]; exact a2 z
    · rw [c_put_ne (by omega)]; exact a3 z
    · rw [c_put_ne (by omega)]; exact a4 z k hk8
theorem El_dn (hW : WF T σ) : ∀ n, n < sN σ → lo σ n = some l → sup σ 2 n = true → stale σ n = false → ∀ i, i < (El σ n).length → dn σ false n i < (sS σ l).length ∧ (El σ n)[i]? = (sS σ l)[dn σ false n i]? := by
  intro n
  induction n using Nat.strongRecOn with
  | _ n ih =>
    intro hn hlo hsup hs i hi
    cases hb : kBased (sK σ n) with
    | false =>
      have k3 : ¬ sK σ n = 3 := fun y => by rw [y] at hb; exact absurd hb (by decide)
      have k4 : ¬ sK σ n = 4 := fun y => by rw [y] at hb; exact absurd hb (by decide)
      have k5 : ¬ sK σ n = 5 := fun y => by rw [y] at hb; exact absurd hb (by decide)
      have e := (on_leaf hW hn hb hlo).1
      rw [e] at hi ⊢
      rw [dn_at hW hn, if_neg k3, if_neg k4, if_neg k5]
      exact ⟨hi, rfl⟩
    | true =>
      have ho := hW.o hn (kB_one hb)
      have hso := stale_o hW hn hs (kB_one hb)
      have hloo : lo σ (sO σ n) = some l := (lo_o hW hn hb).symm.trans hlo
      have hsupo : sup σ 2 (sO σ n) = true := by
        rw [sup_at hW hn, hb, if_pos rfl] at hsup
        by_cases z : sK σ n = 5 ∧ 2 ≠ 1
        · rw [if_pos z] at hsup; cases hsup
        · rw [if_neg z] at hsup; exact hsup
      have hk5 : ¬ sK σ n = 5 := by
        intro z
        rw [sup_at hW hn, hb, if_pos rfl, if_pos ⟨z, by decide⟩] at hsup
        cases hsup
      have ih' := ih (sO σ n) ho (by omega) hloo hsupo hso
      by_cases h3 : sK σ n = 3
      · have hl3 := len_3 hW hn h3
        obtain ⟨g1, g2⟩ := ih' ((El σ (sO σ n)).length - i - 1) (by omega)
        rw [dn_at hW hn, if_pos h3, if_neg (by decide)]
        refine ⟨g1, ?_⟩
        rw [← g2, El_at hW hn, h3, ElB_3, List.getElem?_reverse (by omega)]
        congr 1
        omega
      · have h4 : sK σ n = 4 := by rcases kB_cases hb with z | z | z <;> omega
        obtain ⟨hl4, hl4'⟩ := len_4 hW hn h4 hs
        obtain ⟨g1, g2⟩ := ih' (i + sB σ n) (by omega)
        rw [dn_at hW hn, if_neg h3, if_pos h4]
        refine ⟨g1, ?_⟩
        rw [← g2, El_at hW hn, h4, ElB_4, List.getElem?_take, if_pos (by omega), List.getElem?_drop, Nat.add_comm]
theorem mm_C_setS {L : List Int32} : mm_C Λ (setS σ l L) β M = mm_C Λ σ β M := mm_C_same (σ := σ) (σ' := setS σ l L) rfl rfl rfl rfl rfl rfl rfl rfl rfl rfl
theorem Lc_replace_eq (hW : WF T σ) (hL : LK Λ σ) (hS : StRel σ β) {v : Int32} : ∀ (n : Nat), n < sN σ → sup σ 2 n = true → lo σ n = some l → stale σ n = false → ∀ (i : Nat), i < (El σ n).length → ∃ β', StRel (setS σ l (setAt (sS σ l) (dn σ false n i) v)) β' ∧ ∀ Q, WPC X (d + sG σ n + 1) 55 [.ref (Λ.1 4 n), .int (nI i), .int v] (mm_C Λ σ β M) Q = Q (.inl (some (.int ((sS σ l).getD (dn σ false n i) 0)))) (mm_C Λ (setS σ l (setAt (sS σ l) (dn σ false n i) v)) β' M) := by
  intro n
  induction n using Nat.strongRecOn with
  | _ n ih =>
    intro hn hsup hlo hs i hi
    have h12 := hW.k12 hn
    have h72 := El_72 hW hn
    have hnode := c_node_at (M := M) (β := β) hL hn
    cases hb : kBased (sK σ n) with
    | false =>
      have hr : kRow (sK σ n) = true := by
        rw [sup_at hW hn, hb] at hsup
        simp at hsup
        simp [kRow]
        omega
      have h2 := row_two hr
      have hg := (hW.2.2.2.1 n hn).2.2.2.2.2.2.2.2.2.2.2.2.2.1 hb h2
      have k3 : ¬ sK σ n = 3 := fun y => by rw [y] at hb; exact absurd hb (by decide)
      have k4 : ¬ sK σ n = 4 := fun y => by rw [y] at hb; exact absurd hb (by decide)
      have k5 : ¬ sK σ n = 5 := fun y => by rw [y] at hb; exact absurd hb (by decide)
      obtain ⟨s, k, h1, h2, h3, h4, h5, h6, h7⟩ := leaf_El (Λ := Λ) hW hn hr hb
      obtain ⟨e1, e2, e3⟩ := h7 l hlo
      have hl8 := lo_N hW hn hlo
      have hk := lo_k hW hn hlo
      have hz := lo_z hW hn hlo
      have hk8 := c_len8_le (σ := σ) (n := s)
      have hst := c_st_at (β := β) (M := M) hL h1 h2
      rw [h6] at hi
      obtain ⟨g, eg⟩ := cat_seg1 hW h1 h5 i hi
      have q := St_replace_eq (X := X) (d := d) (M := M) (v := v) hL h1 h2 (hS s h1 h2).1 (cat_8 hW h1) (cat_len hW h1 h2) (show k < 8 by omega) g
      have s1 := StRel_setS (v := v) (p := i) hW hl8 hk hz hS (by rw [e1]; exact hi)
      rw [dn_at hW hn, if_neg k3, if_neg k4, if_neg k5, hg.2]
      rw [← e2, ← e3] at s1
      refine ⟨_, s1, fun Q => ?_⟩
      have ea : (sS σ l).getD i 0 = (cat σ s)[fsK k (cat σ s) + i].2 := by
        rw [eg, e1]
        simp [hi]
      rw [mm_C_setS, ea]
      have hi24 := hW.s24 (8 * s + k)
      have hk07 : sK σ n = 0 ∨ sK σ n = 7 := by
        rcases (on_leaf hW hn hb hlo).2 with z | z
        · exact Or.inl z.1
        · exact Or.inr z.1
      rcases hk07 with z | z
      · simp (disch := omega) only [e_55, w_55_0, w_55_1, w_55_4_0, w_55_4_1, w_55_4_2, w_55_4_3, w_55_4_4, w_55_4_5, w_55_4_6, w_55_4_7, w_55_4_8, w_55_4_9, w_55_4_10, w_55_4_11, w_55_4_12, w_55_32, w_55_33, w_55_36, w_55_37, w_55_40, w_55_43, w_55_44, w_55_45, w_55_46, w_55_47, w_55_48, w_55_51, w_55_52, w_55_53, w_55_56, w_55_57, w_55_60, w_55_61, w_55_62, w_55_63, w_55_66, w_55_67, w_55_68, w_55_71, w_55_72, w_55_75, w_55_76, w_55_77, w_55_80, mm_k_none, mm_k_int, mm_k_ref, mm_k_null, mm_K_inl, mm_tl_some, mm_tl_none, mm_fg_ok, mm_rc_ok, mm_fp_ok, mm_ai_ok, mm_si_ok, mm_az_ok, mm_sz_ok, z01, z11, zb, b2i_t, b2i_f, true_and, and_true, c_g0, c_g1, c_g2, c_g3, c_g4, c_g5, c_g6, c_g7, c_g8, c_g9, c_g10, c_g11, c_g12, c_gl, c_o0, c_o1, c_o2, c_o3, c_ol, c_s0, c_s1, c_s2, c_s3, c_sl, Nat.zero_le, Nat.not_lt_zero, if_true, if_false, m1_lt, m1_ge, mm_inT, pk_mul, nI_add, mm_in_nI, mm_cl_nI, nI_eq, nI_ltI, nI_leI, ↓reduceIte, Nat.add_zero, Nat.reduceLeDiff, oI_some, oI_none, m1_lt, nI_lt0, Rf_fail_eq, Rf_out_eq, eq_self, not_true_eq_false, not_false_eq_true, Nat.reduceEqDiff, Nat.reduceLT, ne_eq, or_true, true_or, or_false, false_or, decide_true, decide_false, Bool.true_eq_false, Bool.false_eq_true, b2i_ne, hnode, z, h3, h4, hst, q]
      · simp (disch := omega) only [e_55, w_55_0, w_55_1, w_55_4_0, w_55_4_1, w_55_4_2, w_55_4_3, w_55_4_4, w_55_4_5, w_55_4_6, w_55_4_7, w_55_4_8, w_55_4_9, w_55_4_10, w_55_4_11, w_55_4_12, w_55_32, w_55_33, w_55_36, w_55_37, w_55_40, w_55_43, w_55_44, w_55_45, w_55_46, w_55_47, w_55_48, w_55_51, w_55_52, w_55_53, w_55_56, w_55_57, w_55_60, w_55_61, w_55_62, w_55_63, w_55_66, w_55_67, w_55_68, w_55_71, w_55_72, w_55_75, w_55_76, w_55_77, w_55_80, mm_k_none, mm_k_int, mm_k_ref, mm_k_null, mm_K_inl, mm_tl_some, mm_tl_none, mm_fg_ok, mm_rc_ok, mm_fp_ok, mm_ai_ok, mm_si_ok, mm_az_ok, mm_sz_ok, z01, z11, zb, b2i_t, b2i_f, true_and, and_true, c_g0, c_g1, c_g2, c_g3, c_g4, c_g5, c_g6, c_g7, c_g8, c_g9, c_g10, c_g11, c_g12, c_gl, c_o0, c_o1, c_o2, c_o3, c_ol, c_s0, c_s1, c_s2, c_s3, c_sl, Nat.zero_le, Nat.not_lt_zero, if_true, if_false, m1_lt, m1_ge, mm_inT, pk_mul, nI_add, mm_in_nI, mm_cl_nI, nI_eq, nI_ltI, nI_leI, ↓reduceIte, Nat.add_zero, Nat.reduceLeDiff, oI_some, oI_none, m1_lt, nI_lt0, Rf_fail_eq, Rf_out_eq, eq_self, not_true_eq_false, not_false_eq_true, Nat.reduceEqDiff, Nat.reduceLT, ne_eq, or_true, true_or, or_false, false_or, decide_true, decide_false, Bool.true_eq_false, Bool.false_eq_true, b2i_ne, hnode, z, h3, h4, hst, q]
    | true =>
      have ho := hW.o hn (kB_one hb)
      have hr := hW.row hn hb
      have hG := ((hW.2.2.2.1 n hn).2.2.2.2.2.2.2.2.2.2.2.1 hb).2
      have hso := stale_o hW hn hs (kB_one hb)
      have hloo : lo σ (sO σ n) = some l := (lo_o hW hn hb).symm.trans hlo
      have vb := vBase_b (Λ := Λ) hb
      have h72o := El_72 hW (show sO σ n < sN σ by omega)
      have hsupo : sup σ 2 (sO σ n) = true := by
        rw [sup_at hW hn, hb, if_pos rfl] at hsup
        by_cases z : sK σ n = 5 ∧ 2 ≠ 1
        · rw [if_pos z] at hsup; cases hsup
        · rw [if_neg z] at hsup; exact hsup
      have hk5 : ¬ sK σ n = 5 := by
        intro z
        rw [sup_at hW hn, hb, if_pos rfl, if_pos ⟨z, by decide⟩] at hsup
        cases hsup
      have ih' := ih (sO σ n) ho (by omega) hsupo hloo hso
      rw [hG, ← Nat.add_assoc]
      by_cases h3 : sK σ n = 3
      · have hl3 := len_3 hW hn h3
        obtain ⟨β', s1, q⟩ := ih' ((El σ (sO σ n)).length - i - 1) (by omega)
        have qr := fun Q => Lc_rowLength_eq (X := X) (d := d + sG σ (sO σ n)) (M := M) (Q := Q) hW hL hS (show sO σ n < sN σ by omega) hr hso
        rw [dn_at hW hn, if_pos h3, if_neg (by decide)]
        refine ⟨β', s1, fun Q => ?_⟩
        simp (disch := omega) only [e_55, w_55_0, w_55_1, w_55_4_0, w_55_4_1, w_55_4_2, w_55_4_3, w_55_4_4, w_55_4_5, w_55_4_6, w_55_4_7, w_55_4_8, w_55_4_9, w_55_4_10, w_55_4_11, w_55_4_12, w_55_32, w_55_33, w_55_36, w_55_37, w_55_40, w_55_43, w_55_44, w_55_45, w_55_46, w_55_47, w_55_48, w_55_51, w_55_52, w_55_53, w_55_56, w_55_57, w_55_60, w_55_61, w_55_62, w_55_63, w_55_66, w_55_67, w_55_68, w_55_71, w_55_72, w_55_75, w_55_76, w_55_77, w_55_80, mm_k_none, mm_k_int, mm_k_ref, mm_k_null, mm_K_inl, mm_tl_some, mm_tl_none, mm_fg_ok, mm_rc_ok, mm_fp_ok, mm_ai_ok, mm_si_ok, mm_az_ok, mm_sz_ok, z01, z11, zb, b2i_t, b2i_f, true_and, and_true, c_g0, c_g1, c_g2, c_g3, c_g4, c_g5, c_g6, c_g7, c_g8, c_g9, c_g10, c_g11, c_g12, c_gl, c_o0, c_o1, c_o2, c_o3, c_ol, c_s0, c_s1, c_s2, c_s3, c_sl, Nat.zero_le, Nat.not_lt_zero, if_true, if_false, m1_lt, m1_ge, mm_inT, pk_mul, nI_add, mm_in_nI, mm_cl_nI, nI_eq, nI_ltI, nI_leI, ↓reduceIte, Nat.add_zero, Nat.reduceLeDiff, oI_some, oI_none, m1_lt, nI_lt0, Rf_fail_eq, Rf_out_eq, eq_self, not_true_eq_false, not_false_eq_true, Nat.reduceEqDiff, Nat.reduceLT, ne_eq, or_true, true_or, or_false, false_or, decide_true, decide_false, Bool.true_eq_false, Bool.false_eq_true, b2i_ne, hnode, h3, vb, qr, nI_m, q]
      · have h4 : sK σ n = 4 := by rcases kB_cases hb with z | z | z <;> omega
        obtain ⟨hl4, hl4'⟩ := len_4 hW hn h4 hs
        obtain ⟨β', s1, q⟩ := ih' (i + sB σ n) (by omega)
        have vs : vStart σ n = sB σ n := if_pos h4
        rw [dn_at hW hn, if_neg h3, if_pos h4]
        refine ⟨β', s1, fun Q => ?_⟩
        rw [Nat.add_comm i] at q ⊢
        simp (disch := omega) only [e_55, w_55_0, w_55_1, w_55_4_0, w_55_4_1, w_55_4_2, w_55_4_3, w_55_4_4, w_55_4_5, w_55_4_6, w_55_4_7, w_55_4_8, w_55_4_9, w_55_4_10, w_55_4_11, w_55_4_12, w_55_32, w_55_33, w_55_36, w_55_37, w_55_40, w_55_43, w_55_44, w_55_45, w_55_46, w_55_47, w_55_48, w_55_51, w_55_52, w_55_53, w_55_56, w_55_57, w_55_60, w_55_61, w_55_62, w_55_63, w_55_66, w_55_67, w_55_68, w_55_71, w_55_72, w_55_75, w_55_76, w_55_77, w_55_80, mm_k_none, mm_k_int, mm_k_ref, mm_k_null, mm_K_inl, mm_tl_some, mm_tl_none, mm_fg_ok, mm_rc_ok, mm_fp_ok, mm_ai_ok, mm_si_ok, mm_az_ok, mm_sz_ok, z01, z11, zb, b2i_t, b2i_f, true_and, and_true, c_g0, c_g1, c_g2, c_g3, c_g4, c_g5, c_g6, c_g7, c_g8, c_g9, c_g10, c_g11, c_g12, c_gl, c_o0, c_o1, c_o2, c_o3, c_ol, c_s0, c_s1, c_s2, c_s3, c_sl, Nat.zero_le, Nat.not_lt_zero, if_true, if_false, m1_lt, m1_ge, mm_inT, pk_mul, nI_add, mm_in_nI, mm_cl_nI, nI_eq, nI_ltI, nI_leI, ↓reduceIte, Nat.add_zero, Nat.reduceLeDiff, oI_some, oI_none, m1_lt, nI_lt0, Rf_fail_eq, Rf_out_eq, eq_self, not_true_eq_false, not_false_eq_true, Nat.reduceEqDiff, Nat.reduceLT, ne_eq, or_true, true_or, or_false, false_or, decide_true, decide_false, Bool.true_eq_false, Bool.false_eq_true, b2i_ne, hnode, h4, vb, vs, q]
end CL19
