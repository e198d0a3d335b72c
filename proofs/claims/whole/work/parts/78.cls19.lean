/-! the class: takeOut -/
theorem flat_app {f : Nat → List Int32} {A B : List Nat} : flat f (A ++ B) = flat f A ++ flat f B := by
  simp [flat]
theorem flat_nth {f : Nat → List Int32} {R : List Nat} {k : Nat} (hk : k < R.length) (hne : f R[k] ≠ []) : ∃ h : (flat f (R.take k)).length < (flat f R).length, (flat f R)[(flat f (R.take k)).length].1 = R[k] := by
  have e : R = R.take k ++ R[k] :: R.drop (k + 1) := by
    conv => lhs; rw [← List.take_append_drop k R, List.drop_eq_getElem_cons hk]
  have e2 : flat f R = flat f (R.take k) ++ ((f R[k]).map (fun v => (R[k], v)) ++ flat f (R.drop (k + 1))) := by
    conv => lhs; rw [e]
    rw [flat_app, flat_cons]
  have e3 : (flat f R)[(flat f (R.take k)).length]? = ((f R[k]).map (fun v => (R[k], v)) ++ flat f (R.drop (k + 1)))[0]? := by
    rw [e2, List.getElem?_append_right (Nat.le_refl _), Nat.sub_self]
  cases z : f R[k] with
  | nil => exact absurd z hne
  | cons v L =>
    rw [z] at e3
    have e4 : (flat f R)[(flat f (R.take k)).length]? = some (R[k], v) := by
      rw [e3]
      simp
    obtain ⟨g, e5⟩ := List.getElem?_eq_some_iff.1 e4
    exact ⟨g, by rw [e5]⟩
theorem flat_take1 {f : Nat → List Int32} {R : List Nat} {k : Nat} (hk : k < R.length) : (flat f (R.take (k + 1))).length = (flat f (R.take k)).length + (f R[k]).length := by
  rw [← List.take_append_getElem hk, flat_snoc, List.length_append, List.length_map]
theorem whr_flat {σ : Sg} {x : Nat} : ∀ (R : List Nat), R.Nodup → ∀ i, i < (flat (fun k => sS σ (8 * x + k)) R).length → (whr σ x R i).1 ∈ R ∧ (whr σ x R i).2 < (sS σ (8 * x + (whr σ x R i).1)).length ∧ i = fsK (whr σ x R i).1 (flat (fun k => sS σ (8 * x + k)) R) + (whr σ x R i).2
  | [], _, i, h => by simp [flat] at h
  | k :: R, hn, i, h => by
    obtain ⟨h1, h2⟩ := List.nodup_cons.1 hn
    rw [flat_cons] at h ⊢
    rw [List.length_append, List.length_map] at h
    by_cases hi : i < (sS σ (8 * x + k)).length
    · have e : whr σ x (k :: R) i = (k, i) := by rw [whr, if_pos hi]
      have hne : sS σ (8 * x + k) ≠ [] := fun z => by rw [z] at hi; simp at hi
      rw [e]
      refine ⟨List.mem_cons_self, hi, ?_⟩
      rw [fsK_map0 hne, Nat.zero_add]
    · have e : whr σ x (k :: R) i = whr σ x R (i - (sS σ (8 * x + k)).length) := by rw [whr, if_neg hi]
      obtain ⟨a1, a2, a3⟩ := whr_flat (σ := σ) (x := x) R h2 (i - (sS σ (8 * x + k)).length) (by omega)
      rw [e]
      refine ⟨List.mem_cons_of_mem _ a1, a2, ?_⟩
      rw [fsK_mapne (fun z => h1 (by rw [z]; exact a1))]
      omega
theorem oS.trans {n : Nat} {β β1 β2 : CS} (h : oS n β β1) (h2 : oS n β1 β2) : oS n β β2 := ⟨fun c' m' a => (h2.1 c' m' a).trans (h.1 c' m' a), fun m' a => (h2.2 m' a).trans (h.2 m' a)⟩
theorem upd_self {f : Nat → Int32} {k : Nat} : upd f k (f k + nI 0) = f := by
  have e : f k + nI 0 = f k := Int32.add_zero _
  rw [e]
  funext j
  by_cases h : j = k
  · subst h; exact up_at
  · exact up_ne h
theorem upd_upd {f : Nat → Int32} {k : Nat} {x y : Int32} : upd (upd f k x) k y = upd f k y := by
  funext j
  by_cases h : j = k
  · subst h; rw [up_at, up_at]
  · rw [up_ne h, up_ne h, up_ne h]
section CL20
variable {X : Nat × Nat × (Nat → Int32)} {d T n c m l : Nat} {Λ : Lay} {σ : Sg} {β : CS} {M : mm_M} {Q : mm_Out → mm_M → Prop}
theorem Lc_takeOut_leaf (hW : WF T σ) (hL : LK Λ σ) (hS : StRel σ β) (hn : n < sN σ) (hb : kBased (sK σ n) = false) (hlo : lo σ n = some l) {i : Nat} (hi : i < (El σ n).length) : ∃ β', StRel (setL σ l (delAt (sS σ l) i) 1) β' ∧ β'.1 2 0 = β.1 2 0 ∧ ∀ Q, WPC X (d + 2) 58 [.ref (Λ.1 4 n), .int (nI i)] (mm_C Λ σ β M) Q = Q (.inl none) (mm_C Λ (setL σ l (delAt (sS σ l) i) 1) β' M) := by
  have hk07 : sK σ n = 0 ∨ sK σ n = 7 := by
    rcases (on_leaf hW hn hb hlo).2 with z | z
    · exact Or.inl z.1
    · exact Or.inr z.1
  have hr : kRow (sK σ n) = true := by rcases hk07 with z | z <;> rw [z] <;> rfl
  obtain ⟨s, k, h1, h2, h3, h4, h5, h6, h7⟩ := leaf_El (Λ := Λ) hW hn hr hb
  obtain ⟨e1, e2, e3⟩ := h7 l hlo
  have hl8 := lo_N hW hn hlo
  have hk := lo_k hW hn hlo
  have hz := lo_z hW hn hlo
  rw [h6] at hi
  have hnode := c_node_at (M := M) (β := β) hL hn
  have hk8 := c_len8_le (σ := σ) (n := s)
  have hst := c_st_at (β := β) (M := M) hL h1 h2
  obtain ⟨g, eg⟩ := cat_seg1 hW h1 h5 i hi
  have hlen := cat_len hW h1 h2
  have h24 := c_len6_le (σ := σ) (n := s)
  obtain ⟨β', o1, o2, o3, q⟩ := St_takeOut_eq (X := X) (d := d) (M := M) hL h1 h2 (hS s h1 h2).1 hlen g (by rw [eg]; exact h5)
  rw [eg] at o3
  have hfs := fun Q => St_firstOf_eq (X := X) (d := d + 1) (M := M) (Q := Q) hL h1 h2 (hS s h1 h2).1 (cat_8 hW h1) hlen (show k < 8 by omega)
  have hks : sK σ s = 0 ∨ sK σ s = 6 := by rw [e2]; exact hk
  have hc := chg_at hW hS h1 hks h5
  have hsl : sS σ l = sS σ (8 * s + k) := by rw [← e1]
  refine ⟨β', StRel_setL hW hl8 hk hz hS (by rw [← e2]; exact o1) ?_ ?_, o1.1 2 0 (by omega), fun Q => ?_⟩
  · rw [cat_del hW hl8 hk hz (by rw [hsl]; exact hi), ← e2, ← e3]
    exact o2
  · rw [← e2, ← e3, o3, hc, e1, nI_add]
  · rw [mm_C_setL]
    rcases hk07 with z | z
    · simp (disch := omega) only [e_58, w_58_0, w_58_1, w_58_4_0, w_58_4_1, w_58_4_2, w_58_4_3, w_58_4_4, w_58_4_5, w_58_4_6, w_58_4_7, w_58_4_8, w_58_4_9, w_58_4_10, w_58_4_11, w_58_4_12, w_58_44, w_58_45, w_58_48, w_58_49, w_58_52, w_58_55, w_58_56, w_58_57, w_58_58, w_58_59, w_58_62, w_58_65, w_58_66, w_58_69, w_58_70, w_58_73, w_58_74, w_58_75, w_58_78, w_58_79, w_58_80, w_58_83, w_58_84, w_58_85, w_58_88, w_58_89, w_58_90, w_58_93, w_58_96, w_58_99, w_58_102, w_58_103, w_58_106, w_58_107, w_58_110, w_58_113, w_58_114, w_58_117, w_58_118, w_58_121, w_58_124, w_58_125, w_58_128, w_58_129, w_58_132, w_58_135, w_58_136, w_58_139, w_58_140, w_58_143, w_58_144, w_58_147, w_58_150, w_58_151, w_58_152, w_58_155, mm_k_none, mm_k_int, mm_k_ref, mm_k_null, mm_K_inl, mm_tl_some, mm_tl_none, mm_fg_ok, mm_rc_ok, mm_fp_ok, mm_ai_ok, mm_si_ok, mm_az_ok, mm_sz_ok, z01, z11, zb, b2i_t, b2i_f, true_and, and_true, c_g0, c_g1, c_g2, c_g3, c_g4, c_g5, c_g6, c_g7, c_g8, c_g9, c_g10, c_g11, c_g12, c_gl, c_o0, c_o1, c_o2, c_o3, c_ol, c_s0, c_s1, c_s2, c_s3, c_sl, Nat.zero_le, Nat.not_lt_zero, if_true, if_false, m1_lt, m1_ge, mm_inT, pk_mul, nI_add, mm_in_nI, mm_cl_nI, nI_eq, nI_ltI, nI_leI, ↓reduceIte, Nat.add_zero, Nat.reduceLeDiff, oI_some, oI_none, m1_lt, nI_lt0, Rf_fail_eq, Rf_out_eq, eq_self, not_true_eq_false, not_false_eq_true, Nat.reduceEqDiff, Nat.reduceLT, ne_eq, or_true, true_or, or_false, false_or, decide_true, decide_false, Bool.true_eq_false, Bool.false_eq_true, b2i_ne, hnode, z, h3, h4, hst, hfs, q]
    · simp (disch := omega) only [e_58, w_58_0, w_58_1, w_58_4_0, w_58_4_1, w_58_4_2, w_58_4_3, w_58_4_4, w_58_4_5, w_58_4_6, w_58_4_7, w_58_4_8, w_58_4_9, w_58_4_10, w_58_4_11, w_58_4_12, w_58_44, w_58_45, w_58_48, w_58_49, w_58_52, w_58_55, w_58_56, w_58_57, w_58_58, w_58_59, w_58_62, w_58_65, w_58_66, w_58_69, w_58_70, w_58_73, w_58_74, w_58_75, w_58_78, w_58_79, w_58_80, w_58_83, w_58_84, w_58_85, w_58_88, w_58_89, w_58_90, w_58_93, w_58_96, w_58_99, w_58_102, w_58_103, w_58_106, w_58_107, w_58_110, w_58_113, w_58_114, w_58_117, w_58_118, w_58_121, w_58_124, w_58_125, w_58_128, w_58_129, w_58_132, w_58_135, w_58_136, w_58_139, w_58_140, w_58_143, w_58_144, w_58_147, w_58_150, w_58_151, w_58_152, w_58_155, mm_k_none, mm_k_int, mm_k_ref, mm_k_null, mm_K_inl, mm_tl_some, mm_tl_none, mm_fg_ok, mm_rc_ok, mm_fp_ok, mm_ai_ok, mm_si_ok, mm_az_ok, mm_sz_ok, z01, z11, zb, b2i_t, b2i_f, true_and, and_true, c_g0, c_g1, c_g2, c_g3, c_g4, c_g5, c_g6, c_g7, c_g8, c_g9, c_g10, c_g11, c_g12, c_gl, c_o0, c_o1, c_o2, c_o3, c_ol, c_s0, c_s1, c_s2, c_s3, c_sl, Nat.zero_le, Nat.not_lt_zero, if_true, if_false, m1_lt, m1_ge, mm_inT, pk_mul, nI_add, mm_in_nI, mm_cl_nI, nI_eq, nI_ltI, nI_leI, ↓reduceIte, Nat.add_zero, Nat.reduceLeDiff, oI_some, oI_none, m1_lt, nI_lt0, Rf_fail_eq, Rf_out_eq, eq_self, not_true_eq_false, not_false_eq_true, Nat.reduceEqDiff, Nat.reduceLT, ne_eq, or_true, true_or, or_false, false_or, decide_true, decide_false, Bool.true_eq_false, Bool.false_eq_true, b2i_ne, hnode, z, h3, h4, hst, hfs, q]
theorem Lc_take_note {σ1 : Sg} {β' : CS} (hW : WF T σ) (hL : LK Λ σ) (s1 : StRel σ1 β') (f1 : sN σ1 = sN σ) (f3 : sK σ1 = sK σ) (f4 : sO σ1 = sO σ) (f6 : sV σ1 = sV σ) (hn : n < sN σ) (h4 : sK σ n = 4) (hlo : lo σ n = some l) {p q : Nat} (hP : sP σ1 n = p) (hp : 1 ≤ p ∧ p ≤ 72) (hC : sC σ1 l = q) (hq : q < 1000001) {l1 : Option Value} : StRel (setD (setP σ1 n (p - 1)) n q) β' ∧ ∀ Q, WP X (d + 2) 58 78 [some (.ref (Λ.1 4 n)), l1] [] (mm_C Λ σ1 β' M) Q = Q (.inl none) (mm_C Λ (setD (setP σ1 n (p - 1)) n q) β' M) := by
  have hb : kBased (sK σ n) = true := by rw [h4]; rfl
  have ho := hW.o hn (kB_one hb)
  have hr := hW.row hn hb
  have hloo : lo σ (sO σ n) = some l := (lo_o hW hn hb).symm.trans hlo
  obtain ⟨p1, p2, p3, p4, p5, p6, p7⟩ := setP_f (σ := σ1) (n := n) (p := p - 1)
  have hL1 : LK Λ σ1 := LK_same hL f1 f3
  have k1 : sK σ1 n = 4 := by rw [f3]; exact h4
  have v1 : vLen σ1 n = p := (if_pos k1).trans hP
  have hn1 : n < sN σ1 := by omega
  have node1 := c_node_at (M := M) (β := β') hL1 hn1
  have sl := fun M => set_len (β := β') (M := M) (p := p - 1) hL1 hn1 k1
  generalize hσ2 : setP σ1 n (p - 1) = σ2 at p1 p2 p3 p4 p5 p6 p7 sl ⊢
  have hL2 : LK Λ σ2 := LK_same hL1 p1 p2
  have hS2 : StRel σ2 β' := StRel_same s1 p1 p2 p5 p7 p6
  have k2 : sK σ2 n = 4 := by rw [p2]; exact k1
  have hn2 : n < sN σ2 := by omega
  have node2 := c_node_at (M := M) (β := β') hL2 hn2
  have vb2 : vBase Λ σ2 n = .ref (Λ.1 4 (sO σ n)) := by
    rw [vBase_b (by rw [k2]; rfl), p3, f4]
  have hch : ch σ2 (sO σ n) = q := by
    rw [ch_lo ((lo_same (p2.trans f3) (p3.trans f4) (p4.trans f6) _).trans hloo), p6, hC]
  have qc := fun d Q => Lc_changesOf_q (X := X) (d := d) (M := M) (Q := Q) hW hL2 hS2 (p1.trans f1) (p2.trans f3) (p3.trans f4) (p4.trans f6) (show sO σ n < sN σ by omega) hr
  rw [hch] at qc
  have sn := fun M => set_noted (β := β') (M := M) (p := q) hL2 hn2 k2
  obtain ⟨x1, x2, x3, x4, x5⟩ := setD_f (σ := σ2) (n := n) (p := q)
  refine ⟨StRel_same hS2 x1 x2 x3 x4 x5, fun Q => ?_⟩
  simp (disch := omega) only [w_58_0, w_58_1, w_58_4_0, w_58_4_1, w_58_4_2, w_58_4_3, w_58_4_4, w_58_4_5, w_58_4_6, w_58_4_7, w_58_4_8, w_58_4_9, w_58_4_10, w_58_4_11, w_58_4_12, w_58_44, w_58_45, w_58_48, w_58_49, w_58_52, w_58_55, w_58_56, w_58_57, w_58_58, w_58_59, w_58_62, w_58_65, w_58_66, w_58_69, w_58_70, w_58_73, w_58_74, w_58_75, w_58_78, w_58_79, w_58_80, w_58_83, w_58_84, w_58_85, w_58_88, w_58_89, w_58_90, w_58_93, w_58_96, w_58_99, w_58_102, w_58_103, w_58_106, w_58_107, w_58_110, w_58_113, w_58_114, w_58_117, w_58_118, w_58_121, w_58_124, w_58_125, w_58_128, w_58_129, w_58_132, w_58_135, w_58_136, w_58_139, w_58_140, w_58_143, w_58_144, w_58_147, w_58_150, w_58_151, w_58_152, w_58_155, mm_k_none, mm_k_int, mm_k_ref, mm_k_null, mm_K_inl, mm_tl_some, mm_tl_none, mm_fg_ok, mm_rc_ok, mm_fp_ok, mm_ai_ok, mm_si_ok, mm_az_ok, mm_sz_ok, z01, z11, zb, b2i_t, b2i_f, true_and, and_true, c_g0, c_g1, c_g2, c_g3, c_g4, c_g5, c_g6, c_g7, c_g8, c_g9, c_g10, c_g11, c_g12, c_gl, c_o0, c_o1, c_o2, c_o3, c_ol, c_s0, c_s1, c_s2, c_s3, c_sl, Nat.zero_le, Nat.not_lt_zero, if_true, if_false, m1_lt, m1_ge, mm_inT, pk_mul, nI_add, mm_in_nI, mm_cl_nI, nI_eq, nI_ltI, nI_leI, ↓reduceIte, Nat.add_zero, Nat.reduceLeDiff, oI_some, oI_none, m1_lt, nI_lt0, Rf_fail_eq, Rf_out_eq, eq_self, not_true_eq_false, not_false_eq_true, Nat.reduceEqDiff, Nat.reduceLT, ne_eq, or_true, true_or, or_false, false_or, decide_true, decide_false, Bool.true_eq_false, Bool.false_eq_true, b2i_ne, node1, v1, nI_m, sl, node2, vb2, qc, sn]
theorem Lc_takeOut_row (hW : WF T σ) (hL : LK Λ σ) (hS : StRel σ β) : ∀ (n : Nat), n < sN σ → lo σ n = some l → stale σ n = false → ∀ (i : Nat), i < (El σ n).length → ∃ β', StRel (chN σ l (delAt (sS σ l) (dn σ false n i)) n false) β' ∧ β'.1 2 0 = β.1 2 0 ∧ ∀ Q, WPC X (d + sG σ n + 1) 58 [.ref (Λ.1 4 n), .int (nI i)] (mm_C Λ σ β M) Q = Q (.inl none) (mm_C Λ (chN σ l (delAt (sS σ l) (dn σ false n i)) n false) β' M) := by
  intro n
  induction n using Nat.strongRecOn with
  | _ n ih =>
    intro hn hlo hs i hi
    have h12 := hW.k12 hn
    have h72 := El_72 hW hn
    have hnode := c_node_at (M := M) (β := β) hL hn
    cases hb : kBased (sK σ n) with
    | false =>
      obtain ⟨β', s1, s2, q⟩ := Lc_takeOut_leaf (X := X) (d := d) (M := M) hW hL hS hn hb hlo hi
      have h2 : kTwo (sK σ n) = false := by
        rcases (on_leaf hW hn hb hlo).2 with z | z <;> rw [z.1] <;> rfl
      have hg := (hW.2.2.2.1 n hn).2.2.2.2.2.2.2.2.2.2.2.2.2.1 hb h2
      have k3 : ¬ sK σ n = 3 := fun y => by rw [y] at hb; exact absurd hb (by decide)
      have k4 : ¬ sK σ n = 4 := fun y => by rw [y] at hb; exact absurd hb (by decide)
      have k5 : ¬ sK σ n = 5 := fun y => by rw [y] at hb; exact absurd hb (by decide)
      rw [dn_at hW hn, if_neg k3, if_neg k4, if_neg k5, chN_0 hW hn hb, hg.2]
      exact ⟨β', s1, s2, q⟩
    | true =>
      have ho := hW.o hn (kB_one hb)
      have hr := hW.row hn hb
      have hG := ((hW.2.2.2.1 n hn).2.2.2.2.2.2.2.2.2.2.2.1 hb).2
      have hso := stale_o hW hn hs (kB_one hb)
      have hloo : lo σ (sO σ n) = some l := (lo_o hW hn hb).symm.trans hlo
      have vb := vBase_b (Λ := Λ) hb
      have h72o := El_72 hW (show sO σ n < sN σ by omega)
      have ih' := ih (sO σ n) ho (by omega) hloo hso
      rw [hG, ← Nat.add_assoc]
      by_cases h3 : sK σ n = 3
      · have hl3 := len_3 hW hn h3
        obtain ⟨β', s1, s2, q⟩ := ih' ((El σ (sO σ n)).length - i - 1) (by omega)
        have qr := fun Q => Lc_rowLength_eq (X := X) (d := d + sG σ (sO σ n)) (M := M) (Q := Q) hW hL hS (show sO σ n < sN σ by omega) hr hso
        rw [chN_o hW hn hb (by omega), dn_at hW hn, if_pos h3, if_neg (by decide)]
        refine ⟨β', s1, s2, fun Q => ?_⟩
        simp (disch := omega) only [e_58, w_58_0, w_58_1, w_58_4_0, w_58_4_1, w_58_4_2, w_58_4_3, w_58_4_4, w_58_4_5, w_58_4_6, w_58_4_7, w_58_4_8, w_58_4_9, w_58_4_10, w_58_4_11, w_58_4_12, w_58_44, w_58_45, w_58_48, w_58_49, w_58_52, w_58_55, w_58_56, w_58_57, w_58_58, w_58_59, w_58_62, w_58_65, w_58_66, w_58_69, w_58_70, w_58_73, w_58_74, w_58_75, w_58_78, w_58_79, w_58_80, w_58_83, w_58_84, w_58_85, w_58_88, w_58_89, w_58_90, w_58_93, w_58_96, w_58_99, w_58_102, w_58_103, w_58_106, w_58_107, w_58_110, w_58_113, w_58_114, w_58_117, w_58_118, w_58_121, w_58_124, w_58_125, w_58_128, w_58_129, w_58_132, w_58_135, w_58_136, w_58_139, w_58_140, w_58_143, w_58_144, w_58_147, w_58_150, w_58_151, w_58_152, w_58_155, mm_k_none, mm_k_int, mm_k_ref, mm_k_null, mm_K_inl, mm_tl_some, mm_tl_none, mm_fg_ok, mm_rc_ok, mm_fp_ok, mm_ai_ok, mm_si_ok, mm_az_ok, mm_sz_ok, z01, z11, zb, b2i_t, b2i_f, true_and, and_true, c_g0, c_g1, c_g2, c_g3, c_g4, c_g5, c_g6, c_g7, c_g8, c_g9, c_g10, c_g11, c_g12, c_gl, c_o0, c_o1, c_o2, c_o3, c_ol, c_s0, c_s1, c_s2, c_s3, c_sl, Nat.zero_le, Nat.not_lt_zero, if_true, if_false, m1_lt, m1_ge, mm_inT, pk_mul, nI_add, mm_in_nI, mm_cl_nI, nI_eq, nI_ltI, nI_leI, ↓reduceIte, Nat.add_zero, Nat.reduceLeDiff, oI_some, oI_none, m1_lt, nI_lt0, Rf_fail_eq, Rf_out_eq, eq_self, not_true_eq_false, not_false_eq_true, Nat.reduceEqDiff, Nat.reduceLT, ne_eq, or_true, true_or, or_false, false_or, decide_true, decide_false, Bool.true_eq_false, Bool.false_eq_true, b2i_ne, hnode, h3, vb, qr, nI_m, q]
      · by_cases h5 : sK σ n = 5
        · have hl5 := len_5 hW hn h5
          obtain ⟨β', s1, s2, q⟩ := ih' i (by omega)
          rw [chN_o hW hn hb (by omega), dn_at hW hn, if_neg h3, if_neg (by omega), if_pos h5]
          refine ⟨β', s1, s2, fun Q => ?_⟩
          simp (disch := omega) only [e_58, w_58_0, w_58_1, w_58_4_0, w_58_4_1, w_58_4_2, w_58_4_3, w_58_4_4, w_58_4_5, w_58_4_6, w_58_4_7, w_58_4_8, w_58_4_9, w_58_4_10, w_58_4_11, w_58_4_12, w_58_44, w_58_45, w_58_48, w_58_49, w_58_52, w_58_55, w_58_56, w_58_57, w_58_58, w_58_59, w_58_62, w_58_65, w_58_66, w_58_69, w_58_70, w_58_73, w_58_74, w_58_75, w_58_78, w_58_79, w_58_80, w_58_83, w_58_84, w_58_85, w_58_88, w_58_89, w_58_90, w_58_93, w_58_96, w_58_99, w_58_102, w_58_103, w_58_106, w_58_107, w_58_110, w_58_113, w_58_114, w_58_117, w_58_118, w_58_121, w_58_124, w_58_125, w_58_128, w_58_129, w_58_132, w_58_135, w_58_136, w_58_139, w_58_140, w_58_143, w_58_144, w_58_147, w_58_150, w_58_151, w_58_152, w_58_155, mm_k_none, mm_k_int, mm_k_ref, mm_k_null, mm_K_inl, mm_tl_some, mm_tl_none, mm_fg_ok, mm_rc_ok, mm_fp_ok, mm_ai_ok, mm_si_ok, mm_az_ok, mm_sz_ok, z01, z11, zb, b2i_t, b2i_f, true_and, and_true, c_g0, c_g1, c_g2, c_g3, c_g4, c_g5, c_g6, c_g7, c_g8, c_g9, c_g10, c_g11, c_g12, c_gl, c_o0, c_o1, c_o2, c_o3, c_ol, c_s0, c_s1, c_s2, c_s3, c_sl, Nat.zero_le, Nat.not_lt_zero, if_true, if_false, m1_lt, m1_ge, mm_inT, pk_mul, nI_add, mm_in_nI, mm_cl_nI, nI_eq, nI_ltI, nI_leI, ↓reduceIte, Nat.add_zero, Nat.reduceLeDiff, oI_some, oI_none, m1_lt, nI_lt0, Rf_fail_eq, Rf_out_eq, eq_self, not_true_eq_false, not_false_eq_true, Nat.reduceEqDiff, Nat.reduceLT, ne_eq, or_true, true_or, or_false, false_or, decide_true, decide_false, Bool.true_eq_false, Bool.false_eq_true, b2i_ne, hnode, h5, vb, q]
        · have h4 : sK σ n = 4 := by rcases kB_cases hb with z | z | z <;> omega
          obtain ⟨hl4, hl4'⟩ := len_4 hW hn h4 hs
          obtain ⟨β', s1, s2, q⟩ := ih' (i + sB σ n) (by omega)
          have vs : vStart σ n = sB σ n := if_pos h4
          rw [dn_at hW hn, if_neg h3, if_pos h4]
          generalize hLL : delAt (sS σ l) (dn σ false (sO σ n) (i + sB σ n)) = L at s1 q ⊢
          obtain ⟨f1, -, f3, f4, -, f6, -, -⟩ := chN_f (σ := σ) (l := l) (n := sO σ n) (L := L) (up := false)
          obtain ⟨c1, c2, c3⟩ := chN_c (σ := σ) (l := l) (n := sO σ n) (L := L) (up := false)
          have eP := chN_below (l := l) (L := L) (up := false) hW hn hb
          have e4 := chN_4 (l := l) (L := L) (up := false) hW hn h4 hlo (p := sP σ n - 1) (q := sC σ l + 1) rfl rfl
          have hcT := hW.c l
          generalize hσ1 : chN σ l L (sO σ n) false = σ1 at s1 q f1 f3 f4 f6 c1 c2 c3 eP e4 ⊢
          obtain ⟨s3, qn⟩ := Lc_take_note (X := X) (d := d + sG σ (sO σ n)) (M := M) (l1 := some (.int (nI i))) hW hL s1 f1 f3 f4 f6 hn h4 hlo eP (by omega) (q := sC σ l + 1) (by rw [c2, ud_at]) (by omega)
          rw [e4]
          refine ⟨β', s3, s2, fun Q => ?_⟩
          rw [Nat.add_comm i] at q
          refine Eq.trans ?_ (qn Q)
          simp (disch := omega) only [e_58, w_58_0, w_58_1, w_58_4_0, w_58_4_1, w_58_4_2, w_58_4_3, w_58_4_4, w_58_4_5, w_58_4_6, w_58_4_7, w_58_4_8, w_58_4_9, w_58_4_10, w_58_4_11, w_58_4_12, w_58_44, w_58_45, w_58_48, w_58_49, w_58_52, w_58_55, w_58_56, w_58_57, w_58_58, w_58_59, w_58_62, w_58_65, w_58_66, w_58_69, w_58_70, w_58_73, w_58_74, w_58_75, w_58_89, w_58_90, w_58_93, w_58_96, w_58_99, w_58_102, w_58_103, w_58_106, w_58_107, w_58_110, w_58_113, w_58_114, w_58_117, w_58_118, w_58_121, w_58_124, w_58_125, w_58_128, w_58_129, w_58_132, w_58_135, w_58_136, w_58_139, w_58_140, w_58_143, w_58_144, w_58_147, w_58_150, w_58_151, w_58_152, w_58_155, mm_k_none, mm_k_int, mm_k_ref, mm_k_null, mm_K_inl, mm_tl_some, mm_tl_none, mm_fg_ok, mm_rc_ok, mm_fp_ok, mm_ai_ok, mm_si_ok, mm_az_ok, mm_sz_ok, z01, z11, zb, b2i_t, b2i_f, true_and, and_true, c_g0, c_g1, c_g2, c_g3, c_g4, c_g5, c_g6, c_g7, c_g8, c_g9, c_g10, c_g11, c_g12, c_gl, c_o0, c_o1, c_o2, c_o3, c_ol, c_s0, c_s1, c_s2, c_s3, c_sl, Nat.zero_le, Nat.not_lt_zero, if_true, if_false, m1_lt, m1_ge, mm_inT, pk_mul, nI_add, mm_in_nI, mm_cl_nI, nI_eq, nI_ltI, nI_leI, ↓reduceIte, Nat.add_zero, Nat.reduceLeDiff, oI_some, oI_none, m1_lt, nI_lt0, Rf_fail_eq, Rf_out_eq, eq_self, not_true_eq_false, not_false_eq_true, Nat.reduceEqDiff, Nat.reduceLT, ne_eq, or_true, true_or, or_false, false_or, decide_true, decide_false, Bool.true_eq_false, Bool.false_eq_true, b2i_ne, hnode, h4, vb, vs, q]
/-- an int of a MULTIMAP -/
theorem Lc_takeOut_map (hW : WF T σ) (hL : LK Λ σ) (hS : StRel σ β) (hn : n < sN σ) (h6 : sK σ n = 6) {i : Nat} (hi : i < (El σ n).length) : ∃ β', StRel (setL σ (8 * n + (whr σ n (sR σ n) i).1) (delAt (sS σ (8 * n + (whr σ n (sR σ n) i).1)) (whr σ n (sR σ n) i).2) 1) β' ∧ β'.1 2 0 = β.1 2 0 ∧ ∀ Q, WPC X (d + 2) 58 [.ref (Λ.1 4 n), .int (nI i)] (mm_C Λ σ β M) Q = Q (.inl none) (mm_C Λ (setL σ (8 * n + (whr σ n (sR σ n) i).1) (delAt (sS σ (8 * n + (whr σ n (sR σ n) i).1)) (whr σ n (sR σ n) i).2) 1) β' M) := by
  have h2 : kS (sK σ n) = true := by rw [h6]; rfl
  have ecat : cat σ n = flat (fun k => sS σ (8 * n + k)) (sR σ n) := by
    rw [cat_flat]
    unfold ksO
    rw [if_pos h6]
  have hElen : (El σ n).length = (cat σ n).length := by
    rw [← List.length_map (f := (·.2)) (as := cat σ n), cat_map2 h2, if_pos h6, El_at hW hn, h6, ElB_6]
  obtain ⟨d1, d2, d3⟩ := hW.rk hn h6
  rw [hElen, ecat] at hi
  obtain ⟨a1, a2, a3⟩ := whr_flat (σ := σ) (x := n) (sR σ n) d2 i hi
  generalize hkk : (whr σ n (sR σ n) i).1 = k at a1 a2 a3 ⊢
  generalize hrr : (whr σ n (sR σ n) i).2 = r at a2 a3 ⊢
  rw [← ecat] at a3 hi
  have hk8 := ((d3 k).1 a1).1
  have h5 : k < c_len σ 8 n := by
    show k < if sK σ n = 6 then 8 else 1
    rw [if_pos h6]; exact hk8
  have hlen := cat_len hW hn h2
  have h24 := c_len6_le (σ := σ) (n := n)
  obtain ⟨g, eg⟩ := cat_seg1 hW hn h5 r a2
  have hnode := c_node_at (M := M) (β := β) hL hn
  have hst := c_st_at (β := β) (M := M) hL hn h2
  have vst : vStore Λ σ n = .ref (Λ.1 5 n) := if_pos h2
  obtain ⟨β', o1, o2, o3, q⟩ := St_takeOut_eq (X := X) (d := d) (M := M) hL hn h2 (hS n hn h2).1 hlen g (by rw [eg]; exact h5)
  rw [eg] at o3
  have hc := chg_at hW hS hn (Or.inr h6) h5
  have e2 : (8 * n + k) / 8 = n := by omega
  have e3 : (8 * n + k) % 8 = k := by omega
  have hk : sK σ ((8 * n + k) / 8) = 0 ∨ sK σ ((8 * n + k) / 8) = 6 := by rw [e2]; exact Or.inr h6
  have hz : sK σ ((8 * n + k) / 8) = 0 → 8 * n + k = 8 * ((8 * n + k) / 8) := by rw [e2]; intro z; omega
  have hl8 : 8 * n + k < 8 * sN σ := by omega
  refine ⟨β', StRel_setL hW hl8 hk hz hS (by rw [e2]; exact o1) ?_ ?_, o1.1 2 0 (by omega), fun Q => ?_⟩
  · rw [cat_del hW hl8 hk hz a2, e2, e3]
    exact o2
  · rw [e2, e3, o3, hc, nI_add]
  · rw [mm_C_setL]
    rw [← a3] at q
    simp (disch := omega) only [e_58, w_58_0, w_58_1, w_58_4_0, w_58_4_1, w_58_4_2, w_58_4_3, w_58_4_4, w_58_4_5, w_58_4_6, w_58_4_7, w_58_4_8, w_58_4_9, w_58_4_10, w_58_4_11, w_58_4_12, w_58_44, w_58_45, w_58_48, w_58_49, w_58_52, w_58_55, w_58_56, w_58_57, w_58_58, w_58_59, w_58_62, w_58_65, w_58_66, w_58_69, w_58_70, w_58_73, w_58_74, w_58_75, w_58_78, w_58_79, w_58_80, w_58_83, w_58_84, w_58_85, w_58_88, w_58_89, w_58_90, w_58_93, w_58_96, w_58_99, w_58_102, w_58_103, w_58_106, w_58_107, w_58_110, w_58_113, w_58_114, w_58_117, w_58_118, w_58_121, w_58_124, w_58_125, w_58_128, w_58_129, w_58_132, w_58_135, w_58_136, w_58_139, w_58_140, w_58_143, w_58_144, w_58_147, w_58_150, w_58_151, w_58_152, w_58_155, mm_k_none, mm_k_int, mm_k_ref, mm_k_null, mm_K_inl, mm_tl_some, mm_tl_none, mm_fg_ok, mm_rc_ok, mm_fp_ok, mm_ai_ok, mm_si_ok, mm_az_ok, mm_sz_ok, z01, z11, zb, b2i_t, b2i_f, true_and, and_true, c_g0, c_g1, c_g2, c_g3, c_g4, c_g5, c_g6, c_g7, c_g8, c_g9, c_g10, c_g11, c_g12, c_gl, c_o0, c_o1, c_o2, c_o3, c_ol, c_s0, c_s1, c_s2, c_s3, c_sl, Nat.zero_le, Nat.not_lt_zero, if_true, if_false, m1_lt, m1_ge, mm_inT, pk_mul, nI_add, mm_in_nI, mm_cl_nI, nI_eq, nI_ltI, nI_leI, ↓reduceIte, Nat.add_zero, Nat.reduceLeDiff, oI_some, oI_none, m1_lt, nI_lt0, Rf_fail_eq, Rf_out_eq, eq_self, not_true_eq_false, not_false_eq_true, Nat.reduceEqDiff, Nat.reduceLT, ne_eq, or_true, true_or, or_false, false_or, decide_true, decide_false, Bool.true_eq_false, Bool.false_eq_true, b2i_ne, hnode, h6, vst, hst, q]
end CL20
