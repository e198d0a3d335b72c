/-! the reference: add, insert, put -/
section RF19
variable {X : Nat × Nat × (Nat → Int32)} {d rm T n m a b N to l : Nat} {σ : Sg} {ρ : RS} {M : mm_M} {Q : mm_Out → mm_M → Prop}
theorem lo_k (hW : WF T σ) (hn : n < sN σ) (h : lo σ n = some l) : sK σ (l / 8) = 0 ∨ sK σ (l / 8) = 6 := by
  have h1 := lf_lt hW n hn
  unfold lo at h
  split at h
  · rename_i h0
    cases h
    left
    rw [show 8 * lf σ n / 8 = lf σ n by omega]
    exact h0
  · split at h
    · rename_i h7
      cases h
      right
      have h3 := (hW.k7 (n := lf σ n) (by omega) h7).2
      rw [show (8 * sO σ (lf σ n) + sB σ (lf σ n)) / 8 = sO σ (lf σ n) by omega]
      exact hW.map (by omega) (Or.inl h7)
    · cases h
theorem sup_lo (hW : WF T σ) {w : Nat} (hw : w ≠ 1) : ∀ n, n < sN σ → sup σ w n = true → ∃ l, lo σ n = some l := by
  intro n
  induction n using Nat.strongRecOn with
  | _ n ih =>
    intro hn h
    rw [sup_at hW hn] at h
    cases hb : kBased (sK σ n) with
    | true =>
      rw [hb, if_pos rfl] at h
      have ho := hW.o hn (kB_one hb)
      by_cases h5 : sK σ n = 5 ∧ w ≠ 1
      · rw [if_pos h5] at h; cases h
      · rw [if_neg h5] at h
        rw [lo_o hW hn hb]
        exact ih _ ho (by omega) h
    | false =>
      rw [hb, if_neg (by decide)] at h
      have hl : lf σ n = n := by rw [lf_at hW hn, hb]; rfl
      simp only [decide_eq_true_eq] at h
      unfold lo
      rw [hl]
      rcases h with h | h | h
      · exact ⟨_, if_pos h⟩
      · rw [if_neg (by omega), if_pos h]
        exact ⟨_, rfl⟩
      · exact absurd h.1 hw
theorem dn_lt (hW : WF T σ) {ins : Bool} : ∀ n, n < sN σ → lo σ n = some l → stale σ n = false → ∀ i, i < (El σ n).length + (if ins = true then 1 else 0) → dn σ ins n i < (sS σ l).length + (if ins = true then 1 else 0) := by
  intro n
  induction n using Nat.strongRecOn with
  | _ n ih =>
    intro hn hlo hs i hi
    rw [dn_at hW hn]
    cases hb : kBased (sK σ n) with
    | false =>
      have z3 : ¬ sK σ n = 3 := fun y => by rw [y] at hb; exact absurd hb (by decide)
      have z4 : ¬ sK σ n = 4 := fun y => by rw [y] at hb; exact absurd hb (by decide)
      have z5 : ¬ sK σ n = 5 := fun y => by rw [y] at hb; exact absurd hb (by decide)
      rw [if_neg z3, if_neg z4, if_neg z5]
      rw [(on_leaf hW hn hb hlo).1] at hi
      exact hi
    | true =>
      have ho := hW.o hn (kB_one hb)
      have hso := stale_o hW hn hs (kB_one hb)
      have hloo : lo σ (sO σ n) = some l := by rw [← lo_o hW hn hb]; exact hlo
      have hi2 := ih _ ho (by omega) hloo hso
      by_cases h3 : sK σ n = 3
      · rw [if_pos h3]
        apply hi2
        have := len_3 hW hn h3
        cases ins with
        | true => simp only [if_true] at hi ⊢; omega
        | false => simp only [Bool.false_eq_true, if_false] at hi ⊢; omega
      · rw [if_neg h3]
        by_cases h4 : sK σ n = 4
        · rw [if_pos h4]
          apply hi2
          have := len_4 hW hn h4 hs
          omega
        · rw [if_neg h4]
          have h5 : sK σ n = 5 := by rcases kB_cases hb with z | z | z <;> omega
          rw [if_pos h5]
          apply hi2
          have := len_5 hW hn h5
          omega
theorem RRel_note (hR : RRel σ ρ) {up : Bool} {F G : Nat → Int32} (hF : ∀ m, F m = if onP σ n m = true ∧ sK σ m = 4 then ρ.2.2 6 m + (if up = true then nI 1 else -1) else ρ.2.2 6 m) (hG : ∀ m, G m = if onP σ n m = true ∧ sK σ m = 4 then nI (ch σ (sO σ m)) else ρ.2.2 7 m) (hpos : up = false → ∀ m, onP σ n m = true → sK σ m = 4 → 1 ≤ sP σ m) : RRel (noteP σ n up) (r_put (r_put ρ 6 F) 7 G) := by
  refine ⟨hR.1, fun h hh => ?_, fun q hq => ?_, fun q hq => ?_, fun q hq => ?_⟩
  · rw [r_put_ne (by decide), r_put_ne (by decide)]; exact hR.2.1 h hh
  · obtain ⟨r1, r2, r3, r4, r5, r6⟩ := hR.2.2.1 q hq
    have e6 : (r_put (r_put ρ 6 F) 7 G).2.2 6 = F := by rw [r_put_ne (by decide), r_put_at]
    have e7 : (r_put (r_put ρ 6 F) 7 G).2.2 7 = G := r_put_at
    rw [e6, e7, r_put_ne (show (2 : Nat) ≠ 7 by decide), r_put_ne (show (2 : Nat) ≠ 6 by decide), r_put_ne (show (3 : Nat) ≠ 7 by decide), r_put_ne (show (3 : Nat) ≠ 6 by decide), r_put_ne (show (4 : Nat) ≠ 7 by decide), r_put_ne (show (4 : Nat) ≠ 6 by decide), r_put_ne (show (5 : Nat) ≠ 7 by decide), r_put_ne (show (5 : Nat) ≠ 6 by decide), r_put_ne (show (8 : Nat) ≠ 7 by decide), r_put_ne (show (8 : Nat) ≠ 6 by decide), r_put_ne (show (9 : Nat) ≠ 7 by decide), r_put_ne (show (9 : Nat) ≠ 6 by decide)]
    refine ⟨r1, r2, r3, r4, fun z => ?_, r6⟩
    have z' : sK σ q = 4 := z
    obtain ⟨p1, p2⟩ := r5 z'
    show F q = nI (if onP σ n q = true ∧ sK σ q = 4 then (if up = true then sP σ q + 1 else sP σ q - 1) else sP σ q) ∧ G q = nI (if onP σ n q = true ∧ sK σ q = 4 then ch σ (sO σ q) else sD σ q)
    rw [hF, hG, p1, p2]
    by_cases hon : onP σ n q = true ∧ sK σ q = 4
    · rw [if_pos hon, if_pos hon, if_pos hon, if_pos hon]
      refine ⟨?_, rfl⟩
      cases up with
      | true => rw [if_pos rfl, if_pos rfl, nI_add]
      | false =>
        have := hpos rfl q hon.1 hon.2
        rw [if_neg (by decide), if_neg (by decide), nI_dI]
        obtain ⟨p, hp⟩ : ∃ p, sP σ q = p + 1 := ⟨sP σ q - 1, by omega⟩
        rw [hp, dI_s, Nat.add_sub_cancel]
    · rw [if_neg hon, if_neg hon, if_neg hon, if_neg hon]
      exact ⟨rfl, rfl⟩
  · rw [r_put_ne (show (10 : Nat) ≠ 7 by decide), r_put_ne (show (10 : Nat) ≠ 6 by decide), r_put_ne (show (11 : Nat) ≠ 7 by decide), r_put_ne (show (11 : Nat) ≠ 6 by decide), r_put_ne (show (12 : Nat) ≠ 7 by decide), r_put_ne (show (12 : Nat) ≠ 6 by decide)]
    exact hR.2.2.2.1 q hq
  · rw [r_put_ne (show (13 : Nat) ≠ 7 by decide), r_put_ne (show (13 : Nat) ≠ 6 by decide), r_put_ne (show (14 : Nat) ≠ 7 by decide), r_put_ne (show (14 : Nat) ≠ 6 by decide)]
    exact hR.2.2.2.2 q hq
/-- the bounds of a list that can be written -/
theorem ful_no (hW : WF T σ) (hl8 : l < 8 * sN σ) (hk : sK σ (l / 8) = 0 ∨ sK σ (l / 8) = 6) (hz : sK σ (l / 8) = 0 → l = 8 * (l / 8)) (hf : fulB σ l = false) : (sS σ l).length < 24 ∧ (sK σ (l / 8) = 0 → (sS σ l).length < 16) ∧ (sK σ (l / 8) = 6 → smN (fun k => (sS σ (8 * (l / 8) + k)).length) 8 < 24) := by
  have hn : l / 8 < sN σ := by omega
  rcases hk with hk | hk
  · have h16 := (hW.2.2.2.1 (l / 8) hn).2.2.2.2.2.2.2.2.2.2.2.2.2.2.1 hk
    rw [← hz hk] at h16
    unfold fulB at hf
    rw [if_pos hk, decide_eq_false_iff_not] at hf
    exact ⟨by omega, fun _ => by omega, fun z => by omega⟩
  · obtain ⟨d1, d2, d3⟩ := hW.rk hn hk
    unfold fulB at hf
    rw [if_neg (by omega), decide_eq_false_iff_not] at hf
    have e : smN (fun k => (sS σ (8 * (l / 8) + k)).length) 8 = ((sR σ (l / 8)).flatMap (fun k => sS σ (8 * (l / 8) + k))).length := by
      rw [List.length_flatMap]
      refine (smN_R 8 _ d2 (fun k hk => ((d3 k).1 hk).1) (fun k hk hk2 => ?_)).symm
      by_cases z : sS σ (8 * (l / 8) + k) = []
      · rw [z]; rfl
      · exact absurd ((d3 k).2 ⟨hk, z⟩) hk2
    have h1 : smN (fun k => (sS σ (8 * (l / 8) + k)).length) 8 < 24 := by omega
    refine ⟨?_, fun z => by omega, fun _ => h1⟩
    have h2 := smN_ch (f := fun k => (sS σ (8 * (l / 8) + k)).length) (f' := fun k => if k = l % 8 then 0 else (sS σ (8 * (l / 8) + k)).length) (key := l % 8) (fun k hk => if_neg hk) 8 (Nat.mod_lt _ (by decide))
    simp only [if_true] at h2
    rw [show 8 * (l / 8) + l % 8 = l by omega] at h2
    omega
theorem lo_z (hW : WF T σ) (hn : n < sN σ) (h : lo σ n = some l) : sK σ (l / 8) = 0 → l = 8 * (l / 8) := by
  intro hz
  have h1 := lf_lt hW n hn
  unfold lo at h
  split at h
  · cases h
    omega
  · split at h
    · rename_i h7
      cases h
      have h3 := (hW.k7 (n := lf σ n) (by omega) h7).2
      rw [show (8 * sO σ (lf σ n) + sB σ (lf σ n)) / 8 = sO σ (lf σ n) by omega, hW.map (by omega) (Or.inl h7)] at hz
      cases hz
    · cases h
/-- the sum over the keys after a change -/
theorem smN_ud {L : List Int32} : smN (fun k => (ud (sS σ) l L (8 * (l / 8) + k)).length) 8 + (sS σ l).length = smN (fun k => (sS σ (8 * (l / 8) + k)).length) 8 + L.length := by
  have h2 := smN_ch (f := fun k => (sS σ (8 * (l / 8) + k)).length) (f' := fun k => (ud (sS σ) l L (8 * (l / 8) + k)).length) (key := l % 8) (fun k hk => by
    show (ud (sS σ) l L (8 * (l / 8) + k)).length = _
    rw [ud_ne (by omega)]) 8 (Nat.mod_lt _ (by decide))
  rw [show 8 * (l / 8) + l % 8 = l by omega, ud_at] at h2
  exact h2
theorem opR_putIn (hW : WF T σ) (hT : T + 1 < 1000000) (hR : RRel σ ρ) (h0 : ρ.1 = nI 0) (hn : n < sN σ) (hs : stale σ n = false) (hsh : shown σ ρ n) (hsup : sup σ 0 n = true) {i : Nat} {v : Int32} (hi : i ≤ (El σ n).length) : opR X (d + 5) rm ρ M 98 [.int (nI n), .int (nI i), .int v] (sp_putIn σ n i v) := by
  have h40 := hW.n40
  have h72 := El_72 hW hn
  obtain ⟨l, hlo⟩ := sup_lo hW (by decide) n hn hsup
  have hl8 := lo_N hW hn hlo
  have hlk := lo_k hW hn hlo
  have hlz := lo_z hW hn hlo
  have hlist := fun Q => Rf_listOf_eq (X := X) (d := d + 2) (rm := rm) (M := M) (Q := Q) hW hR.no hn
  have hfull := fun Q => Rf_full_eq (X := X) (d := d + 4) (rm := rm) (M := M) (Q := Q) hW hR hl8 hlk
  rw [hlo, oI_some] at hlist
  cases hf : fulB σ l with
  | true =>
    refine opR.no hR 3 (by simp only [sp_putIn, hlo, hf, if_true]) fun Q => ?_
    simp (disch := omega) only [e_98, w_98_0, w_98_1, w_98_2, w_98_5, w_98_7, w_98_8, w_98_10, w_98_13, w_98_16, w_98_17, w_98_18, w_98_21, w_98_22, w_98_23, w_98_25, w_98_26, w_98_27, w_98_28, w_98_29, w_98_32, w_98_33, w_98_36, w_98_37, w_98_38, w_98_39, w_98_42, w_98_43, w_98_46, w_98_47, w_98_48, w_98_49, w_98_50, mm_k_none, mm_k_int, mm_k_ref, mm_k_null, mm_K_inl, mm_tl_some, mm_tl_none, mm_fg_ok, mm_rc_ok, mm_fp_ok, mm_ai_ok, mm_si_ok, mm_az_ok, mm_sz_ok, z01, z11, zb, b2i_t, b2i_f, true_and, and_true, r_at, r_at_1, r_at_2, r_at_3, r_at_4, r_at_5, r_at_6, r_at_7, r_at_8, r_at_9, r_at_10, r_at_11, r_at_12, r_at_13, r_at_14, r_at_15, r_at_16, r_at_17, r_set_1, r_set_2, r_set_3, r_set_4, r_set_5, r_set_6, r_set_7, r_set_8, r_set_9, r_set_10, r_set_11, r_set_12, r_set_13, r_set_14, r_set_15, r_set_16, r_set_17, r_set_f, r_set_n, r_g_0, r_g_1, r_g_2, r_g_3, r_g_4, r_g_5, r_g_6, r_g_7, r_g_8, r_g_9, r_g_10, r_g_11, r_g_12, r_g_13, r_g_14, r_g_15, r_g_16, r_g_17, r_g_18, r_olen, Nat.zero_le, Nat.not_lt_zero, if_true, if_false, m1_lt, m1_ge, mm_inT, pk_mul, nI_add, mm_in_nI, mm_cl_nI, nI_eq, nI_ltI, nI_leI, ↓reduceIte, Nat.add_zero, Nat.reduceLeDiff, oI_some, oI_none, m1_lt, nI_lt0, Rf_fail_eq, Rf_out_eq, eq_self, not_true_eq_false, not_false_eq_true, Nat.reduceEqDiff, Nat.reduceLT, ne_eq, or_true, true_or, or_false, false_or, decide_true, decide_false, Bool.true_eq_false, Bool.false_eq_true, b2i_ne, hlist, hfull, hf]
  | false =>
    obtain ⟨f24, f16, f6⟩ := ful_no hW hl8 hlk hlz hf
    have hi2 : i < (El σ n).length + (if true = true then 1 else 0) := by rw [if_pos rfl]; omega
    have hd := dn_lt hW (ins := true) n hn hlo hs i hi2
    rw [if_pos rfl] at hd
    have hdown := fun Q => Rf_down_eq (X := X) (d := d + 3) (rm := rm) (M := M) (Q := Q) hW hR hn hs hsh hi2
    obtain ⟨ρ1, R1, e1, k1, hq1⟩ := Rf_insertInto_eq (X := X) (d := d + 2) (rm := rm) (M := M) (v := v) (i := dn σ true n i) hW hR hl8 f24 (by omega)
    have hil := insAt_len (L := sS σ l) (i := dn σ true n i) (v := v) (by omega)
    have hud := smN_ud (σ := σ) (l := l) (L := insAt (sS σ l) (dn σ true n i) v)
    have hW1 : WF (T + 1) (setL σ l (insAt (sS σ l) (dn σ true n i) v) 1) := WF_setL hW hl8 hlk (Nat.le_refl _) hT (by omega) (fun z => by have := f16 z; omega) (fun z => by have := f6 z; omega)
    obtain ⟨F, G, hF, hG, hq2⟩ := Rf_note_lp (X := X) (d := d) (rm := rm) (M := M) (by_ := nI 1) (l1 := some (.int (nI n))) hW1 n ρ1 R1.no hn
    have R2 := RRel_note (n := n) (up := true) R1 (F := F) (G := G) (by rw [if_pos rfl]; exact hF) hG (fun z => by cases z)
    have hel := hsh n (rc_refl hW hn)
    have e17 : (r_put (r_put ρ1 6 F) 7 G).2.2 17 n = nI (El σ n).length := by
      rw [r_put_ne (by decide), r_put_ne (by decide), k1 17 (by decide)]
      exact hel.2.1
    refine opR.mk (ρ' := r_put (r_put ρ1 6 F) 7 G) (c := 0) (b := nI ((El σ n).length + 1)) (σ' := noteP (setL σ l (insAt (sS σ l) (dn σ true n i) v) 1) n true) (by simp only [sp_putIn, hlo, hf]; rfl) R2 (e1.trans h0) fun Q => ?_
    have hnote : ∀ Q, WPC X (d + 4) 103 [.ref rm, .int (nI n), .int (nI 1)] (mm_R rm ρ1 M) Q = Q (.inl none) (mm_R rm (r_put (r_put ρ1 6 F) 7 G) M) := by
      intro Q
      refine Eq.trans ?_ (hq2 Q)
      simp only [e_103, w_103_0, w_103_1, w_103_3, w_103_4, w_103_7, w_103_10, w_103_11, w_103_14, w_103_15, w_103_16, w_103_17, w_103_20, w_103_21, w_103_24, w_103_25, w_103_26, w_103_27, w_103_28, w_103_29, w_103_30, w_103_31, w_103_34, w_103_35, w_103_36, w_103_37, w_103_40, w_103_41, w_103_42, w_103_45, w_103_46, w_103_47, w_103_50, w_103_51, w_103_52, w_103_53, w_103_56, mm_k_none, mm_k_int, mm_k_ref, mm_k_null, mm_K_inl, mm_tl_some, mm_tl_none, mm_fg_ok, mm_rc_ok, mm_fp_ok, mm_ai_ok, mm_si_ok, mm_az_ok, mm_sz_ok, z01, z11, zb, b2i_t, b2i_f, true_and, and_true]
    rw [b2i_t] at hdown
    simp (disch := omega) only [e_98, w_98_0, w_98_1, w_98_2, w_98_5, w_98_7, w_98_8, w_98_10, w_98_13, w_98_16, w_98_17, w_98_18, w_98_21, w_98_22, w_98_23, w_98_25, w_98_26, w_98_27, w_98_28, w_98_29, w_98_32, w_98_33, w_98_36, w_98_37, w_98_38, w_98_39, w_98_42, w_98_43, w_98_46, w_98_47, w_98_48, w_98_49, w_98_50, mm_k_none, mm_k_int, mm_k_ref, mm_k_null, mm_K_inl, mm_tl_some, mm_tl_none, mm_fg_ok, mm_rc_ok, mm_fp_ok, mm_ai_ok, mm_si_ok, mm_az_ok, mm_sz_ok, z01, z11, zb, b2i_t, b2i_f, true_and, and_true, r_at, r_at_1, r_at_2, r_at_3, r_at_4, r_at_5, r_at_6, r_at_7, r_at_8, r_at_9, r_at_10, r_at_11, r_at_12, r_at_13, r_at_14, r_at_15, r_at_16, r_at_17, r_set_1, r_set_2, r_set_3, r_set_4, r_set_5, r_set_6, r_set_7, r_set_8, r_set_9, r_set_10, r_set_11, r_set_12, r_set_13, r_set_14, r_set_15, r_set_16, r_set_17, r_set_f, r_set_n, r_g_0, r_g_1, r_g_2, r_g_3, r_g_4, r_g_5, r_g_6, r_g_7, r_g_8, r_g_9, r_g_10, r_g_11, r_g_12, r_g_13, r_g_14, r_g_15, r_g_16, r_g_17, r_g_18, r_olen, Nat.zero_le, Nat.not_lt_zero, if_true, if_false, m1_lt, m1_ge, mm_inT, pk_mul, nI_add, mm_in_nI, mm_cl_nI, nI_eq, nI_ltI, nI_leI, ↓reduceIte, Nat.add_zero, Nat.reduceLeDiff, oI_some, oI_none, m1_lt, nI_lt0, Rf_fail_eq, Rf_out_eq, eq_self, not_true_eq_false, not_false_eq_true, Nat.reduceEqDiff, Nat.reduceLT, ne_eq, or_true, true_or, or_false, false_or, decide_true, decide_false, Bool.true_eq_false, Bool.false_eq_true, b2i_ne, hlist, hfull, hf, hdown, hq1, hnote, e17]
theorem opR_add (hW : WF T σ) (hT : T + 1 < 1000000) (hR : RRel σ ρ) {h v : Int32} : opR X (d + 6) rm ρ M 96 [.int h, .int v] (sp_add σ h v) := by
  have h40 := hW.n40
  cases hn : ndo σ h with
  | none =>
    refine opR.no hR 1 (by simp only [sp_add, hn]) fun Q => ?_
    simp (disch := omega) only [e_96, w_96_0, w_96_1, w_96_2, w_96_5, w_96_6, w_96_7, w_96_10, w_96_11, w_96_12, w_96_15, w_96_16, w_96_17, w_96_20, w_96_21, w_96_22, w_96_23, w_96_24, w_96_27, w_96_30, w_96_31, w_96_32, w_96_35, w_96_36, w_96_37, w_96_38, w_96_41, w_96_44, w_96_45, w_96_46, w_96_49, w_96_50, w_96_51, w_96_52, w_96_53, w_96_56, w_96_57, w_96_58, w_96_59, w_96_62, mm_k_none, mm_k_int, mm_k_ref, mm_k_null, mm_K_inl, mm_tl_some, mm_tl_none, mm_fg_ok, mm_rc_ok, mm_fp_ok, mm_ai_ok, mm_si_ok, mm_az_ok, mm_sz_ok, z01, z11, zb, b2i_t, b2i_f, true_and, and_true, r_at, r_at_1, r_at_2, r_at_3, r_at_4, r_at_5, r_at_6, r_at_7, r_at_8, r_at_9, r_at_10, r_at_11, r_at_12, r_at_13, r_at_14, r_at_15, r_at_16, r_at_17, r_set_1, r_set_2, r_set_3, r_set_4, r_set_5, r_set_6, r_set_7, r_set_8, r_set_9, r_set_10, r_set_11, r_set_12, r_set_13, r_set_14, r_set_15, r_set_16, r_set_17, r_set_f, r_set_n, r_g_0, r_g_1, r_g_2, r_g_3, r_g_4, r_g_5, r_g_6, r_g_7, r_g_8, r_g_9, r_g_10, r_g_11, r_g_12, r_g_13, r_g_14, r_g_15, r_g_16, r_g_17, r_g_18, r_olen, Nat.zero_le, Nat.not_lt_zero, if_true, if_false, m1_lt, m1_ge, mm_inT, pk_mul, nI_add, mm_in_nI, mm_cl_nI, nI_eq, nI_ltI, nI_leI, ↓reduceIte, Nat.add_zero, Nat.reduceLeDiff, oI_some, oI_none, m1_lt, nI_lt0, Rf_fail_eq, Rf_out_eq, eq_self, not_true_eq_false, not_false_eq_true, Nat.reduceEqDiff, Nat.reduceLT, ne_eq, or_true, true_or, or_false, false_or, decide_true, decide_false, Bool.true_eq_false, Bool.false_eq_true, b2i_ne, Rf_nodeOf_eq hR.f, hn]
  | some n =>
    have hlt := ndo_lt hW hn
    have h72 := El_72 hW hlt
    have hsu := fun Q => Rf_supported_eq (X := X) (d := d + 4) (rm := rm) (ρ := (nI 0, ρ.2.1, ρ.2.2)) (M := M) (Q := Q) hW hR.f.no (w := 0) (by decide) hlt
    cases hsup : sup σ 0 n with
    | false =>
      refine opR.no hR 2 (by simp only [sp_add, hn, hsup, if_true]) fun Q => ?_
      simp (disch := omega) only [e_96, w_96_0, w_96_1, w_96_2, w_96_5, w_96_6, w_96_7, w_96_10, w_96_11, w_96_12, w_96_15, w_96_16, w_96_17, w_96_20, w_96_21, w_96_22, w_96_23, w_96_24, w_96_27, w_96_30, w_96_31, w_96_32, w_96_35, w_96_36, w_96_37, w_96_38, w_96_41, w_96_44, w_96_45, w_96_46, w_96_49, w_96_50, w_96_51, w_96_52, w_96_53, w_96_56, w_96_57, w_96_58, w_96_59, w_96_62, mm_k_none, mm_k_int, mm_k_ref, mm_k_null, mm_K_inl, mm_tl_some, mm_tl_none, mm_fg_ok, mm_rc_ok, mm_fp_ok, mm_ai_ok, mm_si_ok, mm_az_ok, mm_sz_ok, z01, z11, zb, b2i_t, b2i_f, true_and, and_true, r_at, r_at_1, r_at_2, r_at_3, r_at_4, r_at_5, r_at_6, r_at_7, r_at_8, r_at_9, r_at_10, r_at_11, r_at_12, r_at_13, r_at_14, r_at_15, r_at_16, r_at_17, r_set_1, r_set_2, r_set_3, r_set_4, r_set_5, r_set_6, r_set_7, r_set_8, r_set_9, r_set_10, r_set_11, r_set_12, r_set_13, r_set_14, r_set_15, r_set_16, r_set_17, r_set_f, r_set_n, r_g_0, r_g_1, r_g_2, r_g_3, r_g_4, r_g_5, r_g_6, r_g_7, r_g_8, r_g_9, r_g_10, r_g_11, r_g_12, r_g_13, r_g_14, r_g_15, r_g_16, r_g_17, r_g_18, r_olen, Nat.zero_le, Nat.not_lt_zero, if_true, if_false, m1_lt, m1_ge, mm_inT, pk_mul, nI_add, mm_in_nI, mm_cl_nI, nI_eq, nI_ltI, nI_leI, ↓reduceIte, Nat.add_zero, Nat.reduceLeDiff, oI_some, oI_none, m1_lt, nI_lt0, Rf_fail_eq, Rf_out_eq, eq_self, not_true_eq_false, not_false_eq_true, Nat.reduceEqDiff, Nat.reduceLT, ne_eq, or_true, true_or, or_false, false_or, decide_true, decide_false, Bool.true_eq_false, Bool.false_eq_true, b2i_ne, Rf_nodeOf_eq hR.f, hn, hsu, hsup]
    | true =>
      by_cases hs : stale σ n = true
      · obtain ⟨f, hq⟩ := Rf_show_no (X := X) (d := d) (rm := rm) (M := M) (ρ := (nI 0, ρ.2.1, ρ.2.2)) hW hR.f hlt hs
        refine opR.no ((hR.f (c := nI 0)).s (f := f)) 3 (by simp only [sp_add, hn, hsup, Bool.true_eq_false, if_false, if_pos hs]) fun Q => ?_
        simp (disch := omega) only [e_96, w_96_0, w_96_1, w_96_2, w_96_5, w_96_6, w_96_7, w_96_10, w_96_11, w_96_12, w_96_15, w_96_16, w_96_17, w_96_20, w_96_21, w_96_22, w_96_23, w_96_24, w_96_27, w_96_30, w_96_31, w_96_32, w_96_35, w_96_36, w_96_37, w_96_38, w_96_41, w_96_44, w_96_45, w_96_46, w_96_49, w_96_50, w_96_51, w_96_52, w_96_53, w_96_56, w_96_57, w_96_58, w_96_59, w_96_62, mm_k_none, mm_k_int, mm_k_ref, mm_k_null, mm_K_inl, mm_tl_some, mm_tl_none, mm_fg_ok, mm_rc_ok, mm_fp_ok, mm_ai_ok, mm_si_ok, mm_az_ok, mm_sz_ok, z01, z11, zb, b2i_t, b2i_f, true_and, and_true, r_at, r_at_1, r_at_2, r_at_3, r_at_4, r_at_5, r_at_6, r_at_7, r_at_8, r_at_9, r_at_10, r_at_11, r_at_12, r_at_13, r_at_14, r_at_15, r_at_16, r_at_17, r_set_1, r_set_2, r_set_3, r_set_4, r_set_5, r_set_6, r_set_7, r_set_8, r_set_9, r_set_10, r_set_11, r_set_12, r_set_13, r_set_14, r_set_15, r_set_16, r_set_17, r_set_f, r_set_n, r_g_0, r_g_1, r_g_2, r_g_3, r_g_4, r_g_5, r_g_6, r_g_7, r_g_8, r_g_9, r_g_10, r_g_11, r_g_12, r_g_13, r_g_14, r_g_15, r_g_16, r_g_17, r_g_18, r_olen, Nat.zero_le, Nat.not_lt_zero, if_true, if_false, m1_lt, m1_ge, mm_inT, pk_mul, nI_add, mm_in_nI, mm_cl_nI, nI_eq, nI_ltI, nI_leI, ↓reduceIte, Nat.add_zero, Nat.reduceLeDiff, oI_some, oI_none, m1_lt, nI_lt0, Rf_fail_eq, Rf_out_eq, eq_self, not_true_eq_false, not_false_eq_true, Nat.reduceEqDiff, Nat.reduceLT, ne_eq, or_true, true_or, or_false, false_or, decide_true, decide_false, Bool.true_eq_false, Bool.false_eq_true, b2i_ne, Rf_nodeOf_eq hR.f, hn, hsu, hsup, hq]
      · have hs' : stale σ n = false := by simpa using hs
        obtain ⟨ρ1, h1, h2, h3, hq⟩ := Rf_show_yes (X := X) (d := d) (rm := rm) (M := M) (ρ := (nI 0, ρ.2.1, ρ.2.2)) hW hR.f hlt hs'
        have hel := h2 n (rc_refl hW hlt)
        obtain ⟨ρ2, R2, f2, hq2⟩ := opR_putIn (X := X) (d := d) (rm := rm) (M := M) (v := v) hW hT ((hR.f (c := nI 0)).same h1) h1.1 hlt hs' h2 hsup (Nat.le_refl _)
        have esp : sp_add σ h v = sp_putIn σ n (El σ n).length v := by simp only [sp_add, hn, hsup, Bool.true_eq_false, if_false, if_neg hs]
        rw [esp]
        refine ⟨ρ2, R2, f2, fun Q => ?_⟩
        simp (disch := omega) only [e_96, w_96_0, w_96_1, w_96_2, w_96_5, w_96_6, w_96_7, w_96_10, w_96_11, w_96_12, w_96_15, w_96_16, w_96_17, w_96_20, w_96_21, w_96_22, w_96_23, w_96_24, w_96_27, w_96_30, w_96_31, w_96_32, w_96_35, w_96_36, w_96_37, w_96_38, w_96_41, w_96_44, w_96_45, w_96_46, w_96_49, w_96_50, w_96_51, w_96_52, w_96_53, w_96_56, w_96_57, w_96_58, w_96_59, w_96_62, mm_k_none, mm_k_int, mm_k_ref, mm_k_null, mm_K_inl, mm_tl_some, mm_tl_none, mm_fg_ok, mm_rc_ok, mm_fp_ok, mm_ai_ok, mm_si_ok, mm_az_ok, mm_sz_ok, z01, z11, zb, b2i_t, b2i_f, true_and, and_true, r_at, r_at_1, r_at_2, r_at_3, r_at_4, r_at_5, r_at_6, r_at_7, r_at_8, r_at_9, r_at_10, r_at_11, r_at_12, r_at_13, r_at_14, r_at_15, r_at_16, r_at_17, r_set_1, r_set_2, r_set_3, r_set_4, r_set_5, r_set_6, r_set_7, r_set_8, r_set_9, r_set_10, r_set_11, r_set_12, r_set_13, r_set_14, r_set_15, r_set_16, r_set_17, r_set_f, r_set_n, r_g_0, r_g_1, r_g_2, r_g_3, r_g_4, r_g_5, r_g_6, r_g_7, r_g_8, r_g_9, r_g_10, r_g_11, r_g_12, r_g_13, r_g_14, r_g_15, r_g_16, r_g_17, r_g_18, r_olen, Nat.zero_le, Nat.not_lt_zero, if_true, if_false, m1_lt, m1_ge, mm_inT, pk_mul, nI_add, mm_in_nI, mm_cl_nI, nI_eq, nI_ltI, nI_leI, ↓reduceIte, Nat.add_zero, Nat.reduceLeDiff, oI_some, oI_none, m1_lt, nI_lt0, Rf_fail_eq, Rf_out_eq, eq_self, not_true_eq_false, not_false_eq_true, Nat.reduceEqDiff, Nat.reduceLT, ne_eq, or_true, true_or, or_false, false_or, decide_true, decide_false, Bool.true_eq_false, Bool.false_eq_true, b2i_ne, Rf_nodeOf_eq hR.f, hn, hsu, hsup, hq, hel.2.1, hq2]
theorem opR_insert (hW : WF T σ) (hT : T + 1 < 1000000) (hR : RRel σ ρ) {h i v : Int32} : opR X (d + 6) rm ρ M 104 [.int h, .int i, .int v] (sp_insert σ h i v) := by
  have h40 := hW.n40
  cases hn : ndo σ h with
  | none =>
    refine opR.no hR 1 (by simp only [sp_insert, hn]) fun Q => ?_
    simp (disch := omega) only [e_104, w_104_0, w_104_1, w_104_2, w_104_5, w_104_6, w_104_7, w_104_10, w_104_12, w_104_14, w_104_17, w_104_18, w_104_19, w_104_22, w_104_23, w_104_24, w_104_26, w_104_27, w_104_30, w_104_33, w_104_34, w_104_35, w_104_38, w_104_39, w_104_40, w_104_42, w_104_45, w_104_48, w_104_49, w_104_50, w_104_53, w_104_54, w_104_55, w_104_56, w_104_57, w_104_60, w_104_62, w_104_63, w_104_64, w_104_65, w_104_68, w_104_71, w_104_72, w_104_73, w_104_76, w_104_79, w_104_80, w_104_82, w_104_83, w_104_84, w_104_87, mm_k_none, mm_k_int, mm_k_ref, mm_k_null, mm_K_inl, mm_tl_some, mm_tl_none, mm_fg_ok, mm_rc_ok, mm_fp_ok, mm_ai_ok, mm_si_ok, mm_az_ok, mm_sz_ok, z01, z11, zb, b2i_t, b2i_f, true_and, and_true, r_at, r_at_1, r_at_2, r_at_3, r_at_4, r_at_5, r_at_6, r_at_7, r_at_8, r_at_9, r_at_10, r_at_11, r_at_12, r_at_13, r_at_14, r_at_15, r_at_16, r_at_17, r_set_1, r_set_2, r_set_3, r_set_4, r_set_5, r_set_6, r_set_7, r_set_8, r_set_9, r_set_10, r_set_11, r_set_12, r_set_13, r_set_14, r_set_15, r_set_16, r_set_17, r_set_f, r_set_n, r_g_0, r_g_1, r_g_2, r_g_3, r_g_4, r_g_5, r_g_6, r_g_7, r_g_8, r_g_9, r_g_10, r_g_11, r_g_12, r_g_13, r_g_14, r_g_15, r_g_16, r_g_17, r_g_18, r_olen, Nat.zero_le, Nat.not_lt_zero, if_true, if_false, m1_lt, m1_ge, mm_inT, pk_mul, nI_add, mm_in_nI, mm_cl_nI, nI_eq, nI_ltI, nI_leI, ↓reduceIte, Nat.add_zero, Nat.reduceLeDiff, oI_some, oI_none, m1_lt, nI_lt0, Rf_fail_eq, Rf_out_eq, eq_self, not_true_eq_false, not_false_eq_true, Nat.reduceEqDiff, Nat.reduceLT, ne_eq, or_true, true_or, or_false, false_or, decide_true, decide_false, Bool.true_eq_false, Bool.false_eq_true, b2i_ne, Rf_nodeOf_eq hR.f, hn]
  | some n =>
    have hlt := ndo_lt hW hn
    have h72 := El_72 hW hlt
    have hsu := fun Q => Rf_supported_eq (X := X) (d := d + 4) (rm := rm) (ρ := (nI 0, ρ.2.1, ρ.2.2)) (M := M) (Q := Q) hW hR.f.no (w := 0) (by decide) hlt
    cases hsup : sup σ 0 n with
    | false =>
      refine opR.no hR 2 (by simp only [sp_insert, hn, hsup, if_true]) fun Q => ?_
      simp (disch := omega) only [e_104, w_104_0, w_104_1, w_104_2, w_104_5, w_104_6, w_104_7, w_104_10, w_104_12, w_104_14, w_104_17, w_104_18, w_104_19, w_104_22, w_104_23, w_104_24, w_104_26, w_104_27, w_104_30, w_104_33, w_104_34, w_104_35, w_104_38, w_104_39, w_104_40, w_104_42, w_104_45, w_104_48, w_104_49, w_104_50, w_104_53, w_104_54, w_104_55, w_104_56, w_104_57, w_104_60, w_104_62, w_104_63, w_104_64, w_104_65, w_104_68, w_104_71, w_104_72, w_104_73, w_104_76, w_104_79, w_104_80, w_104_82, w_104_83, w_104_84, w_104_87, mm_k_none, mm_k_int, mm_k_ref, mm_k_null, mm_K_inl, mm_tl_some, mm_tl_none, mm_fg_ok, mm_rc_ok, mm_fp_ok, mm_ai_ok, mm_si_ok, mm_az_ok, mm_sz_ok, z01, z11, zb, b2i_t, b2i_f, true_and, and_true, r_at, r_at_1, r_at_2, r_at_3, r_at_4, r_at_5, r_at_6, r_at_7, r_at_8, r_at_9, r_at_10, r_at_11, r_at_12, r_at_13, r_at_14, r_at_15, r_at_16, r_at_17, r_set_1, r_set_2, r_set_3, r_set_4, r_set_5, r_set_6, r_set_7, r_set_8, r_set_9, r_set_10, r_set_11, r_set_12, r_set_13, r_set_14, r_set_15, r_set_16, r_set_17, r_set_f, r_set_n, r_g_0, r_g_1, r_g_2, r_g_3, r_g_4, r_g_5, r_g_6, r_g_7, r_g_8, r_g_9, r_g_10, r_g_11, r_g_12, r_g_13, r_g_14, r_g_15, r_g_16, r_g_17, r_g_18, r_olen, Nat.zero_le, Nat.not_lt_zero, if_true, if_false, m1_lt, m1_ge, mm_inT, pk_mul, nI_add, mm_in_nI, mm_cl_nI, nI_eq, nI_ltI, nI_leI, ↓reduceIte, Nat.add_zero, Nat.reduceLeDiff, oI_some, oI_none, m1_lt, nI_lt0, Rf_fail_eq, Rf_out_eq, eq_self, not_true_eq_false, not_false_eq_true, Nat.reduceEqDiff, Nat.reduceLT, ne_eq, or_true, true_or, or_false, false_or, decide_true, decide_false, Bool.true_eq_false, Bool.false_eq_true, b2i_ne, Rf_nodeOf_eq hR.f, hn, hsu, hsup]
    | true =>
      by_cases hs : stale σ n = true
      · obtain ⟨f, hq⟩ := Rf_show_no (X := X) (d := d) (rm := rm) (M := M) (ρ := (nI 0, ρ.2.1, ρ.2.2)) hW hR.f hlt hs
        refine opR.no ((hR.f (c := nI 0)).s (f := f)) 3 (by simp only [sp_insert, hn, hsup, Bool.true_eq_false, if_false, if_pos hs]) fun Q => ?_
        simp (disch := omega) only [e_104, w_104_0, w_104_1, w_104_2, w_104_5, w_104_6, w_104_7, w_104_10, w_104_12, w_104_14, w_104_17, w_104_18, w_104_19, w_104_22, w_104_23, w_104_24, w_104_26, w_104_27, w_104_30, w_104_33, w_104_34, w_104_35, w_104_38, w_104_39, w_104_40, w_104_42, w_104_45, w_104_48, w_104_49, w_104_50, w_104_53, w_104_54, w_104_55, w_104_56, w_104_57, w_104_60, w_104_62, w_104_63, w_104_64, w_104_65, w_104_68, w_104_71, w_104_72, w_104_73, w_104_76, w_104_79, w_104_80, w_104_82, w_104_83, w_104_84, w_104_87, mm_k_none, mm_k_int, mm_k_ref, mm_k_null, mm_K_inl, mm_tl_some, mm_tl_none, mm_fg_ok, mm_rc_ok, mm_fp_ok, mm_ai_ok, mm_si_ok, mm_az_ok, mm_sz_ok, z01, z11, zb, b2i_t, b2i_f, true_and, and_true, r_at, r_at_1, r_at_2, r_at_3, r_at_4, r_at_5, r_at_6, r_at_7, r_at_8, r_at_9, r_at_10, r_at_11, r_at_12, r_at_13, r_at_14, r_at_15, r_at_16, r_at_17, r_set_1, r_set_2, r_set_3, r_set_4, r_set_5, r_set_6, r_set_7, r_set_8, r_set_9, r_set_10, r_set_11, r_set_12, r_set_13, r_set_14, r_set_15, r_set_16, r_set_17, r_set_f, r_set_n, r_g_0, r_g_1, r_g_2, r_g_3, r_g_4, r_g_5, r_g_6, r_g_7, r_g_8, r_g_9, r_g_10, r_g_11, r_g_12, r_g_13, r_g_14, r_g_15, r_g_16, r_g_17, r_g_18, r_olen, Nat.zero_le, Nat.not_lt_zero, if_true, if_false, m1_lt, m1_ge, mm_inT, pk_mul, nI_add, mm_in_nI, mm_cl_nI, nI_eq, nI_ltI, nI_leI, ↓reduceIte, Nat.add_zero, Nat.reduceLeDiff, oI_some, oI_none, m1_lt, nI_lt0, Rf_fail_eq, Rf_out_eq, eq_self, not_true_eq_false, not_false_eq_true, Nat.reduceEqDiff, Nat.reduceLT, ne_eq, or_true, true_or, or_false, false_or, decide_true, decide_false, Bool.true_eq_false, Bool.false_eq_true, b2i_ne, Rf_nodeOf_eq hR.f, hn, hsu, hsup, hq]
      · have hs' : stale σ n = false := by simpa using hs
        obtain ⟨ρ1, h1, h2, h3, hq⟩ := Rf_show_yes (X := X) (d := d) (rm := rm) (M := M) (ρ := (nI 0, ρ.2.1, ρ.2.2)) hW hR.f hlt hs'
        have hel := h2 n (rc_refl hW hlt)
        have R1 := (hR.f (c := nI 0)).same h1
        by_cases hi : i < nI 0 ∨ ¬ i ≤ nI (El σ n).length
        · refine opR.no R1 4 (by simp only [sp_insert, hn, hsup, Bool.true_eq_false, if_false, if_neg hs, if_pos hi]) fun Q => ?_
          by_cases c1 : i < nI 0
          · simp (disch := omega) only [e_104, w_104_0, w_104_1, w_104_2, w_104_5, w_104_6, w_104_7, w_104_10, w_104_12, w_104_14, w_104_17, w_104_18, w_104_19, w_104_22, w_104_23, w_104_24, w_104_26, w_104_27, w_104_30, w_104_33, w_104_34, w_104_35, w_104_38, w_104_39, w_104_40, w_104_42, w_104_45, w_104_48, w_104_49, w_104_50, w_104_53, w_104_54, w_104_55, w_104_56, w_104_57, w_104_60, w_104_62, w_104_63, w_104_64, w_104_65, w_104_68, w_104_71, w_104_72, w_104_73, w_104_76, w_104_79, w_104_80, w_104_82, w_104_83, w_104_84, w_104_87, mm_k_none, mm_k_int, mm_k_ref, mm_k_null, mm_K_inl, mm_tl_some, mm_tl_none, mm_fg_ok, mm_rc_ok, mm_fp_ok, mm_ai_ok, mm_si_ok, mm_az_ok, mm_sz_ok, z01, z11, zb, b2i_t, b2i_f, true_and, and_true, r_at, r_at_1, r_at_2, r_at_3, r_at_4, r_at_5, r_at_6, r_at_7, r_at_8, r_at_9, r_at_10, r_at_11, r_at_12, r_at_13, r_at_14, r_at_15, r_at_16, r_at_17, r_set_1, r_set_2, r_set_3, r_set_4, r_set_5, r_set_6, r_set_7, r_set_8, r_set_9, r_set_10, r_set_11, r_set_12, r_set_13, r_set_14, r_set_15, r_set_16, r_set_17, r_set_f, r_set_n, r_g_0, r_g_1, r_g_2, r_g_3, r_g_4, r_g_5, r_g_6, r_g_7, r_g_8, r_g_9, r_g_10, r_g_11, r_g_12, r_g_13, r_g_14, r_g_15, r_g_16, r_g_17, r_g_18, r_olen, Nat.zero_le, Nat.not_lt_zero, if_true, if_false, m1_lt, m1_ge, mm_inT, pk_mul, nI_add, mm_in_nI, mm_cl_nI, nI_eq, nI_ltI, nI_leI, ↓reduceIte, Nat.add_zero, Nat.reduceLeDiff, oI_some, oI_none, m1_lt, nI_lt0, Rf_fail_eq, Rf_out_eq, eq_self, not_true_eq_false, not_false_eq_true, Nat.reduceEqDiff, Nat.reduceLT, ne_eq, or_true, true_or, or_false, false_or, decide_true, decide_false, Bool.true_eq_false, Bool.false_eq_true, b2i_ne, Rf_nodeOf_eq hR.f, hn, hsu, hsup, hq, hel.2.1, c1]
          · obtain ⟨j, hj, rfl⟩ := nI_of' c1
            have hjl : ¬ j < (El σ n).length + 1 := by
              intro z
              rcases hi with y | y
              · exact c1 y
              · exact y (nI_le (by omega) (by omega))
            simp (disch := omega) only [e_104, w_104_0, w_104_1, w_104_2, w_104_5, w_104_6, w_104_7, w_104_10, w_104_12, w_104_14, w_104_17, w_104_18, w_104_19, w_104_22, w_104_23, w_104_24, w_104_26, w_104_27, w_104_30, w_104_33, w_104_34, w_104_35, w_104_38, w_104_39, w_104_40, w_104_42, w_104_45, w_104_48, w_104_49, w_104_50, w_104_53, w_104_54, w_104_55, w_104_56, w_104_57, w_104_60, w_104_62, w_104_63, w_104_64, w_104_65, w_104_68, w_104_71, w_104_72, w_104_73, w_104_76, w_104_79, w_104_80, w_104_82, w_104_83, w_104_84, w_104_87, mm_k_none, mm_k_int, mm_k_ref, mm_k_null, mm_K_inl, mm_tl_some, mm_tl_none, mm_fg_ok, mm_rc_ok, mm_fp_ok, mm_ai_ok, mm_si_ok, mm_az_ok, mm_sz_ok, z01, z11, zb, b2i_t, b2i_f, true_and, and_true, r_at, r_at_1, r_at_2, r_at_3, r_at_4, r_at_5, r_at_6, r_at_7, r_at_8, r_at_9, r_at_10, r_at_11, r_at_12, r_at_13, r_at_14, r_at_15, r_at_16, r_at_17, r_set_1, r_set_2, r_set_3, r_set_4, r_set_5, r_set_6, r_set_7, r_set_8, r_set_9, r_set_10, r_set_11, r_set_12, r_set_13, r_set_14, r_set_15, r_set_16, r_set_17, r_set_f, r_set_n, r_g_0, r_g_1, r_g_2, r_g_3, r_g_4, r_g_5, r_g_6, r_g_7, r_g_8, r_g_9, r_g_10, r_g_11, r_g_12, r_g_13, r_g_14, r_g_15, r_g_16, r_g_17, r_g_18, r_olen, Nat.zero_le, Nat.not_lt_zero, if_true, if_false, m1_lt, m1_ge, mm_inT, pk_mul, nI_add, mm_in_nI, mm_cl_nI, nI_eq, nI_ltI, nI_leI, ↓reduceIte, Nat.add_zero, Nat.reduceLeDiff, oI_some, oI_none, m1_lt, nI_lt0, Rf_fail_eq, Rf_out_eq, eq_self, not_true_eq_false, not_false_eq_true, Nat.reduceEqDiff, Nat.reduceLT, ne_eq, or_true, true_or, or_false, false_or, decide_true, decide_false, Bool.true_eq_false, Bool.false_eq_true, b2i_ne, Rf_nodeOf_eq hR.f, hn, hsu, hsup, hq, hel.2.1, hjl]
        · obtain ⟨j, hj, rfl⟩ := nI_of' (fun z => hi (Or.inl z))
          have hjl : j ≤ (El σ n).length := by
            refine (nI_leI hj (by omega)).1 ?_
            apply Classical.byContradiction
            exact fun z => hi (Or.inr z)
          have hjl2 : j < (El σ n).length + 1 := by omega
          obtain ⟨ρ2, R2, f2, hq2⟩ := opR_putIn (X := X) (d := d) (rm := rm) (M := M) (v := v) hW hT R1 h1.1 hlt hs' h2 hsup hjl
          have esp : sp_insert σ h (nI j) v = sp_putIn σ n j v := by
            simp only [sp_insert, hn, hsup, Bool.true_eq_false, if_false, if_neg hs, if_neg hi]
            rw [nI_clamp hj]
          rw [esp]
          refine ⟨ρ2, R2, f2, fun Q => ?_⟩
          simp (disch := omega) only [e_104, w_104_0, w_104_1, w_104_2, w_104_5, w_104_6, w_104_7, w_104_10, w_104_12, w_104_14, w_104_17, w_104_18, w_104_19, w_104_22, w_104_23, w_104_24, w_104_26, w_104_27, w_104_30, w_104_33, w_104_34, w_104_35, w_104_38, w_104_39, w_104_40, w_104_42, w_104_45, w_104_48, w_104_49, w_104_50, w_104_53, w_104_54, w_104_55, w_104_56, w_104_57, w_104_60, w_104_62, w_104_63, w_104_64, w_104_65, w_104_68, w_104_71, w_104_72, w_104_73, w_104_76, w_104_79, w_104_80, w_104_82, w_104_83, w_104_84, w_104_87, mm_k_none, mm_k_int, mm_k_ref, mm_k_null, mm_K_inl, mm_tl_some, mm_tl_none, mm_fg_ok, mm_rc_ok, mm_fp_ok, mm_ai_ok, mm_si_ok, mm_az_ok, mm_sz_ok, z01, z11, zb, b2i_t, b2i_f, true_and, and_true, r_at, r_at_1, r_at_2, r_at_3, r_at_4, r_at_5, r_at_6, r_at_7, r_at_8, r_at_9, r_at_10, r_at_11, r_at_12, r_at_13, r_at_14, r_at_15, r_at_16, r_at_17, r_set_1, r_set_2, r_set_3, r_set_4, r_set_5, r_set_6, r_set_7, r_set_8, r_set_9, r_set_10, r_set_11, r_set_12, r_set_13, r_set_14, r_set_15, r_set_16, r_set_17, r_set_f, r_set_n, r_g_0, r_g_1, r_g_2, r_g_3, r_g_4, r_g_5, r_g_6, r_g_7, r_g_8, r_g_9, r_g_10, r_g_11, r_g_12, r_g_13, r_g_14, r_g_15, r_g_16, r_g_17, r_g_18, r_olen, Nat.zero_le, Nat.not_lt_zero, if_true, if_false, m1_lt, m1_ge, mm_inT, pk_mul, nI_add, mm_in_nI, mm_cl_nI, nI_eq, nI_ltI, nI_leI, ↓reduceIte, Nat.add_zero, Nat.reduceLeDiff, oI_some, oI_none, m1_lt, nI_lt0, Rf_fail_eq, Rf_out_eq, eq_self, not_true_eq_false, not_false_eq_true, Nat.reduceEqDiff, Nat.reduceLT, ne_eq, or_true, true_or, or_false, false_or, decide_true, decide_false, Bool.true_eq_false, Bool.false_eq_true, b2i_ne, Rf_nodeOf_eq hR.f, hn, hsu, hsup, hq, hel.2.1, hjl2, hq2]
theorem opR_put (hW : WF T σ) (hR : RRel σ ρ) {h i v : Int32} : opR X (d + 6) rm ρ M 105 [.int h, .int i, .int v] (sp_put σ h i v) := by
  have h40 := hW.n40
  cases hn : ndo σ h with
  | none =>
    refine opR.no hR 1 (by simp only [sp_put, hn]) fun Q => ?_
    simp (disch := omega) only [e_105, w_105_0, w_105_1, w_105_2, w_105_5, w_105_6, w_105_7, w_105_10, w_105_12, w_105_14, w_105_17, w_105_18, w_105_19, w_105_22, w_105_23, w_105_24, w_105_26, w_105_27, w_105_30, w_105_33, w_105_34, w_105_35, w_105_38, w_105_39, w_105_40, w_105_42, w_105_45, w_105_48, w_105_49, w_105_50, w_105_53, w_105_54, w_105_55, w_105_56, w_105_57, w_105_60, w_105_62, w_105_63, w_105_66, w_105_69, w_105_70, w_105_71, w_105_74, w_105_75, w_105_76, w_105_79, w_105_81, w_105_82, w_105_84, w_105_87, w_105_88, w_105_89, w_105_91, w_105_92, w_105_93, w_105_96, w_105_97, w_105_98, w_105_99, w_105_100, w_105_103, w_105_105, w_105_107, w_105_108, w_105_109, w_105_110, w_105_111, mm_k_none, mm_k_int, mm_k_ref, mm_k_null, mm_K_inl, mm_tl_some, mm_tl_none, mm_fg_ok, mm_rc_ok, mm_fp_ok, mm_ai_ok, mm_si_ok, mm_az_ok, mm_sz_ok, z01, z11, zb, b2i_t, b2i_f, true_and, and_true, r_at, r_at_1, r_at_2, r_at_3, r_at_4, r_at_5, r_at_6, r_at_7, r_at_8, r_at_9, r_at_10, r_at_11, r_at_12, r_at_13, r_at_14, r_at_15, r_at_16, r_at_17, r_set_1, r_set_2, r_set_3, r_set_4, r_set_5, r_set_6, r_set_7, r_set_8, r_set_9, r_set_10, r_set_11, r_set_12, r_set_13, r_set_14, r_set_15, r_set_16, r_set_17, r_set_f, r_set_n, r_g_0, r_g_1, r_g_2, r_g_3, r_g_4, r_g_5, r_g_6, r_g_7, r_g_8, r_g_9, r_g_10, r_g_11, r_g_12, r_g_13, r_g_14, r_g_15, r_g_16, r_g_17, r_g_18, r_olen, Nat.zero_le, Nat.not_lt_zero, if_true, if_false, m1_lt, m1_ge, mm_inT, pk_mul, nI_add, mm_in_nI, mm_cl_nI, nI_eq, nI_ltI, nI_leI, ↓reduceIte, Nat.add_zero, Nat.reduceLeDiff, oI_some, oI_none, m1_lt, nI_lt0, Rf_fail_eq, Rf_out_eq, eq_self, not_true_eq_false, not_false_eq_true, Nat.reduceEqDiff, Nat.reduceLT, ne_eq, or_true, true_or, or_false, false_or, decide_true, decide_false, Bool.true_eq_false, Bool.false_eq_true, b2i_ne, Rf_nodeOf_eq hR.f, hn]
  | some n =>
    have hlt := ndo_lt hW hn
    have h72 := El_72 hW hlt
    have hsu := fun Q => Rf_supported_eq (X := X) (d := d + 4) (rm := rm) (ρ := (nI 0, ρ.2.1, ρ.2.2)) (M := M) (Q := Q) hW hR.f.no (w := 2) (by decide) hlt
    cases hsup : sup σ 2 n with
    | false =>
      refine opR.no hR 2 (by simp only [sp_put, hn, hsup, if_true]) fun Q => ?_
      simp (disch := omega) only [e_105, w_105_0, w_105_1, w_105_2, w_105_5, w_105_6, w_105_7, w_105_10, w_105_12, w_105_14, w_105_17, w_105_18, w_105_19, w_105_22, w_105_23, w_105_24, w_105_26, w_105_27, w_105_30, w_105_33, w_105_34, w_105_35, w_105_38, w_105_39, w_105_40, w_105_42, w_105_45, w_105_48, w_105_49, w_105_50, w_105_53, w_105_54, w_105_55, w_105_56, w_105_57, w_105_60, w_105_62, w_105_63, w_105_66, w_105_69, w_105_70, w_105_71, w_105_74, w_105_75, w_105_76, w_105_79, w_105_81, w_105_82, w_105_84, w_105_87, w_105_88, w_105_89, w_105_91, w_105_92, w_105_93, w_105_96, w_105_97, w_105_98, w_105_99, w_105_100, w_105_103, w_105_105, w_105_107, w_105_108, w_105_109, w_105_110, w_105_111, mm_k_none, mm_k_int, mm_k_ref, mm_k_null, mm_K_inl, mm_tl_some, mm_tl_none, mm_fg_ok, mm_rc_ok, mm_fp_ok, mm_ai_ok, mm_si_ok, mm_az_ok, mm_sz_ok, z01, z11, zb, b2i_t, b2i_f, true_and, and_true, r_at, r_at_1, r_at_2, r_at_3, r_at_4, r_at_5, r_at_6, r_at_7, r_at_8, r_at_9, r_at_10, r_at_11, r_at_12, r_at_13, r_at_14, r_at_15, r_at_16, r_at_17, r_set_1, r_set_2, r_set_3, r_set_4, r_set_5, r_set_6, r_set_7, r_set_8, r_set_9, r_set_10, r_set_11, r_set_12, r_set_13, r_set_14, r_set_15, r_set_16, r_set_17, r_set_f, r_set_n, r_g_0, r_g_1, r_g_2, r_g_3, r_g_4, r_g_5, r_g_6, r_g_7, r_g_8, r_g_9, r_g_10, r_g_11, r_g_12, r_g_13, r_g_14, r_g_15, r_g_16, r_g_17, r_g_18, r_olen, Nat.zero_le, Nat.not_lt_zero, if_true, if_false, m1_lt, m1_ge, mm_inT, pk_mul, nI_add, mm_in_nI, mm_cl_nI, nI_eq, nI_ltI, nI_leI, ↓reduceIte, Nat.add_zero, Nat.reduceLeDiff, oI_some, oI_none, m1_lt, nI_lt0, Rf_fail_eq, Rf_out_eq, eq_self, not_true_eq_false, not_false_eq_true, Nat.reduceEqDiff, Nat.reduceLT, ne_eq, or_true, true_or, or_false, false_or, decide_true, decide_false, Bool.true_eq_false, Bool.false_eq_true, b2i_ne, Rf_nodeOf_eq hR.f, hn, hsu, hsup]
    | true =>
      by_cases hs : stale σ n = true
      · obtain ⟨f, hq⟩ := Rf_show_no (X := X) (d := d) (rm := rm) (M := M) (ρ := (nI 0, ρ.2.1, ρ.2.2)) hW hR.f hlt hs
        refine opR.no ((hR.f (c := nI 0)).s (f := f)) 3 (by simp only [sp_put, hn, hsup, Bool.true_eq_false, if_false, if_pos hs]) fun Q => ?_
        simp (disch := omega) only [e_105, w_105_0, w_105_1, w_105_2, w_105_5, w_105_6, w_105_7, w_105_10, w_105_12, w_105_14, w_105_17, w_105_18, w_105_19, w_105_22, w_105_23, w_105_24, w_105_26, w_105_27, w_105_30, w_105_33, w_105_34, w_105_35, w_105_38, w_105_39, w_105_40, w_105_42, w_105_45, w_105_48, w_105_49, w_105_50, w_105_53, w_105_54, w_105_55, w_105_56, w_105_57, w_105_60, w_105_62, w_105_63, w_105_66, w_105_69, w_105_70, w_105_71, w_105_74, w_105_75, w_105_76, w_105_79, w_105_81, w_105_82, w_105_84, w_105_87, w_105_88, w_105_89, w_105_91, w_105_92, w_105_93, w_105_96, w_105_97, w_105_98, w_105_99, w_105_100, w_105_103, w_105_105, w_105_107, w_105_108, w_105_109, w_105_110, w_105_111, mm_k_none, mm_k_int, mm_k_ref, mm_k_null, mm_K_inl, mm_tl_some, mm_tl_none, mm_fg_ok, mm_rc_ok, mm_fp_ok, mm_ai_ok, mm_si_ok, mm_az_ok, mm_sz_ok, z01, z11, zb, b2i_t, b2i_f, true_and, and_true, r_at, r_at_1, r_at_2, r_at_3, r_at_4, r_at_5, r_at_6, r_at_7, r_at_8, r_at_9, r_at_10, r_at_11, r_at_12, r_at_13, r_at_14, r_at_15, r_at_16, r_at_17, r_set_1, r_set_2, r_set_3, r_set_4, r_set_5, r_set_6, r_set_7, r_set_8, r_set_9, r_set_10, r_set_11, r_set_12, r_set_13, r_set_14, r_set_15, r_set_16, r_set_17, r_set_f, r_set_n, r_g_0, r_g_1, r_g_2, r_g_3, r_g_4, r_g_5, r_g_6, r_g_7, r_g_8, r_g_9, r_g_10, r_g_11, r_g_12, r_g_13, r_g_14, r_g_15, r_g_16, r_g_17, r_g_18, r_olen, Nat.zero_le, Nat.not_lt_zero, if_true, if_false, m1_lt, m1_ge, mm_inT, pk_mul, nI_add, mm_in_nI, mm_cl_nI, nI_eq, nI_ltI, nI_leI, ↓reduceIte, Nat.add_zero, Nat.reduceLeDiff, oI_some, oI_none, m1_lt, nI_lt0, Rf_fail_eq, Rf_out_eq, eq_self, not_true_eq_false, not_false_eq_true, Nat.reduceEqDiff, Nat.reduceLT, ne_eq, or_true, true_or, or_false, false_or, decide_true, decide_false, Bool.true_eq_false, Bool.false_eq_true, b2i_ne, Rf_nodeOf_eq hR.f, hn, hsu, hsup, hq]
      · have hs' : stale σ n = false := by simpa using hs
        obtain ⟨ρ1, h1, h2, h3, hq⟩ := Rf_show_yes (X := X) (d := d) (rm := rm) (M := M) (ρ := (nI 0, ρ.2.1, ρ.2.2)) hW hR.f hlt hs'
        have hel := h2 n (rc_refl hW hlt)
        have R1 := (hR.f (c := nI 0)).same h1
        by_cases hi : i < nI 0 ∨ ¬ i < nI (El σ n).length
        · refine opR.no R1 4 (by simp only [sp_put, hn, hsup, Bool.true_eq_false, if_false, if_neg hs, if_pos hi]) fun Q => ?_
          simp (disch := omega) only [e_105, w_105_0, w_105_1, w_105_2, w_105_5, w_105_6, w_105_7, w_105_10, w_105_12, w_105_14, w_105_17, w_105_18, w_105_19, w_105_22, w_105_23, w_105_24, w_105_26, w_105_27, w_105_30, w_105_33, w_105_34, w_105_35, w_105_38, w_105_39, w_105_40, w_105_42, w_105_45, w_105_48, w_105_49, w_105_50, w_105_53, w_105_54, w_105_55, w_105_56, w_105_57, w_105_60, w_105_62, w_105_63, w_105_66, w_105_69, w_105_70, w_105_71, w_105_74, w_105_75, w_105_76, w_105_79, w_105_81, w_105_82, w_105_84, w_105_87, w_105_88, w_105_89, w_105_91, w_105_92, w_105_93, w_105_96, w_105_97, w_105_98, w_105_99, w_105_100, w_105_103, w_105_105, w_105_107, w_105_108, w_105_109, w_105_110, w_105_111, mm_k_none, mm_k_int, mm_k_ref, mm_k_null, mm_K_inl, mm_tl_some, mm_tl_none, mm_fg_ok, mm_rc_ok, mm_fp_ok, mm_ai_ok, mm_si_ok, mm_az_ok, mm_sz_ok, z01, z11, zb, b2i_t, b2i_f, true_and, and_true, r_at, r_at_1, r_at_2, r_at_3, r_at_4, r_at_5, r_at_6, r_at_7, r_at_8, r_at_9, r_at_10, r_at_11, r_at_12, r_at_13, r_at_14, r_at_15, r_at_16, r_at_17, r_set_1, r_set_2, r_set_3, r_set_4, r_set_5, r_set_6, r_set_7, r_set_8, r_set_9, r_set_10, r_set_11, r_set_12, r_set_13, r_set_14, r_set_15, r_set_16, r_set_17, r_set_f, r_set_n, r_g_0, r_g_1, r_g_2, r_g_3, r_g_4, r_g_5, r_g_6, r_g_7, r_g_8, r_g_9, r_g_10, r_g_11, r_g_12, r_g_13, r_g_14, r_g_15, r_g_16, r_g_17, r_g_18, r_olen, Nat.zero_le, Nat.not_lt_zero, if_true, if_false, m1_lt, m1_ge, mm_inT, pk_mul, nI_add, mm_in_nI, mm_cl_nI, nI_eq, nI_ltI, nI_leI, ↓reduceIte, Nat.add_zero, Nat.reduceLeDiff, oI_some, oI_none, m1_lt, nI_lt0, Rf_fail_eq, Rf_out_eq, eq_self, not_true_eq_false, not_false_eq_true, Nat.reduceEqDiff, Nat.reduceLT, ne_eq, or_true, true_or, or_false, false_or, decide_true, decide_false, Bool.true_eq_false, Bool.false_eq_true, b2i_ne, Rf_nodeOf_eq hR.f, hn, hsu, hsup, hq, hel.2.1, hi]
        · obtain ⟨j, hj, rfl⟩ := nI_of' (fun z => hi (Or.inl z))
          have hjl : j < (El σ n).length := by
            refine Nat.lt_of_not_le fun z => hi (Or.inr (nI_nlt z hj))
          obtain ⟨l, hlo⟩ := sup_lo hW (by decide) n hlt hsup
          have hl8 := lo_N hW hlt hlo
          have hl320 : l < 320 := by omega
          have hi2 : j < (El σ n).length + (if false = true then 1 else 0) := by rw [if_neg (by decide)]; omega
          have hd := dn_lt hW (ins := false) n hlt hlo hs' j hi2
          rw [if_neg (by decide), Nat.add_zero] at hd
          have h24 := hW.s24 l
          have hdown := fun Q => Rf_down_eq (X := X) (d := d + 4) (rm := rm) (M := M) (Q := Q) hW R1 hlt hs' h2 hi2
          have hlist := fun Q => Rf_listOf_eq (X := X) (d := d + 3) (rm := rm) (M := M) (Q := Q) hW R1.no hlt
          rw [hlo, oI_some] at hlist
          rw [b2i_f] at hdown
          have e : (El σ n).getD (nI j).toNatClampNeg 0 = (El σ n)[j] := by rw [nI_clamp hj]; simp [hjl]
          have esp : sp_put σ h (nI j) v = (0, (El σ n)[j], setS σ l (setAt (sS σ l) (dn σ false n j) v)) := by
            simp only [sp_put, hn, hsup, Bool.true_eq_false, if_false, if_neg hs, if_neg hi, hlo]
            rw [e, nI_clamp hj]
          have hsl := setAt_len (L := sS σ l) (v := v) hd
          refine opR.mk (ρ' := r_put ρ1 10 (upd (ρ1.2.2 10) (24 * l + dn σ false n j) v)) esp ?_ h1.1 fun Q => ?_
          · refine ⟨R1.1, fun q hq => ?_, fun q hq => ?_, fun q hq => ?_, fun q hq => ?_⟩
            · rw [r_put_ne (by decide)]; exact R1.2.1 q hq
            · rw [r_put_ne (show (2 : Nat) ≠ 10 by decide), r_put_ne (show (3 : Nat) ≠ 10 by decide), r_put_ne (show (4 : Nat) ≠ 10 by decide), r_put_ne (show (5 : Nat) ≠ 10 by decide), r_put_ne (show (6 : Nat) ≠ 10 by decide), r_put_ne (show (7 : Nat) ≠ 10 by decide), r_put_ne (show (8 : Nat) ≠ 10 by decide), r_put_ne (show (9 : Nat) ≠ 10 by decide)]
              exact R1.2.2.1 q hq
            · rw [r_put_ne (show (11 : Nat) ≠ 10 by decide), r_put_ne (show (12 : Nat) ≠ 10 by decide), r_put_at]
              obtain ⟨q1, q2, q3⟩ := R1.2.2.2.1 q hq
              show _ = nI (ud (sS σ) l (setAt (sS σ l) (dn σ false n j) v) q).length ∧ _ ∧ ∀ i (hi : i < (ud (sS σ) l (setAt (sS σ l) (dn σ false n j) v) q).length), upd (ρ1.2.2 10) (24 * l + dn σ false n j) v (24 * q + i) = (ud (sS σ) l (setAt (sS σ l) (dn σ false n j) v) q)[i]
              by_cases eq : q = l
              · subst eq
                refine ⟨by rw [ud_at, hsl]; exact q1, q2, fun i hi => ?_⟩
                simp only [ud_at] at hi ⊢
                by_cases ei : i = dn σ false n j
                · subst ei
                  rw [up_at, setAt_eq hd]
                · rw [up_ne (by omega), setAt_ne hd ei]
                  exact q3 i (by omega)
              · refine ⟨by rw [ud_ne eq]; exact q1, q2, fun i hi => ?_⟩
                simp only [ud_ne eq] at hi ⊢
                have := hW.s24 q
                rw [up_ne (by omega)]
                exact q3 i hi
            · rw [r_put_ne (show (13 : Nat) ≠ 10 by decide), r_put_ne (show (14 : Nat) ≠ 10 by decide)]
              exact R1.2.2.2.2 q hq
          · simp (disch := omega) only [e_105, w_105_0, w_105_1, w_105_2, w_105_5, w_105_6, w_105_7, w_105_10, w_105_12, w_105_14, w_105_17, w_105_18, w_105_19, w_105_22, w_105_23, w_105_24, w_105_26, w_105_27, w_105_30, w_105_33, w_105_34, w_105_35, w_105_38, w_105_39, w_105_40, w_105_42, w_105_45, w_105_48, w_105_49, w_105_50, w_105_53, w_105_54, w_105_55, w_105_56, w_105_57, w_105_60, w_105_62, w_105_63, w_105_66, w_105_69, w_105_70, w_105_71, w_105_74, w_105_75, w_105_76, w_105_79, w_105_81, w_105_82, w_105_84, w_105_87, w_105_88, w_105_89, w_105_91, w_105_92, w_105_93, w_105_96, w_105_97, w_105_98, w_105_99, w_105_100, w_105_103, w_105_105, w_105_107, w_105_108, w_105_109, w_105_110, w_105_111, mm_k_none, mm_k_int, mm_k_ref, mm_k_null, mm_K_inl, mm_tl_some, mm_tl_none, mm_fg_ok, mm_rc_ok, mm_fp_ok, mm_ai_ok, mm_si_ok, mm_az_ok, mm_sz_ok, z01, z11, zb, b2i_t, b2i_f, true_and, and_true, r_at, r_at_1, r_at_2, r_at_3, r_at_4, r_at_5, r_at_6, r_at_7, r_at_8, r_at_9, r_at_10, r_at_11, r_at_12, r_at_13, r_at_14, r_at_15, r_at_16, r_at_17, r_set_1, r_set_2, r_set_3, r_set_4, r_set_5, r_set_6, r_set_7, r_set_8, r_set_9, r_set_10, r_set_11, r_set_12, r_set_13, r_set_14, r_set_15, r_set_16, r_set_17, r_set_f, r_set_n, r_g_0, r_g_1, r_g_2, r_g_3, r_g_4, r_g_5, r_g_6, r_g_7, r_g_8, r_g_9, r_g_10, r_g_11, r_g_12, r_g_13, r_g_14, r_g_15, r_g_16, r_g_17, r_g_18, r_olen, Nat.zero_le, Nat.not_lt_zero, if_true, if_false, m1_lt, m1_ge, mm_inT, pk_mul, nI_add, mm_in_nI, mm_cl_nI, nI_eq, nI_ltI, nI_leI, ↓reduceIte, Nat.add_zero, Nat.reduceLeDiff, oI_some, oI_none, m1_lt, nI_lt0, Rf_fail_eq, Rf_out_eq, eq_self, not_true_eq_false, not_false_eq_true, Nat.reduceEqDiff, Nat.reduceLT, ne_eq, or_true, true_or, or_false, false_or, decide_true, decide_false, Bool.true_eq_false, Bool.false_eq_true, b2i_ne, Rf_nodeOf_eq hR.f, hn, hsu, hsup, hq, hel.2.1, hjl, hlist, hdown, r_put_ne, hel.2.2 j hjl]
end RF19
