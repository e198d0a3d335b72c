/-! the law: its start -/
section LW8
variable {X : Nat × Nat × (Nat → Int32)} {d rm : Nat} {Λ : Lay} {σ : Sg} {β : CS} {ρ : RS} {B : mm_M} {Q : mm_Out → mm_M → Prop}
theorem gM_push (h : Λ.2 B.1 = none) (h2 : rm + 18 ≤ B.1) {n : Nat} {o : mm_O} : mm_push (gM Λ σ β rm ρ B) n o = gM Λ σ β rm ρ (mm_push B n o) := by
  have e : ∀ r, (if r = B.1 then some o else (match Λ.2 r with
    | some t => some (c_cell Λ σ β t.1 t.2)
    | none => if rm ≤ r ∧ r < rm + 18 then some (r_cell rm ρ (r - rm)) else B.2.2 r)) = (match Λ.2 r with
    | some t => some (c_cell Λ σ β t.1 t.2)
    | none => if rm ≤ r ∧ r < rm + 18 then some (r_cell rm ρ (r - rm)) else if r = B.1 then some o else B.2.2 r) := by
    intro r
    by_cases z : r = B.1
    · subst z
      rw [if_pos rfl, h]
      simp only
      rw [if_neg (by omega), if_pos trivial]
    · rw [if_neg z]
      cases Λ.2 r with
      | some t => rfl
      | none =>
        simp only
        by_cases y : rm ≤ r ∧ r < rm + 18
        · rw [if_pos y, if_pos y]
        · rw [if_neg y, if_neg y, if_neg z]
  show (B.1 + 1, B.2.1 + n, fun r => if r = B.1 then some o else (match Λ.2 r with
    | some t => some (c_cell Λ σ β t.1 t.2)
    | none => if rm ≤ r ∧ r < rm + 18 then some (r_cell rm ρ (r - rm)) else B.2.2 r)) = _
  rw [funext e]
  rfl
def lwB0 (hs : Nat) : mm_M := mm_push (mm_push (hs + 22, 12467, fun _ => none) 1 (.inl (3, 1, .inr (.inl (fun _ => 0))))) 1 (.inl (4, 1, .inr (.inr (.inr (.inl (fun _ => 0))))))
theorem lay0_no {hs q : Nat} (h : hs + 4 ≤ q) : (lay0 hs).2 q = none := if_neg (by omega)
theorem lw_D0 {hs sa : Nat} {B : mm_M} (h : sa < hs) (hB : hs + 4 ≤ B.1) : lw_D (lay0 hs) (hs + 4) (hs + 22) (hs + 23) sa B := by
  intro q t z
  by_cases y : hs ≤ q ∧ q < hs + 4
  · omega
  · have : (lay0 hs).2 q = none := if_neg y
    rw [this] at z
    cases z
theorem st_A {M : mm_M} {s : Nat} : WP X (d + 18) 133 0 [some (.ref s), none, none, none, none, none, none, none, none] [] M Q = WP X (d + 18) 133 8 [some (.ref s), some (.ref M.1), none, none, none, none, none, none, none] [] (mm_C (lay0 M.1) σ0 β0 (M.1 + 4, M.2.1 + 158, M.2.2)) Q := by
  have qi := fun Q => Lc_init_eq (X := X) (d := d + 16) (M := M) (Q := Q)
  simp (disch := omega) only [w_133_0, w_133_3, w_133_4, w_133_7, mm_k_none, mm_k_int, mm_k_ref, mm_k_null, mm_K_inl, mm_tl_some, mm_tl_none, mm_fg_ok, mm_rc_ok, mm_fp_ok, mm_ai_ok, mm_si_ok, mm_az_ok, mm_sz_ok, z01, z11, zb, b2i_t, b2i_f, true_and, and_true, qi]
theorem st_B {M : mm_M} {s x : Nat} : WP X (d + 18) 133 8 [some (.ref s), some (.ref x), none, none, none, none, none, none, none] [] M Q = WP X (d + 18) 133 16 [some (.ref s), some (.ref x), some (.ref M.1), none, none, none, none, none, none] [] (mm_R M.1 ρ0 (M.1 + 18, M.2.1 + 12309, M.2.2)) Q := by
  have qr := fun Q => Rf_init_eq (X := X) (d := d + 16) (M := M) (Q := Q)
  simp (disch := omega) only [w_133_8, w_133_11, w_133_12, w_133_15, mm_k_none, mm_k_int, mm_k_ref, mm_k_null, mm_K_inl, mm_tl_some, mm_tl_none, mm_fg_ok, mm_rc_ok, mm_fp_ok, mm_ai_ok, mm_si_ok, mm_az_ok, mm_sz_ok, z01, z11, zb, b2i_t, b2i_f, true_and, and_true, qr]
theorem st_C {M : mm_M} {s x r : Nat} : WP X (d + 18) 133 16 [some (.ref s), some (.ref x), some (.ref r), none, none, none, none, none, none] [] M Q = WP X (d + 18) 133 28 [some (.ref s), some (.ref x), some (.ref r), some (.ref M.1), some (.ref (M.1 + 1)), some (.int (nI 0)), none, none, none] [] (mm_push (mm_push M 1 (.inl (3, 1, .inr (.inl (fun _ => 0))))) 1 (.inl (4, 1, .inr (.inr (.inr (.inl (fun _ => 0))))))) Q := by
  simp (disch := omega) only [w_133_16, w_133_17, w_133_19, w_133_20, w_133_21, w_133_23, w_133_25, w_133_26, mm_k_none, mm_k_int, mm_k_ref, mm_k_null, mm_K_inl, mm_tl_some, mm_tl_none, mm_fg_ok, mm_rc_ok, mm_fp_ok, mm_ai_ok, mm_si_ok, mm_az_ok, mm_sz_ok, z01, z11, zb, b2i_t, b2i_f, true_and, and_true, Nat.zero_le, Nat.not_lt_zero, if_true, if_false, m1_lt, m1_ge, mm_inT, pk_mul, nI_add, mm_in_nI, mm_cl_nI, nI_eq, nI_ltI, nI_leI, mm_cl_nI, neg_or_nn, mm_push_1]
theorem law_start {hs : Nat} (hX : X.2.1 ≤ 2560) (hsa : X.1 < hs) : ∃ M' : mm_M, hs ≤ M'.1 ∧ M'.1 ≤ hs + 5144 ∧ M'.2.1 ≤ 217269 ∧ ∀ Q, WP X (d + 18) 133 0 [some (.ref X.1), none, none, none, none, none, none, none, none] [] (hs, 0, fun _ => none) Q = Q (.inl (some (.int (nI 1)))) M' := by
  have hB : lw_B (hs + 4) (hs + 22) (hs + 23) X.1 (lwB0 hs) := by
    refine ⟨by omega, by omega, Nat.lt_succ_self _, by omega, ?_, ⟨fun _ => 0, ?_⟩, ⟨fun _ => 0, ?_⟩⟩
    · show (if X.1 = hs + 23 then _ else if X.1 = hs + 22 then _ else none) = none
      rw [if_neg (by omega), if_neg (by omega)]
    · show (if hs + 22 = hs + 23 then _ else if hs + 22 = hs + 22 then _ else none) = _
      rw [if_neg (by omega), if_pos rfl]
    · show (if hs + 23 = hs + 23 then _ else _) = _
      rw [if_pos rfl]
  have hI : lw_I 0 hs (hs + 4) (hs + 22) (hs + 23) X.1 (lay0 hs) σ0 β0 ρ0 (lwB0 hs) := ⟨WF_0, LK_0, StRel_0, RRel_0, lw_D0 hsa (by show hs + 4 ≤ hs + 24; omega), hB, rfl⟩
  obtain ⟨M', m1, m2, m3, m4, q⟩ := lw_lp (d := d) hX (X.2.1 / 5) 0 0 none none none (lay0 hs) σ0 β0 ρ0 (lwB0 hs) (by omega) (by omega) hI
  have b1 : (lwB0 hs).1 = hs + 24 := rfl
  have b2 : (lwB0 hs).2.1 = 12469 := rfl
  refine ⟨M', by omega, by omega, by omega, fun Q => ?_⟩
  refine Eq.trans ?_ (q Q)
  have em : mm_R (hs + 4) ρ0 (mm_C (lay0 hs) σ0 β0 (hs + 22, 12467, fun _ => none)) = gM (lay0 hs) σ0 β0 (hs + 4) ρ0 (hs + 22, 12467, fun _ => none) := (gM_swap (lw_D0 hsa (by show hs + 4 ≤ hs + 22; omega))).symm
  have ep : mm_push (mm_push (gM (lay0 hs) σ0 β0 (hs + 4) ρ0 (hs + 22, 12467, fun _ => none)) 1 (.inl (3, 1, .inr (.inl (fun _ => 0))))) 1 (.inl (4, 1, .inr (.inr (.inr (.inl (fun _ => 0)))))) = gM (lay0 hs) σ0 β0 (hs + 4) ρ0 (lwB0 hs) := by
    rw [gM_push (lay0_no (by show hs + 4 ≤ hs + 22; omega)) (by show hs + 4 + 18 ≤ hs + 22; omega), gM_push (lay0_no (by show hs + 4 ≤ hs + 22 + 1; omega)) (by show hs + 4 + 18 ≤ hs + 22 + 1; omega)]
    rfl
  refine (st_A (M := (hs, 0, fun _ => none))).trans (st_B.trans (st_C.trans ?_))
  show WP X (d + 18) 133 28 [some (.ref X.1), some (.ref hs), some (.ref (hs + 4)), some (.ref (hs + 22)), some (.ref (hs + 23)), some (.int (nI 0)), none, none, none] [] (mm_push (mm_push (mm_R (hs + 4) ρ0 (mm_C (lay0 hs) σ0 β0 (hs + 22, 0 + 158 + 12309, fun _ => none))) 1 (.inl (3, 1, .inr (.inl (fun _ => 0))))) 1 (.inl (4, 1, .inr (.inr (.inr (.inl (fun _ => 0))))))) Q = _
  rw [show 0 + 158 + 12309 = 12467 from rfl, em, ep]
end LW8
