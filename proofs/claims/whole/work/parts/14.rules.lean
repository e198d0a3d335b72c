/-! rewriting rules of the abstract machine -/
section MR
variable {X : Nat × Nat × (Nat → Int32)} {d k pc len : Nat} {i : Instr} {al al2 : List (Option Value)} {st st2 r : List Value} {M M2 : mm_M} {Q Q' : mm_Out → mm_M → Prop}
theorem WP_unfold (hd : decode (mm_b k) pc = .ok (i, len)) : WP X d k pc al st M Q ↔ ∃ n o M', mm_step (mm_run X n) X d k pc i len al st M = some (o, M') ∧ Q o M' := by
  unfold WP
  constructor
  · rintro ⟨n, o, M', h, hq⟩
    cases n with
    | zero => cases h
    | succ n =>
      unfold mm_run at h
      rw [hd] at h
      exact ⟨n, o, M', h, hq⟩
  · rintro ⟨n, o, M', h, hq⟩
    refine ⟨n + 1, o, M', ?_, hq⟩
    unfold mm_run
    rw [hd]
    exact h
theorem WP_to {k2 d2 pc2 : Nat} (hd : decode (mm_b k) pc = .ok (i, len)) (h : ∀ rec, mm_step rec X d k pc i len al st M = rec d2 k2 pc2 al2 st2 M2) : WP X d k pc al st M Q = WP X d2 k2 pc2 al2 st2 M2 Q := by
  refine propext ((WP_unfold hd).trans ?_)
  simp only [h]
  rfl
theorem WP_no (hd : decode (mm_b k) pc = .ok (i, len)) (h : ∀ rec, mm_step rec X d k pc i len al st M = none) : WP X d k pc al st M Q = False := by
  refine propext ((WP_unfold hd).trans ?_)
  simp only [h]
  constructor
  · rintro ⟨n, o, M', h, -⟩; cases h
  · exact False.elim
theorem WP_end {o : mm_Out} (hd : decode (mm_b k) pc = .ok (i, len)) (h : ∀ rec, mm_step rec X d k pc i len al st M = some (o, M2)) : WP X d k pc al st M Q = Q o M2 := by
  refine propext ((WP_unfold hd).trans ?_)
  simp only [h]
  constructor
  · rintro ⟨n, o, M', h, hq⟩; cases h; exact hq
  · intro hq; exact ⟨0, _, _, rfl, hq⟩
theorem mm_call_mono {rec rec' : Nat → Nat → Nat → List (Option Value) → List Value → mm_M → Option (mm_Out × mm_M)} (hle : ∀ d k pc al st M z, rec d k pc al st M = some z → rec' d k pc al st M = some z) {k' : Nat} {z : mm_Out × mm_M} (h : mm_call rec d k pc k' al st M = some z) : mm_call rec' d k pc k' al st M = some z := by
  unfold mm_call at h ⊢
  split at h
  · cases h
  · rename_i hg
    rw [if_neg hg]
    cases hr : rec (d - 1) k' 0 (mm_arg k' (st.take (mm_na k')).reverse) [] M with
    | none => rw [hr] at h; cases h
    | some w =>
      rw [hle _ _ _ _ _ _ _ hr]
      rw [hr] at h
      obtain ⟨o, M1⟩ := w
      cases o with
      | inl v => exact hle _ _ _ _ _ _ _ h
      | inr x => exact h
theorem mm_heap_mono {rec rec' : Nat → Nat → Nat → List (Option Value) → List Value → mm_M → Option (mm_Out × mm_M)} (hle : ∀ d k pc al st M z, rec d k pc al st M = some z → rec' d k pc al st M = some z) {z : mm_Out × mm_M} (h : mm_heap rec X d k pc i len al st M = some z) : mm_heap rec' X d k pc i len al st M = some z := by
  unfold mm_heap at h ⊢
  split at h <;> (try dsimp only) <;> (repeat' split at h) <;> first | (cases h; done) | (simp only [*, if_true, if_false, reduceIte, not_false_eq_true, not_true_eq_false, and_self, or_self, true_and, and_true, true_or, or_true, false_or, or_false]; first | exact hle _ _ _ _ _ _ _ h | exact mm_call_mono hle h | exact h) | skip
  all_goals first | exact hle _ _ _ _ _ _ _ h | exact h | (rw [if_pos (by assumption)]; first | exact h | exact hle _ _ _ _ _ _ _ h)
theorem mm_step_mono {rec rec' : Nat → Nat → Nat → List (Option Value) → List Value → mm_M → Option (mm_Out × mm_M)} (hle : ∀ d k pc al st M z, rec d k pc al st M = some z → rec' d k pc al st M = some z) {z : mm_Out × mm_M} (h : mm_step rec X d k pc i len al st M = some z) : mm_step rec' X d k pc i len al st M = some z := by
  unfold mm_step at h ⊢
  cases h1 : mm_pu i len st with
  | some st' => rw [h1] at h; exact hle _ _ _ _ _ _ _ h
  | none =>
    rw [h1] at h
    dsimp only at h ⊢
    cases h2 : mm_br pc i len st with
    | some w => rw [h2] at h; exact hle _ _ _ _ _ _ _ h
    | none =>
      rw [h2] at h
      dsimp only at h ⊢
      cases h3 : mm_ld i len with
      | some w =>
        obtain ⟨n, t⟩ := w
        rw [h3] at h
        dsimp only at h ⊢
        cases h4 : al[n]? with
        | none => rw [h4] at h; cases h
        | some x =>
          rw [h4] at h
          cases x with
          | none => cases h
          | some v =>
            dsimp only at h ⊢
            split at h
            · rename_i hg; rw [if_pos hg]; exact hle _ _ _ _ _ _ _ h
            · cases h
      | none =>
        rw [h3] at h
        dsimp only at h ⊢
        cases h4 : mm_so i len with
        | some w =>
          obtain ⟨n, t⟩ := w
          rw [h4] at h
          dsimp only at h ⊢
          cases st with
          | nil => cases h
          | cons v r =>
            dsimp only at h ⊢
            split at h
            · rename_i hg; rw [if_pos hg]; exact hle _ _ _ _ _ _ _ h
            · cases h
        | none =>
          rw [h4] at h
          exact mm_heap_mono hle h
theorem mm_run_mono : ∀ (n : Nat) (d k pc : Nat) (al : List (Option Value)) (st : List Value) (M : mm_M) (z : mm_Out × mm_M), mm_run X n d k pc al st M = some z → mm_run X (n + 1) d k pc al st M = some z := by
  intro n
  induction n with
  | zero => intro d k pc al st M z h; cases h
  | succ n ih =>
    intro d k pc al st M z h
    unfold mm_run at h ⊢
    cases hd : decode (mm_b k) pc with
    | error _ => rw [hd] at h; cases h
    | ok w =>
      obtain ⟨i, len⟩ := w
      rw [hd] at h
      exact mm_step_mono ih h
theorem mm_run_le {n n' : Nat} (hn : n ≤ n') {z : mm_Out × mm_M} (h : mm_run X n d k pc al st M = some z) : mm_run X n' d k pc al st M = some z := by
  induction hn with
  | refl => exact h
  | step _ ih => exact mm_run_mono _ _ _ _ _ _ _ _ ih
theorem WP.mono (h : WP X d k pc al st M Q) (hq : ∀ o M', Q o M' → Q' o M') : WP X d k pc al st M Q' := by
  obtain ⟨n, o, M', h1, h2⟩ := h
  exact ⟨n, o, M', h1, hq _ _ h2⟩
end MR
