/-! those that stand first, and their order -/
def fol (L : List Int32) : List Int32 := L.foldl addOnce []
/-- how many stand below v -/
def bel (L : List Int32) (v : Int32) : Nat := ((fol L).filter (fun x => decide (x < v))).length
theorem mem_addOnce {acc : List Int32} {v x : Int32} : x ∈ addOnce acc v ↔ x ∈ acc ∨ x = v := by
  unfold addOnce
  split
  · rename_i h
    exact ⟨Or.inl, fun z => z.elim id (fun e => e ▸ h)⟩
  · simp
theorem mem_folA {x : Int32} : ∀ (L acc : List Int32), x ∈ L.foldl addOnce acc ↔ x ∈ acc ∨ x ∈ L
  | [], acc => by simp
  | y :: L, acc => by
    rw [List.foldl_cons, mem_folA L, mem_addOnce, List.mem_cons, or_assoc]
theorem mem_fol {x : Int32} {L : List Int32} : x ∈ fol L ↔ x ∈ L := by
  unfold fol
  rw [mem_folA]
  simp
theorem fol_snoc {L : List Int32} {v : Int32} : fol (L ++ [v]) = addOnce (fol L) v := by
  unfold fol
  rw [List.foldl_append]
  rfl
theorem fst1_none {v : Int32} : ∀ {L : List Int32}, fst1 v L = none ↔ v ∉ L
  | [] => by simp [fst1]
  | x :: xs => by
    unfold fst1
    by_cases h : x = v
    · simp [h]
    · have h2 : ¬ v = x := fun z => h z.symm
      simp [h, h2, fst1_none (L := xs)]
theorem fst1_some {v : Int32} : ∀ {L : List Int32} {k : Nat}, fst1 v L = some k → ∃ h : k < L.length, L[k] = v ∧ v ∉ L.take k
  | [], k, h => by simp [fst1] at h
  | x :: xs, k, h => by
    unfold fst1 at h
    by_cases e : x = v
    · rw [if_pos e] at h
      cases h
      exact ⟨by simp, e, by simp⟩
    · rw [if_neg e] at h
      cases z : fst1 v xs with
      | none => rw [z] at h; cases h
      | some j =>
        rw [z] at h
        cases h
        obtain ⟨h1, h2, h3⟩ := fst1_some z
        have e2 : ¬ v = x := fun z => e z.symm
        exact ⟨by simp; omega, by simpa using h2, by simp [e2, h3]⟩
theorem fst1_at {L : List Int32} {k : Nat} (hk : k < L.length) : (fst1 L[k] L = some k) ↔ L[k] ∉ L.take k := by
  constructor
  · intro h
    exact (fst1_some h).2.2
  · intro h
    cases z : fst1 L[k] L with
    | none => exact absurd (List.getElem_mem hk) (fst1_none.1 z)
    | some j =>
      obtain ⟨h1, h2, h3⟩ := fst1_some z
      rcases Nat.lt_trichotomy j k with y | y | y
      · exfalso
        apply h
        rw [List.mem_take_iff_getElem]
        exact ⟨j, by omega, h2⟩
      · rw [y]
      · exfalso
        apply h3
        rw [List.mem_take_iff_getElem]
        exact ⟨k, by omega, rfl⟩
theorem ins1_mem {v x : Int32} : ∀ {S : List Int32}, x ∈ ins1 v S ↔ x = v ∨ x ∈ S
  | [] => by simp [ins1]
  | y :: S => by
    unfold ins1
    split
    · simp only [List.mem_cons, ins1_mem (S := S)]
      exact or_left_comm
    · split
      · rename_i h
        simp [h]
      · simp
theorem ins1_srt {v : Int32} : ∀ {S : List Int32}, S.Pairwise (· < ·) → (ins1 v S).Pairwise (· < ·)
  | [], _ => by simp [ins1]
  | y :: S, h => by
    obtain ⟨h1, h2⟩ := List.pairwise_cons.1 h
    unfold ins1
    split
    · rename_i hy
      refine List.pairwise_cons.2 ⟨fun z hz => ?_, ins1_srt h2⟩
      rcases ins1_mem.1 hz with e | e
      · rw [e]; exact hy
      · exact h1 z e
    · split
      · exact h
      · rename_i hy hy2
        have hv : v < y := by
          rcases Int32.lt_or_lt_of_ne (fun z => hy2 z) with z | z
          · exact absurd z hy
          · exact z
        refine List.pairwise_cons.2 ⟨fun z hz => ?_, h⟩
        rcases List.mem_cons.1 hz with e | e
        · rw [e]; exact hv
        · exact Int32.lt_trans hv (h1 z e)
theorem ins1_in {v : Int32} : ∀ {S : List Int32}, S.Pairwise (· < ·) → v ∈ S → ins1 v S = S
  | [], _, h => by cases h
  | y :: S, h, hv => by
    obtain ⟨h1, h2⟩ := List.pairwise_cons.1 h
    unfold ins1
    rcases List.mem_cons.1 hv with e | e
    · rw [if_neg (by rw [e]; exact Int32.lt_irrefl), if_pos e.symm]
    · rw [if_pos (h1 v e), ins1_in h2 e]
theorem ins1_perm {v : Int32} : ∀ {S : List Int32}, v ∉ S → (ins1 v S).Perm (v :: S)
  | [], _ => List.Perm.refl _
  | y :: S, h => by
    rw [List.mem_cons, not_or] at h
    unfold ins1
    split
    · exact ((ins1_perm h.2).cons y).trans (List.Perm.swap v y S)
    · rw [if_neg (fun z => h.1 z.symm)]
theorem srt_folA : ∀ (L acc S : List Int32), S.Pairwise (· < ·) → S.Perm acc → (L.foldl (fun acc v => ins1 v acc) S).Pairwise (· < ·) ∧ (L.foldl (fun acc v => ins1 v acc) S).Perm (L.foldl addOnce acc)
  | [], acc, S, h, hp => ⟨h, hp⟩
  | v :: L, acc, S, h, hp => by
    rw [List.foldl_cons, List.foldl_cons]
    apply srt_folA L _ _ (ins1_srt h)
    unfold addOnce
    by_cases hv : v ∈ acc
    · rw [if_pos hv, ins1_in h (hp.mem_iff.2 hv)]
      exact hp
    · rw [if_neg hv]
      have hv2 : v ∉ S := fun z => hv (hp.mem_iff.1 z)
      refine (ins1_perm hv2).trans ((hp.cons v).trans ?_)
      exact (List.perm_append_singleton v acc).symm
theorem srt_ok (L : List Int32) : (srt L).Pairwise (· < ·) ∧ (srt L).Perm (fol L) := srt_folA L [] [] List.Pairwise.nil (List.Perm.refl _)
theorem idx_srt {v : Int32} : ∀ {S : List Int32}, S.Pairwise (· < ·) → v ∈ S → S[(S.filter (fun x => decide (x < v))).length]? = some v
  | [], _, h => by cases h
  | y :: S, h, hv => by
    obtain ⟨h1, h2⟩ := List.pairwise_cons.1 h
    rcases List.mem_cons.1 hv with e | e
    · have e2 : (y :: S).filter (fun x => decide (x < v)) = [] := by
        rw [List.filter_eq_nil_iff]
        intro x hx
        rcases List.mem_cons.1 hx with z | z
        · rw [z, e]; simp [Int32.lt_irrefl]
        · rw [e]
          have := h1 x z
          simp only [decide_eq_true_eq]
          exact fun y => Int32.lt_irrefl (Int32.lt_trans this y)
      rw [e2, e]
      rfl
    · have := h1 v e
      rw [List.filter_cons_of_pos (by simpa using this)]
      simpa using idx_srt h2 e
theorem bel_at {L : List Int32} {v : Int32} (h : v ∈ L) : (srt L)[bel L v]? = some v := by
  obtain ⟨h1, h2⟩ := srt_ok L
  have e : bel L v = ((srt L).filter (fun x => decide (x < v))).length := (h2.symm.filter _).length_eq
  rw [e]
  exact idx_srt h1 (h2.symm.mem_iff.1 (mem_fol.2 h))
theorem bel_lt {L : List Int32} {v : Int32} (h : v ∈ L) : bel L v < (srt L).length := by
  have := bel_at h
  exact (List.getElem?_eq_some_iff.1 this).1
theorem srt_len {L : List Int32} : (srt L).length = (fol L).length := (srt_ok L).2.length_eq
theorem srt_mem {L : List Int32} {x : Int32} : x ∈ srt L ↔ x ∈ L := (srt_ok L).2.mem_iff.trans mem_fol
