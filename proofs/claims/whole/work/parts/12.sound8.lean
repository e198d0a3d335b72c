/-! the abstract machine against the machine: the whole -/
theorem mm_mth_eq {o i k' : Nat} (h : mm_mth o i = some k') : Cond.methodLink (mR o) i (mm_y k') ∈ mm_WL ∧ k' < 132 := by
  unfold mm_mth at h
  obtain ⟨x, he, h2⟩ := Option.map_eq_some_iff.mp h
  have h3 := List.all_eq_true.mp mm_ML_ok x (List.mem_of_find?_eq_some he)
  have h4 := List.find?_some he
  simp only [Bool.and_eq_true, decide_eq_true_eq, beq_iff_eq] at h3 h4
  obtain ⟨a1, a2, a3, a4⟩ := x
  cases h2
  obtain ⟨rfl, rfl⟩ := h4
  exact ⟨mm_at_in h3.1, h3.2⟩
section MS10
variable {D : va_G} {cT : Nat → ClassId} {X : Nat × Nat × (Nat → Int32)}
theorem mm_own_lt {k : Nat} (h : mm_own k < 4) : k < 132 := by
  by_cases hk : k < 132
  · exact hk
  · exfalso
    match k with
    | 132 => revert h; decide
    | 133 => revert h; decide
    | j + 134 => revert h; simp [mm_own, mm_Q]
/-- a call, and on -/
theorem mm_Go.call {n : Nat} (ih : ∀ d k pc al st M o M', mm_run X n d k pc al st M = some (o, M') → mm_Go D cT X d k pc al st M o M') {d k pc k' idx : Nat} {al : List (Option Value)} {st : List Value} {M M' : mm_M} {o : mm_Out} (hm : mm_mth (mm_own k) idx = some k')
    (h : mm_call (mm_run X n) d k pc k' al st M = some (o, M'))
    (hkind : (decode (mm_b k) pc = .ok (.invokestatic idx, 3) ∧ (mm_kd k' = 0 ∨ mm_kd k' = 3)) ∨ (decode (mm_b k) pc = .ok (.invokevirtual idx, 3) ∧ mm_kd k' = 1 ∧ ∃ (b : Nat) (fs : List Value), st[mm_na k' - 1]? = some (.ref b) ∧ M.2.2 b = some (.inr (mm_own k', fs))) ∨ (decode (mm_b k) pc = .ok (.invokespecial idx, 3) ∧ mm_kd k' = 2 ∧ ∃ b : Nat, st[mm_na k' - 1]? = some (.ref b))) : mm_Go D cT X d k pc al st M o M' := by
  obtain ⟨hlink, hk'⟩ := mm_mth_eq hm
  obtain ⟨s1, s2, s3, s4, s5, s6, s7, s8, s9, s10, s11⟩ := mm_K_spec hk'
  unfold mm_call at h
  split at h
  · cases h
  rename_i hg
  have hd0 : ¬ d = 0 := fun z => hg (Or.inl z)
  have hlen : mm_na k' ≤ st.length := Nat.le_of_not_lt fun z => hg (Or.inr (Or.inl z))
  have hsum : mm_sum (st.drop (mm_na k')) ≤ 8 := Nat.le_of_not_lt fun z => hg (Or.inr (Or.inr (Or.inl z)))
  have hcat : (st.take (mm_na k')).all (fun v => v.category == 1) = true := by
    cases hz : (st.take (mm_na k')).all (fun v => v.category == 1) with
    | true => rfl
    | false => exact absurd (Or.inr (Or.inr (Or.inr hz))) hg
  have hcat2 : (st.take (mm_na k')).reverse.all (fun v => v.category == 1) = true := by rw [List.all_reverse]; exact hcat
  have hn2 : (st.take (mm_na k')).reverse.length = mm_na k' := by simp; omega
  have hst : (st.take (mm_na k')).reverse.reverse ++ st.drop (mm_na k') = st := by rw [List.reverse_reverse]; exact List.take_append_drop _ _
  have hrecv : ∀ b : Nat, 0 < mm_na k' → st[mm_na k' - 1]? = some (.ref b) → ∃ as, (st.take (mm_na k')).reverse = .ref b :: as := by
    intro b h0 hb
    have e1 : (st.take (mm_na k')).getLast? = some (.ref b) := by
      rw [List.getLast?_eq_getElem?, List.length_take, Nat.min_eq_left hlen, List.getElem?_take_of_lt (by omega)]
      exact hb
    rw [List.getLast?_eq_head?_reverse] at e1
    cases hz : (st.take (mm_na k')).reverse with
    | nil => rw [hz] at e1; cases e1
    | cons x as => rw [hz] at e1; cases e1; exact ⟨as, rfl⟩
  generalize hvs : (st.take (mm_na k')).reverse = vs at h hcat2 hn2 hst hrecv
  generalize hr : st.drop (mm_na k') = r at h hsum hst
  split at h
  · rename_i v M1 hrun
    have g1 := ih _ _ _ _ _ _ _ _ hrun
    have g2 := ih _ _ _ _ _ _ _ _ h
    refine ⟨g1.1.trans g2.1, ?_⟩
    intro p l e R s m args below meth c H locs cells slots mc ms ls Qc XC free A F hL hI hS hA hfr hc hs hmc hms hd h64 hq hx
    obtain ⟨a1, a2, a3⟩ := g1.1
    obtain ⟨b1, b2, b3⟩ := g2.1
    have hkind2 : (decode (mm_b k) pc = .ok (.invokestatic idx, 3) ∧ (mm_kd k' = 0 ∨ mm_kd k' = 3)) ∨ (decode (mm_b k) pc = .ok (.invokevirtual idx, 3) ∧ mm_kd k' = 1 ∧ ∃ (b : Nat) (as : List Value) (fs : List Value), vs = .ref b :: as ∧ M.2.2 b = some (.inr (mm_own k', fs)) ∧ mm_own k' < 4) ∨ (decode (mm_b k) pc = .ok (.invokespecial idx, 3) ∧ mm_kd k' = 2 ∧ (∃ (b : Nat) (as : List Value), vs = .ref b :: as) ∧ ∃ v', (Sum.inl v : mm_Out) = .inl v') := by
      rcases hkind with z | ⟨z1, z2, b, fs, z3, z4⟩ | ⟨z1, z2, b, z3⟩
      · exact Or.inl z
      · obtain ⟨as, has⟩ := hrecv b (s3 (by omega)).2 z3
        obtain ⟨rr, g3, -⟩ := hI.2 b _ z4
        exact Or.inr (Or.inl ⟨z1, z2, b, as, fs, has, z4, (List.getElem?_eq_some_iff.mp g3).1⟩)
      · obtain ⟨as, has⟩ := hrecv b (s3 (by omega)).2 z3
        exact Or.inr (Or.inr ⟨z1, z2, ⟨b, as, has⟩, v, rfl⟩)
    have hrr := mm_callrun (e := e) (R := R) (pc := pc) (meth := meth) (below := below) (cells := cells) (slots := slots) F hL.1 hI hS hA hk' g1 hcat2 hn2 hsum (by omega) (by omega) (by omega) (by omega) hlink hkind2
    rw [← hst]
    refine mm_after hrr hS hA (fun v2 H1 locs1 ho hI1 hS1 => ?_) (fun x ce q9 H1 locs1 ho _ _ _ _ _ => by cases ho)
    cases ho
    exact g2.2 F hL hI1 hS1 (fun q z => hA q (a3 q z)) hfr (by omega) (by omega) hmc hms hd h64 hq hx
  · rename_i x M1 hrun
    have g1 := ih _ _ _ _ _ _ _ _ hrun
    have hk2 : ¬ mm_kd k' = 2 := by
      intro z
      rw [if_pos z] at h
      cases h
    rw [if_neg hk2] at h
    have hle : mm_le M M' ∧ M1 = M' := by
      split at h
      · obtain ⟨w, -, hw⟩ := Option.map_eq_some_iff.mp h
        cases hw
        exact ⟨g1.1, rfl⟩
      · split at h
        · cases h
        · cases h; exact ⟨g1.1, rfl⟩
    obtain ⟨hle, rfl⟩ := hle
    refine ⟨hle, ?_⟩
    intro p l e R s m args below meth c H locs cells slots mc ms ls Qc XC free A F hL hI hS hA hfr hc hs hmc hms hd h64 hq hx
    have hkind2 : (decode (mm_b k) pc = .ok (.invokestatic idx, 3) ∧ (mm_kd k' = 0 ∨ mm_kd k' = 3)) ∨ (decode (mm_b k) pc = .ok (.invokevirtual idx, 3) ∧ mm_kd k' = 1 ∧ ∃ (b : Nat) (as : List Value) (fs : List Value), vs = .ref b :: as ∧ M.2.2 b = some (.inr (mm_own k', fs)) ∧ mm_own k' < 4) ∨ (decode (mm_b k) pc = .ok (.invokespecial idx, 3) ∧ mm_kd k' = 2 ∧ (∃ (b : Nat) (as : List Value), vs = .ref b :: as) ∧ ∃ v', (Sum.inr x : mm_Out) = .inl v') := by
      rcases hkind with z | ⟨z1, z2, b, fs, z3, z4⟩ | ⟨z1, z2, b, z3⟩
      · exact Or.inl z
      · obtain ⟨as, has⟩ := hrecv b (s3 (by omega)).2 z3
        obtain ⟨rr, g3, -⟩ := hI.2 b _ z4
        exact Or.inr (Or.inl ⟨z1, z2, b, as, fs, has, z4, (List.getElem?_eq_some_iff.mp g3).1⟩)
      · exact absurd z2 hk2
    have hrr := mm_callrun (e := e) (R := R) (pc := pc) (meth := meth) (below := below) (cells := cells) (slots := slots) F hL.1 hI hS hA hk' g1 hcat2 hn2 hsum (by omega) (by omega) (by omega) (by omega) hlink hkind2
    rw [← hst]
    refine mm_after hrr hS hA (fun v2 H1 locs1 ho _ _ => by cases ho) (fun x2 ce q9 H1 locs1 ho hI1 hS1 hce hcv hcl => ?_)
    cases ho
    have hf1 : ∀ z ∈ locs1, free z.base := fun z hz => hfr _ (hS1.2.2 z hz)
    by_cases h3 : mm_kd k = 3
    · rw [if_pos h3] at h
      obtain ⟨w, hw, hw2⟩ := Option.map_eq_some_iff.mp h
      cases hw2
      exact mm_caught F hL hw hce hcv hcl hf1 hc hs (fun t ht hW => hq t _ rfl (by rw [ht]; exact hI1) hW (hS1.F ht))
    · rw [if_neg h3] at h
      split at h
      · cases h
      · cases h
        obtain ⟨-, -, -, -, -, -, -, hlk, -, -, -, ht0, -⟩ := F
        exact vx_out (fun z hz => absurd hz (fun z2 => ht0 h3 z z2)) hlk hce hcv hcl (fun t ht hal => hx t x rfl (by rw [ht]; exact hI1) hal (hS1.F ht)) hf1 hc hs
  · cases h
end MS10
