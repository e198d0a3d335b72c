/-! the abstract machine against the machine: the theorem -/
section MS11
variable {D : va_G} {cT : Nat → ClassId} {X : Nat × Nat × (Nat → Int32)}
/-- the method ends here -/
theorem mm_Go.ret {d k pc : Nat} {al : List (Option Value)} {st : List Value} {M : mm_M} {v : Option Value}
    (row : ∀ {p : Program} {l : Launch} {e : Env} {R : Room} {s : State} {m : MethodId} {args : Array Value} {below : List Frame} {meth : Method} {c : Code} {H : Heap} {locs : List Loc} {cells slots : Nat} {ls : Array Slot} {A : Nat → Prop} {free : Addr → Prop} {Qc : Array Value → State → Outcome → State → Prop},
      mm_Fx D cT X p l s m args meth c k A → (∀ z ∈ locs, free z.base) → (∀ t : State, t.heap = H → s.WarmedH t.vm → Qc args s (.returned v) t) → W p l e R s m args below meth c H locs cells slots (MQ below Qc args s cells slots free) (F0 m pc ls st)) : mm_Go D cT X d k pc al st M (.inl v) M := by
  refine ⟨mm_le.refl M, ?_⟩
  intro p l e R s m args below meth c H locs cells slots mc ms ls Qc XC free A F hL hI hS hA hfr hc hs hmc hms hd h64 hq hx
  refine W.widen (k := mc) (n := ms) (by omega) (by omega) ?_
  exact vx_ret (row F (fun z hz => hfr _ (hS.2.2 z hz)) (fun t ht hW => hq t v rfl (by rw [ht]; exact hI) hW (hS.F ht)))
theorem mm_E_ok {x : Nat} (hx : x < 5) : mm_E x = mm_E x := rfl
theorem mm_Go.throw {d k pc idx x ic : Nat} {al : List (Option Value)} {r : List Value} {M : mm_M} (ht : mm_thr (mm_own k) idx = some (x, ic)) (h6 : 6 ≤ d) (h8 : mm_sum r ≤ 8) (hk : mm_kd k < 2) (d0 : decode (mm_b k) pc = .ok (.new idx, 3)) (d3 : decode (mm_b k) (pc + 3) = .ok (.dup, 1)) (d4 : decode (mm_b k) (pc + 4) = .ok (.invokespecial ic, 3)) (d7 : decode (mm_b k) (pc + 7) = .ok (.athrow, 1)) :
    mm_Go D cT X d k pc al r M (.inr x) (mm_skip M 6) := by
  refine ⟨mm_le.skip, ?_⟩
  intro p l e R s m args below meth c H locs cells slots mc ms ls Qc XC free A F hL hI hS hA hfr hc hs hmc hms hd h64 hq hx
  obtain ⟨hxx, hb, hml, hown, hts, hK, hret, hlk, -, hst, hWd, ht0, -⟩ := F
  unfold mm_thr at ht
  obtain ⟨z, hz, hz2⟩ := Option.map_eq_some_iff.mp ht
  have h4 := List.find?_some hz
  have hmem := List.mem_of_find?_eq_some hz
  have h3 := List.all_eq_true.mp mm_EX_ok z hmem
  have h5 := List.all_eq_true.mp mm_EL_ok z hmem
  obtain ⟨z1, z2, z3, z4, z5⟩ := z
  simp only [Bool.and_eq_true, beq_iff_eq] at h4
  dsimp only at h3 h4 h5 hz2
  obtain ⟨rfl, rfl⟩ := h4
  cases hz2
  simp only [Bool.and_eq_true, decide_eq_true_eq] at h3
  obtain ⟨⟨⟨⟨⟨⟨g1, g2⟩, g3⟩, g4⟩, g5⟩, g6⟩, g7⟩ := h3
  have hat : ∀ w ∈ vx_at0 (mR (mm_own k)) ic (mm_E x) mm_two, w.before args s = true ∧ vx_ot w = true := by
    intro w hw
    have h9 := List.all_eq_true.mp g1 w hw
    simp only [Bool.and_eq_true] at h9
    refine ⟨?_, h9.1⟩
    by_cases hgw : goodWord w = true
    · have h10 := h9.2
      rw [if_pos hgw] at h10
      exact hts w (List.mem_filter.mpr ⟨of_decide_eq_true h10, hgw⟩)
    · have h10 := h9.2
      rw [if_neg hgw] at h10
      have h11 := of_decide_eq_true h10
      have h12 := hWd.2.2.2.2.2.1 w h11
      refine va_Nw.use ?_ h12
      simp only [mm_BW, List.mem_cons, List.not_mem_nil, or_false] at h11
      rcases h11 with rfl | rfl | rfl | rfl | rfl | rfl | rfl | rfl <;> rfl
  have hini : Cond.initialized (mm_E x) ∈ mm_WL := List.mem_filter.mpr ⟨g4, g7⟩
  have e1 : (mm_skip M 6).1 - M.1 = 1 := by unfold mm_skip; simp
  have e2 : (mm_skip M 6).2.1 - M.2.1 = 6 := by unfold mm_skip; simp
  rw [e1] at hc
  rw [e2] at hs
  unfold mm_sum at h8
  refine mm_throw0 hxx hb hst (own := mR (mm_own k)) (cls := mm_E x) (names := mm_two) (ik := z2) (ic := ic) (A := A) hown g2 (fun n hn => List.all_eq_true.mp g3 n hn) (hts _ (mm_at_in h5)) (hts _ hini) (fun w hw => (hat w hw).1) (fun w hw => ?_) hWd.2.2.2.1 hWd.2.2.2.2.1 hS (by rw [hml]; exact hL.1) d0 d3 d4 d7 (fun y hy => absurd hy (fun z => ht0 (by omega) y z)) (by simp [mm_two]; omega) (by simp only [mm_two, List.length_cons, List.length_nil]; omega) (by omega) (by omega) hlk (fun t hal hsz hk2 => ?_) (fun z hz => hfr _ (hS.2.2 z hz)) hc hs
  · rcases List.mem_cons.mp hw with rfl | hw
    · exact g6
    · rcases List.mem_cons.mp hw with rfl | hw
      · exact g5
      · exact (hat w hw).2
  · refine hx t _ rfl ⟨by rw [hsz, hI.1]; rfl, fun q o1 hq1 => ?_⟩ hal ⟨by rw [hsz]; have := hS.1; omega, fun q q1 q2 => ?_⟩
    · have h7 := hI.2 q o1 hq1
      exact h7.kept (hk2 q h7.lt)
    · rw [hk2 q (Nat.lt_of_lt_of_le q1 hS.1)]
      exact hS.2.1 q q1 q2
set_option maxHeartbeats 4000000 in
theorem mm_heap_ok {n : Nat} (ih : ∀ d k pc al st M o M', mm_run X n d k pc al st M = some (o, M') → mm_Go D cT X d k pc al st M o M') {d k pc : Nat} {i : Instr} {len : Nat} {al : List (Option Value)} {st : List Value} {M M' : mm_M} {o : mm_Out} (hd : decode (mm_b k) pc = .ok (i, len))
    (h : mm_heap (mm_run X n) X d k pc i len al st M = some (o, M')) : mm_Go D cT X d k pc al st M o M' := by
  unfold mm_heap at h
  split at h
  · split at h
    · rename_i x hx
      exact (ih _ _ _ _ _ _ _ _ h).of0 (fun F hL hI hS _ _ _ _ kk => mm_iinc_ok F.1 F.2.1 hd hL hx kk)
    · cases h
  · split at h
    · rename_i ci j c fs hf hM
      split at h
      · rename_i hc
        subst hc
        split at h
        · rename_i v hv
          exact (ih _ _ _ _ _ _ _ _ h).of0 (fun {p l e R s m args below meth c H locs cells slots ls A Q} F hL hI hS _ _ _ _ kk => mm_get_ok F hI hd hf hM hv (kk ls hL))
        · cases h
      · cases h
    · cases h
  · split at h
    · rename_i ci j c fs hf hM
      split at h
      · rename_i hc
        obtain ⟨rfl, h2, h3, h4⟩ := hc
        exact (ih _ _ _ _ _ _ _ _ h).ofS hM (fun F hI hS hA _ _ _ kk => mm_put_ok F hI hS hA hd hf hM h2 h3 h4 kk)
      · cases h
    · cases h
  · split at h
    · rename_i m f hM
      split at h
      · cases h
      · rename_i hj
        exact (ih _ _ _ _ _ _ _ _ h).of0 (fun {p l e R s m args below meth c H locs cells slots ls A Q} F hL hI hS _ _ _ _ kk => mm_iald_ok F hI hd hM hj (kk ls hL))
    · cases h
    · split at h
      · rename_i hX
        subst hX
        split at h
        · cases h
        · rename_i hj
          exact (ih _ _ _ _ _ _ _ _ h).of0 (fun {p l e R s m args below meth c H locs cells slots ls A Q} F hL hI hS _ _ _ _ kk => mm_sld_ok F hS hd hj (kk ls hL))
      · cases h
  · split at h
    · rename_i m f hM
      split at h
      · cases h
      · rename_i hj
        exact (ih _ _ _ _ _ _ _ _ h).of0 (fun {p l e R s m args below meth c H locs cells slots ls A Q} F hL hI hS _ _ _ _ kk => mm_zald_ok F hI hd hM hj (kk ls hL))
    · cases h
  · split at h
    · rename_i m f hM
      split at h
      · cases h
      · rename_i hj
        exact (ih _ _ _ _ _ _ _ _ h).of0 (fun {p l e R s m args below meth c H locs cells slots ls A Q} F hL hI hS _ _ _ _ kk => mm_aald_ok F hI hd hM hj (kk ls hL))
    · cases h
  · split at h
    · rename_i m f hM
      split at h
      · cases h
      · rename_i hj
        exact (ih _ _ _ _ _ _ _ _ h).of0 (fun {p l e R s m args below meth c H locs cells slots ls A Q} F hL hI hS _ _ _ _ kk => mm_lald_ok F hI hd hM hj (kk ls hL))
    · cases h
  · split at h
    · rename_i m f hM
      split at h
      · cases h
      · rename_i hj
        exact (ih _ _ _ _ _ _ _ _ h).of0 (fun {p l e R s m args below meth c H locs cells slots ls A Q} F hL hI hS _ _ _ _ kk => mm_dald_ok F hI hd hM hj (kk ls hL))
    · cases h
  · split at h
    · rename_i m f hM
      split at h
      · cases h
      · rename_i hj
        exact (ih _ _ _ _ _ _ _ _ h).ofS hM (fun F hI hS hA _ _ _ kk => mm_iast_ok F hI hS hA hd hM hj kk)
    · cases h
  · split at h
    · rename_i m f hM
      split at h
      · cases h
      · rename_i hj
        exact (ih _ _ _ _ _ _ _ _ h).ofS hM (fun F hI hS hA _ _ _ kk => mm_zast_ok F hI hS hA hd hM hj kk)
    · cases h
  · split at h
    · rename_i m f hM
      split at h
      · cases h
      · rename_i hj
        exact (ih _ _ _ _ _ _ _ _ h).ofS hM (fun F hI hS hA _ _ _ kk => mm_last_ok F hI hS hA hd hM hj kk)
    · cases h
  · split at h
    · rename_i m f hM
      split at h
      · cases h
      · rename_i hj
        exact (ih _ _ _ _ _ _ _ _ h).ofS hM (fun F hI hS hA _ _ _ kk => mm_dast_ok F hI hS hA hd hM hj kk)
    · cases h
  · split at h
    · rename_i m f hM
      split at h
      · cases h
      · rename_i hj
        exact (ih _ _ _ _ _ _ _ _ h).ofS hM (fun F hI hS hA _ _ _ kk => mm_aastN_ok F hI hS hA hd hM hj kk)
    · cases h
  · split at h
    · rename_i m f vs hM hV
      split at h
      · cases h
      · rename_i hj
        exact (ih _ _ _ _ _ _ _ _ h).ofS hM (fun F hI hS hA _ _ _ kk => mm_aast_ok F hI hS hA hV hd hM hj kk)
    · cases h
  · split at h
    · rename_i t m x hM
      split at h
      · rename_i ht
        exact (ih _ _ _ _ _ _ _ _ h).of0 (fun {p l e R s m args below meth c H locs cells slots ls A Q} F hL hI hS _ _ _ _ kk => mm_alen_ok F hI ht hd hM (kk ls hL))
      · cases h
    · cases h
    · split at h
      · rename_i hX
        subst hX
        exact (ih _ _ _ _ _ _ _ _ h).of0 (fun {p l e R s m args below meth c H locs cells slots ls A Q} F hL hI hS _ _ _ _ kk => mm_slen_ok F hS hd (kk ls hL))
      · cases h
  · split at h
    · rename_i ci hn
      exact (ih _ _ _ _ _ _ _ _ h).ofP (fun F hI hS hc hs kk => mm_new_ok F hI hS hd hn hc hs kk)
    · split at h
      · rename_i x ic ht
        split at h
        · rename_i hg
          cases h
          exact mm_Go.throw ht hg.1 hg.2.1 hg.2.2.1 hd hg.2.2.2.1 hg.2.2.2.2.1 hg.2.2.2.2.2
        · cases h
      · cases h
  · split at h
    · rename_i q x w ht
      split at h
      · cases h
      · rename_i hn
        exact (ih _ _ _ _ _ _ _ _ h).ofP (fun F hI hS hc hs kk => mm_newa_ok F hI hS hd ht hn hc hs kk)
    · cases h
  · split at h
    · cases h
    · rename_i hg
      have hq : mm_new (mm_own k) _ = some 0 := Classical.not_not.mp (fun z => hg (Or.inr (Or.inr z)))
      exact (ih _ _ _ _ _ _ _ _ h).ofP (fun F hI hS hc hs kk => mm_newq_ok F hI hS hd hq (fun z => hg (Or.inl z)) (Nat.le_of_not_lt fun z => hg (Or.inr (Or.inl z))) hc hs kk)
  · split at h
    · rename_i k' hm
      split at h
      · rename_i hkd
        exact mm_Go.call ih hm h (Or.inl ⟨hd, hkd⟩)
      · cases h
    · split at h
      · split at h
        · rename_i hg
          split at h
          · rename_i n0 f n1 g hM0 hM1
            split at h
            · cases h
            · rename_i hj
              exact (ih _ _ _ _ _ _ _ _ h).ofS hM1 (fun F hI hS hA hsz h1 h64 kk => mm_cpy_okr F hI hS hA hsz hd hg.1 hM0 hM1 hj (by omega) (by omega) kk)
          · cases h
        · cases h
      · split at h
        · rename_i hg
          exact (ih _ _ _ _ _ _ _ _ h).of0 (fun {p l e R s m args below meth c H locs cells slots ls A Q} F hL hI hS hc hs h1 h64 kk => mm_max_okr F hL.1 hd hg.1 (by omega) (by omega) hc hs (kk ls hL))
        · cases h
      · cases h
  · split at h
    · rename_i k' hm
      split at h
      · rename_i b hb
        split at h
        · rename_i c fs hM
          split at h
          · rename_i hg
            exact mm_Go.call ih hm h (Or.inr (Or.inl ⟨hd, hg.1, b, fs, hb, by rw [← hg.2]; exact hM⟩))
          · cases h
        · cases h
      · cases h
    · cases h
  · split at h
    · rename_i k' hm
      split at h
      · rename_i b hb
        split at h
        · rename_i hg
          exact mm_Go.call ih hm h (Or.inr (Or.inr ⟨hd, hg, b, hb⟩))
        · cases h
      · cases h
    · split at h
      · split at h
        · rename_i hg
          exact (ih _ _ _ _ _ _ _ _ h).of0 (fun {p l e R s m args below meth c H locs cells slots ls A Q} F hL hI hS hc hs h1 h64 kk => mm_obj_okr F hL.1 hd hg.1 (by omega) (by omega) (kk ls hL))
        · cases h
      · cases h
  · split at h
    · rename_i v hg
      cases h
      refine mm_Go.ret (fun F hf hq => ?_)
      rcases hg with hg | ⟨hg, hv⟩
      · exact W.iret F.1 F.2.1 (by rw [F.2.2.2.2.2.2.1, hg]) hq hf hd F.2.2.2.2.2.2.2.1
      · exact W.zret (ty := .boolean) F.1 F.2.1 (by rw [F.2.2.2.2.2.2.1, hg]) (by rcases hv with rfl | rfl <;> rfl) hq hf hd F.2.2.2.2.2.2.2.1
    · cases h
  · split at h
    · rename_i v hg
      cases h
      refine mm_Go.ret (fun F hf hq => W.aret F.1 F.2.1 (by rw [F.2.2.2.2.2.2.1, hg.1]) (Or.inl ⟨_, rfl⟩) ?_ hq hf hd F.2.2.2.2.2.2.2.1)
      have hv := hg.2
      cases v <;> simp [mm_vk] at hv
      · exact Or.inl rfl
      · exact Or.inr ⟨_, rfl⟩
    · cases h
  · split at h
    · rename_i v hg
      cases h
      exact mm_Go.ret (fun F hf hq => W.dret F.1 F.2.1 (by rw [F.2.2.2.2.2.2.1, hg]) hq hf hd F.2.2.2.2.2.2.2.1)
    · cases h
  · split at h
    · rename_i hg
      cases h
      exact mm_Go.ret (fun F hf hq => W.vret F.1 F.2.1 (by rw [F.2.2.2.2.2.2.1, hg]) hq hf hd F.2.2.2.2.2.2.2.1)
    · cases h
  · cases h
theorem mm_sound : ∀ (n d k pc : Nat) (al : List (Option Value)) (st : List Value) (M : mm_M) (o : mm_Out) (M' : mm_M), mm_run X n d k pc al st M = some (o, M') → mm_Go D cT X d k pc al st M o M' := by
  intro n
  induction n with
  | zero => intro d k pc al st M o M' h; cases h
  | succ n ih =>
    intro d k pc al st M o M' h
    unfold mm_run at h
    split at h
    · rename_i i len hd
      unfold mm_step at h
      split at h
      · rename_i st' hp
        exact (ih _ _ _ _ _ _ _ _ h).of0 (fun {p l e R s m args below meth c H locs cells slots ls A Q} F hL hI hS _ _ _ _ kk => mm_pu_ok F.1 F.2.1 hd hp (kk ls hL))
      · split at h
        · rename_i st' t hp
          exact (ih _ _ _ _ _ _ _ _ h).of0 (fun {p l e R s m args below meth c H locs cells slots ls A Q} F hL hI hS _ _ _ _ kk => mm_br_ok F.1 F.2.1 hd hp (kk ls hL))
        · split at h
          · rename_i x t hp
            split at h
            · rename_i v hv
              split at h
              · rename_i ht
                exact (ih _ _ _ _ _ _ _ _ h).of0 (fun {p l e R s m args below meth c H locs cells slots ls A Q} F hL hI hS _ _ _ _ kk => mm_ld_ok F.1 F.2.1 hd hp (hL.2.2.2 _ _ hv) ht (kk ls hL))
              · cases h
            · cases h
          · split at h
            · rename_i x t hp
              split at h
              · split at h
                · rename_i hg
                  exact (ih _ _ _ _ _ _ _ _ h).of0 (fun F hL hI hS _ _ _ _ kk => mm_so_ok F.1 F.2.1 hd hp hL hg.1 hg.2 kk)
                · cases h
              · cases h
            · exact mm_heap_ok ih hd h
    · cases h
end MS11
