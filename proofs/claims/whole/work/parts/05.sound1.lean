/-! the abstract machine against the machine: stack, branches, locals -/
section MS1
variable {p : Program} {l : Launch} {e : Env} {R : Room} {s : State} {m : MethodId} {args : Array Value} {below : List Frame} {meth : Method} {c : Code} {H : Heap} {locs : List Loc} {cells slots : Nat} {Q : State → Prop}
variable {cc : ByteArray} {pc : Nat} {ls : Array Slot}
theorem mm_pu_ok (hx : p.tables.exec = Jvm.exec) (hb : c.code = cc) {i : Instr} {len : Nat} {st st' : List Value} (hd : decode cc pc = .ok (i, len)) (h : mm_pu i len st = some st')
    (kk : W p l e R s m args below meth c H locs cells slots Q (F0 m (pc + len) ls st')) : W p l e R s m args below meth c H locs cells slots Q (F0 m pc ls st) := by
  unfold mm_pu at h
  split at h
  · cases h; exact lv_iconst hx hb hd rfl kk
  · cases h; exact lv_bipush hx hb hd rfl kk
  · cases h; exact lv_sipush hx hb hd rfl kk
  · cases h; exact lv_lconst hx hb hd rfl kk
  · cases h; exact lv_null hx hb hd kk
  · cases h; exact lv_iadd hx hb hd kk
  · cases h; exact lv_isub hx hb hd kk
  · cases h; exact lv_imul hx hb hd kk
  · split at h
    · cases h
    · rename_i hne; cases h; exact lv_idiv hx hb hd hne kk
  · split at h
    · cases h
    · rename_i hne; cases h; exact lv_irem hx hb hd hne kk
  · cases h; exact lv_iand hx hb hd kk
  · cases h; exact lv_i2l hx hb hd rfl kk
  · cases h; exact lv_i2d hx hb hd kk
  · cases h; exact lv_l2d hx hb hd kk
  · cases h; exact lv_ladd hx hb hd kk
  · cases h; exact W.lcmp hx hb hd kk
  · split at h
    · rename_i hne; cases h; exact lv_ddiv hx hb hd hne kk
    · cases h
  · cases h; exact lv_dcmp hx hb hd kk
  · split at h
    · rename_i hne; cases h; exact lv_dup hx hb hd hne kk
    · cases h
  · split at h
    · rename_i hne; cases h; exact lv_dup2_11 hx hb hd hne.1 hne.2 kk
    · cases h
  · split at h
    · rename_i hne; cases h; exact lv_pop hx hb hd hne kk
    · cases h
  · cases h
theorem mm_tg_eq {pc : Nat} {o : Int} {t : Nat} (h : mm_tg pc o = some t) : (pc : Int) + o = (t : Int) := by
  unfold mm_tg at h
  split at h
  · rename_i h0
    cases h
    omega
  · cases h
theorem mm_tg_map {α : Type} {pc : Nat} {o : Int} {f : Nat → α} {z : α} (h : (mm_tg pc o).map f = some z) : ∃ t : Nat, (pc : Int) + o = (t : Int) ∧ f t = z := by
  cases h1 : mm_tg pc o with
  | none => rw [h1] at h; cases h
  | some t => rw [h1] at h; exact ⟨t, mm_tg_eq h1, Option.some.inj h⟩
theorem mm_br_ok (hx : p.tables.exec = Jvm.exec) (hb : c.code = cc) {i : Instr} {len : Nat} {st st' : List Value} {tgt : Nat} (hd : decode cc pc = .ok (i, len)) (h : mm_br pc i len st = some (st', tgt))
    (kk : W p l e R s m args below meth c H locs cells slots Q (F0 m tgt ls st')) : W p l e R s m args below meth c H locs cells slots Q (F0 m pc ls st) := by
  unfold mm_br at h
  split at h
  · obtain ⟨t, ht, h1⟩ := mm_tg_map h
    cases h1
    exact lv_goto hx hb hd ht kk
  · rename_i c1 o1 y x r
    obtain ⟨t, ht, h1⟩ := mm_tg_map h
    have hr : r = st' := congrArg Prod.fst h1
    have hg : (if mm_cc c1 x y = true then t else pc + 3) = tgt := congrArg Prod.snd h1
    subst hr
    subst hg
    cases c1 <;> simp only [mm_cc, decide_eq_true_eq] at kk
    · exact lv_icmp_eq hx hb hd ht (fun z => by rwa [if_pos z] at kk) (fun z => by rwa [if_neg z] at kk)
    · exact lv_icmp_ne hx hb hd ht (fun z => by rwa [if_pos z] at kk) (fun z => by rwa [if_neg (fun q => q z)] at kk)
    · exact lv_icmp_lt hx hb hd ht (fun z => by rwa [if_pos z] at kk) (fun z => by rwa [if_neg z] at kk)
    · exact lv_icmp_ge hx hb hd ht (fun z => by rwa [if_pos z] at kk) (fun z => by rwa [if_neg z] at kk)
    · exact lv_icmp_gt hx hb hd ht (fun z => by rwa [if_pos z] at kk) (fun z => by rwa [if_neg z] at kk)
    · exact lv_icmp_le hx hb hd ht (fun z => by rwa [if_pos z] at kk) (fun z => by rwa [if_neg z] at kk)
  · rename_i c1 o1 x r
    obtain ⟨t, ht, h1⟩ := mm_tg_map h
    have hr : r = st' := congrArg Prod.fst h1
    have hg : (if mm_cc c1 x 0 = true then t else pc + 3) = tgt := congrArg Prod.snd h1
    subst hr
    subst hg
    cases c1 <;> simp only [mm_cc, decide_eq_true_eq] at kk
    · exact lv_if_eq hx hb hd ht (fun z => by rwa [if_pos z] at kk) (fun z => by rwa [if_neg z] at kk)
    · exact lv_if_ne hx hb hd ht (fun z => by rwa [if_pos z] at kk) (fun z => by rwa [if_neg (fun q => q z)] at kk)
    · exact lv_if_lt hx hb hd ht (fun z => by rwa [if_pos z] at kk) (fun z => by rwa [if_neg z] at kk)
    · exact lv_if_ge hx hb hd ht (fun z => by rwa [if_pos z] at kk) (fun z => by rwa [if_neg z] at kk)
    · exact lv_if_gt hx hb hd ht (fun z => by rwa [if_pos z] at kk) (fun z => by rwa [if_neg z] at kk)
    · exact lv_if_le hx hb hd ht (fun z => by rwa [if_pos z] at kk) (fun z => by rwa [if_neg z] at kk)
  · obtain ⟨t, ht, h1⟩ := mm_tg_map h
    cases h1
    exact lv_ifnullN hx hb hd ht kk
  · cases h
    exact lv_ifnull hx hb hd kk
  · cases h
    exact lv_ifnonnullN hx hb hd kk
  · obtain ⟨t, ht, h1⟩ := mm_tg_map h
    cases h1
    exact lv_ifnonnull hx hb hd ht kk
  · rename_i d lo hi offs x r
    split at h
    · rename_i hz
      obtain ⟨t, ht, h1⟩ := mm_tg_map h
      cases h1
      exact lv_tableOut hx hb hd hz ht kk
    · rename_i hz
      split at h
      · rename_i o1 ho
        obtain ⟨t, ht, h1⟩ := mm_tg_map h
        cases h1
        exact lv_tableIn hx hb hd (fun q => hz (Or.inl q)) (fun q => hz (Or.inr q)) ho ht kk
      · cases h
  · rename_i d ps x r
    split at h
    · rename_i hz
      obtain ⟨t, ht, h1⟩ := mm_tg_map h
      cases h1
      exact lv_lookup hx hb hd hz rfl ht kk
    · cases h
  · cases h
theorem mm_ld_ok (hx : p.tables.exec = Jvm.exec) (hb : c.code = cc) {i : Instr} {len n t : Nat} {v : Value} {st : List Value} (hd : decode cc pc = .ok (i, len)) (h : mm_ld i len = some (n, t)) (hl : ls[n]? = some (.val v)) (hv : mm_vk v = t)
    (kk : W p l e R s m args below meth c H locs cells slots Q (F0 m (pc + len) ls (v :: st))) : W p l e R s m args below meth c H locs cells slots Q (F0 m pc ls st) := by
  unfold mm_ld at h
  split at h
  · cases h
    cases v <;> simp only [mm_vk] at hv <;> first | exact lv_iload hx hb hd hl kk | cases hv
  · cases h
    cases v <;> simp only [mm_vk] at hv <;> first | exact lv_iload_n hx hb hd rfl hl kk | cases hv
  · cases h
    cases v <;> simp only [mm_vk] at hv <;> first | exact lv_lload hx hb hd hl kk | cases hv
  · cases h
    cases v <;> simp only [mm_vk] at hv <;> first | exact lv_lload_n hx hb hd rfl hl kk | cases hv
  · cases h
    cases v <;> simp only [mm_vk] at hv <;> first | exact lv_dload hx hb hd hl kk | cases hv
  · cases h
    cases v <;> simp only [mm_vk] at hv <;> first | exact lv_aload hx hb hd hl kk | exact lv_aloadN hx hb hd hl kk | cases hv
  · cases h
    cases v <;> simp only [mm_vk] at hv <;> first | exact lv_aload_n hx hb hd rfl hl kk | exact lv_aload_nN hx hb hd rfl hl kk | cases hv
  · cases h
/-- the locals: a list of what each holds, where it is known -/
def mm_L (ls : Array Slot) (nL : Nat) (al : List (Option Value)) : Prop := ls.size = nL ∧ al.length = nL ∧ lv_wf ls ∧ ∀ (j : Nat) (v : Value), al[j]? = some (some v) → ls[j]? = some (.val v)
def mm_lv (al : List (Option Value)) : List (Nat × Value) := al.zipIdx.filterMap (fun q => q.1.map (fun v => (q.2, v)))
theorem mm_lv_in {al : List (Option Value)} {j : Nat} {v : Value} : (j, v) ∈ mm_lv al ↔ al[j]? = some (some v) := by
  unfold mm_lv
  rw [List.mem_filterMap]
  constructor
  · rintro ⟨⟨o, n⟩, h1, h2⟩
    have h3 := List.mem_zipIdx_iff_getElem?.mp h1
    dsimp only at h2 h3
    cases o with
    | none => cases h2
    | some w => cases h2; exact h3
  · intro h
    exact ⟨(some v, j), List.mem_zipIdx_iff_getElem?.mpr h, rfl⟩
theorem mm_L_has {ls : Array Slot} {nL : Nat} {al : List (Option Value)} (h : mm_L ls nL al) : lv_has ls nL (mm_lv al) := ⟨h.1, h.2.2.1, fun q hq => h.2.2.2 q.1 q.2 (mm_lv_in.mp hq)⟩
theorem mm_st_len (al : List (Option Value)) (n : Nat) (v : Value) : (mm_st al n v).length = al.length := by
  unfold mm_st mm_a1
  cases n <;> cases v <;> simp
theorem mm_k_eq {x : Option Value} {v : Value} (h : mm_k x = some v) : x = some v ∧ ¬ v.category = 2 := by
  cases x with
  | none => cases h
  | some w => cases w <;> simp_all [mm_k, Value.category] <;> (subst h; simp)
theorem mm_al1 {al : List (Option Value)} {n j : Nat} {w : Value} (h : (mm_a1 al n)[j]? = some (some w)) : al[j]? = some (some w) ∧ ¬ (j + 1 = n ∧ w.category = 2) := by
  cases n with
  | zero => exact ⟨h, fun q => by omega⟩
  | succ q =>
    unfold mm_a1 at h
    dsimp only at h
    rw [List.getElem?_modify] at h
    cases hz : al[j]? with
    | none => rw [hz] at h; cases h
    | some x =>
      rw [hz] at h
      have h2 : (if q = j then mm_k x else x) = some w := Option.some.inj h
      by_cases hq : q = j
      · rw [if_pos hq] at h2
        obtain ⟨e1, e2⟩ := mm_k_eq h2
        exact ⟨by rw [e1], fun z => e2 z.2⟩
      · rw [if_neg hq] at h2
        exact ⟨by rw [h2], fun z => hq (by omega)⟩
/-- behind a store of one slot -/
theorem mm_L_st1 {ls ls' : Array Slot} {nL n : Nat} {al : List (Option Value)} {v : Value} (h : mm_L ls nL al) (hv : v.category = 1) (h' : lv_has ls' nL ((n, v) :: (mm_lv al).filter (fun q => !(q.1 == n) && !(q.1 + 1 == n && q.2.category == 2)))) : mm_L ls' nL (mm_st al n v) := by
  refine ⟨h'.1, by rw [mm_st_len]; exact h.2.1, h'.2.1, fun j w hw => ?_⟩
  have hw1 : ((mm_a1 al n).set n (some v))[j]? = some (some w) := by
    cases v <;> simp [Value.category] at hv <;> exact hw
  rw [List.getElem?_set] at hw1
  by_cases hj : n = j
  · subst hj
    rw [if_pos rfl] at hw1
    split at hw1
    · cases hw1
      exact h'.2.2 (n, v) List.mem_cons_self
    · cases hw1
  · rw [if_neg hj] at hw1
    obtain ⟨e1, e2⟩ := mm_al1 hw1
    refine h'.2.2 (j, w) (List.mem_cons_of_mem _ (List.mem_filter.mpr ⟨mm_lv_in.mpr e1, ?_⟩))
    simp only [Bool.and_eq_true, Bool.not_eq_true', beq_eq_false_iff_ne, ne_eq, Bool.and_eq_false_imp, beq_iff_eq]
    exact ⟨fun z => hj z.symm, fun z q => e2 ⟨z, q⟩⟩
theorem mm_L_st2 {ls ls' : Array Slot} {nL n : Nat} {al : List (Option Value)} {v : Value} (h : mm_L ls nL al) (hv : v.category = 2) (h' : lv_has ls' nL ((n, v) :: (mm_lv al).filter (fun q => !(q.1 == n) && (!(q.1 == n + 1) && !(q.1 + 1 == n && q.2.category == 2))))) : mm_L ls' nL (mm_st al n v) := by
  refine ⟨h'.1, by rw [mm_st_len]; exact h.2.1, h'.2.1, fun j w hw => ?_⟩
  have hw1 : (((mm_a1 al n).set n (some v)).set (n + 1) none)[j]? = some (some w) := by
    cases v <;> simp [Value.category] at hv <;> exact hw
  rw [List.getElem?_set] at hw1
  by_cases hj1 : n + 1 = j
  · subst hj1
    rw [if_pos rfl] at hw1
    split at hw1 <;> cases hw1
  · rw [if_neg hj1, List.getElem?_set] at hw1
    by_cases hj : n = j
    · subst hj
      rw [if_pos rfl] at hw1
      split at hw1
      · cases hw1
        exact h'.2.2 (n, v) List.mem_cons_self
      · cases hw1
    · rw [if_neg hj] at hw1
      obtain ⟨e1, e2⟩ := mm_al1 hw1
      refine h'.2.2 (j, w) (List.mem_cons_of_mem _ (List.mem_filter.mpr ⟨mm_lv_in.mpr e1, ?_⟩))
      simp only [Bool.and_eq_true, Bool.not_eq_true', beq_eq_false_iff_ne, ne_eq, Bool.and_eq_false_imp, beq_iff_eq]
      exact ⟨fun z => hj z.symm, fun z => hj1 z.symm, fun z q => e2 ⟨z, q⟩⟩
theorem mm_so_ok (hx : p.tables.exec = Jvm.exec) (hb : c.code = cc) {i : Instr} {len n t nL : Nat} {v : Value} {st : List Value} {al : List (Option Value)} (hd : decode cc pc = .ok (i, len)) (h : mm_so i len = some (n, t)) (hL : mm_L ls nL al) (hv : mm_vk v = t) (hn : n + v.category ≤ al.length)
    (kk : ∀ ls' : Array Slot, mm_L ls' nL (mm_st al n v) → W p l e R s m args below meth c H locs cells slots Q (F0 m (pc + len) ls' st)) : W p l e R s m args below meth c H locs cells slots Q (F0 m pc ls (v :: st)) := by
  rw [hL.2.1] at hn
  unfold mm_so at h
  split at h
  · cases h
    cases v <;> simp only [mm_vk] at hv <;> simp only [Value.category] at hn <;> first | exact lv_istore hx hb hd (mm_L_has hL) (by omega) rfl (fun ls' h' => kk ls' (mm_L_st1 hL rfl h')) | cases hv
  · cases h
    cases v <;> simp only [mm_vk] at hv <;> simp only [Value.category] at hn <;> first | exact lv_istore_n hx hb hd rfl (mm_L_has hL) (by omega) rfl (fun ls' h' => kk ls' (mm_L_st1 hL rfl h')) | cases hv
  · cases h
    cases v <;> simp only [mm_vk] at hv <;> simp only [Value.category] at hn <;> first | exact lv_lstore hx hb hd (mm_L_has hL) (by omega) rfl (fun ls' h' => kk ls' (mm_L_st2 hL rfl h')) | cases hv
  · cases h
    cases v <;> simp only [mm_vk] at hv <;> simp only [Value.category] at hn <;> first | exact lv_lstore_n hx hb hd rfl (mm_L_has hL) (by omega) rfl (fun ls' h' => kk ls' (mm_L_st2 hL rfl h')) | cases hv
  · cases h
    cases v <;> simp only [mm_vk] at hv <;> simp only [Value.category] at hn <;> first | exact lv_dstore hx hb hd (mm_L_has hL) (by omega) rfl (fun ls' h' => kk ls' (mm_L_st2 hL rfl h')) | cases hv
  · cases h
    cases v <;> simp only [mm_vk] at hv <;> simp only [Value.category] at hn <;> first | exact lv_astore hx hb hd (mm_L_has hL) (by omega) rfl (fun ls' h' => kk ls' (mm_L_st1 hL rfl h')) | exact lv_astoreN hx hb hd (mm_L_has hL) (by omega) rfl (fun ls' h' => kk ls' (mm_L_st1 hL rfl h')) | cases hv
  · cases h
    cases v <;> simp only [mm_vk] at hv <;> simp only [Value.category] at hn <;> first | exact lv_astore_n hx hb hd rfl (mm_L_has hL) (by omega) rfl (fun ls' h' => kk ls' (mm_L_st1 hL rfl h')) | exact lv_astore_nN hx hb hd rfl (mm_L_has hL) (by omega) rfl (fun ls' h' => kk ls' (mm_L_st1 hL rfl h')) | cases hv
  · cases h
theorem mm_iinc_ok (hx : p.tables.exec = Jvm.exec) (hb : c.code = cc) {n nL : Nat} {z : Int} {x : Int32} {st : List Value} {al : List (Option Value)} (hd : decode cc pc = .ok (.iinc n z, 3)) (hL : mm_L ls nL al) (hv : al[n]? = some (some (.int x)))
    (kk : ∀ ls' : Array Slot, mm_L ls' nL (mm_st al n (.int (x + Int32.ofInt z))) → W p l e R s m args below meth c H locs cells slots Q (F0 m (pc + 3) ls' st)) : W p l e R s m args below meth c H locs cells slots Q (F0 m pc ls st) := by
  obtain ⟨q, hq⟩ := List.getElem?_of_mem (mm_lv_in.mpr hv)
  have hn : n < nL := by rw [← hL.2.1]; exact (List.getElem?_eq_some_iff.mp hv).1
  exact lv_iinc hx hb hd (mm_L_has hL) hq rfl hn rfl (fun ls' h' => kk ls' (mm_L_st1 hL rfl h'))
/-- the locals at the entry -/
theorem mm_args_in : ∀ (vs : List Value) (b j : Nat) (v : Value), vs.all (fun v => v.category == 1) = true → vs[j]? = some v → (b + j, v) ∈ lv_args b vs
  | [], _, j, _, _, h => by cases j <;> cases h
  | x :: xs, b, 0, v, hc, h => by
    cases h
    simp only [List.all_cons, Bool.and_eq_true, beq_iff_eq] at hc
    simp [lv_args]
  | x :: xs, b, j + 1, v, hc, h => by
    simp only [List.all_cons, Bool.and_eq_true, beq_iff_eq] at hc
    have h1 := mm_args_in xs (b + 1) j v hc.2 (by simpa using h)
    rw [show b + (j + 1) = b + 1 + j by omega]
    simp only [lv_args]
    rw [hc.1]
    exact List.mem_cons_of_mem _ h1
end MS1
