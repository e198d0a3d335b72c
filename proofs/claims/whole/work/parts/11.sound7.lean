/-! the abstract machine against the machine: contracts of methods -/
theorem mm_K_spec {k : Nat} (hk : k < 132) : mm_code k ∈ mm_WL ∧ (mm_kd k = 0 ∨ mm_kd k = 3 → Cond.static (mm_y k) ∈ mm_WL) ∧ (¬ (mm_kd k = 0 ∨ mm_kd k = 3) → Cond.instanceMethod (mm_y k) ∈ mm_WL ∧ 0 < mm_na k) ∧ (mm_kd k = 1 → Cond.selects (mR (mm_own k)) (mm_y k) (mm_y k) ∈ mm_WL) ∧ (mm_y k).cls = mR (mm_own k) ∧ plainName (mm_y k).cls = true ∧
    (parseMethodDescriptor (mm_y k).desc).map (fun d => d.parameters.length) = some (if mm_kd k = 0 ∨ mm_kd k = 3 then mm_na k else mm_na k - 1) ∧ mm_na k ≤ mm_mx k ∧ mm_mx k < 20 ∧ mm_own k < 6 ∧ (mm_kd k = 2 → (mm_y k).name = "<init>" ∧ mm_rt k = none) := by
  have h := mm_K_all hk
  unfold mm_K_ok at h
  simp only [Bool.and_eq_true, decide_eq_true_eq] at h
  obtain ⟨⟨⟨⟨⟨⟨⟨⟨⟨⟨h1, h2⟩, h3⟩, h4⟩, h5⟩, h6⟩, h7⟩, h8⟩, h9⟩, h10⟩, h11⟩ := h
  refine ⟨mm_at_in h1, fun z => ?_, fun z => ⟨?_, ?_⟩, fun z => ?_, h4, h5, h6, h7, h8, h9, fun z => ?_⟩
  · rw [if_pos z] at h2; exact mm_at_in h2
  · rw [if_neg z] at h2; exact mm_at_in h2
  · rw [if_neg z] at h11; exact of_decide_eq_true h11
  · rw [if_pos z] at h3; exact mm_at_in h3
  · rw [if_pos z] at h10; exact of_decide_eq_true h10
def mm_Pc (D : va_G) (cT : Nat → ClassId) (X : Nat × Nat × (Nat → Int32)) (vs : List Value) (M : mm_M) : Array Value → State → Prop := fun av U => av = vs.toArray ∧ mm_I D cT M U.heap ∧ va_K D mm_cl (mm_tys cT) U ∧ mm_Wd X (mm_A M) U U.heap
def mm_Qc (D : va_G) (cT : Nat → ClassId) (M : mm_M) (o : mm_Out) (M' : mm_M) : Array Value → State → Outcome → State → Prop := fun _ st oc t => ∃ v, o = .inl v ∧ oc = .returned v ∧ mm_I D cT M' t.heap ∧ va_F (mm_A M) st t
def mm_XC (D : va_G) (cT : Nat → ClassId) (M : mm_M) (o : mm_Out) (M' : mm_M) : String → State → State → Prop := fun E st t => ∃ x, o = .inr x ∧ E = mm_E x ∧ mm_I D cT M' t.heap ∧ va_F (mm_A M) st t
section MS8
variable {l : Launch} {D : va_G} {cT : Nat → ClassId} {X : Nat × Nat × (Nat → Int32)} {d k : Nat} {vs : List Value} {M M' : mm_M} {o : mm_Out}
theorem mm_sl1 : ∀ (vs : List Value), vs.all (fun v => v.category == 1) = true → (lg_sl vs).length = vs.length
  | [], _ => rfl
  | x :: xs, h => by
    simp only [List.all_cons, Bool.and_eq_true, beq_iff_eq] at h
    have := mm_sl1 xs h.2
    simp only [lg_sl, List.flatMap_cons, List.length_append, List.length_cons] at this ⊢
    rw [this, h.1]
    simp
    omega
theorem mm_L_entry {n : Nat} (hv : vs.all (fun v => v.category == 1) = true) (hn : vs.length ≤ n) : mm_L ((lg_sl vs ++ List.replicate (n - (lg_sl vs).length) Slot.unset).toArray) n (vs.map some ++ List.replicate (n - vs.length) none) := by
  have hl := lv_entry vs (n := n) (by rw [mm_sl1 vs hv]; exact hn)
  refine ⟨hl.1, by simp; omega, hl.2.1, fun j v hj => ?_⟩
  have h2 : vs[j]? = some v := by
    by_cases hjl : j < vs.length
    · rw [List.getElem?_append_left (by simpa using hjl), List.getElem?_map] at hj
      cases h3 : vs[j]? with
      | none => rw [h3] at hj; cases hj
      | some w => rw [h3] at hj; cases hj; rfl
    · rw [List.getElem?_append_right (by simpa using hjl)] at hj
      have h4 := List.mem_of_getElem? hj
      rw [List.mem_replicate] at h4
      cases h4.2
  have h3 := mm_args_in vs 0 j v hv h2
  rw [Nat.zero_add] at h3
  exact hl.2.2 (j, v) h3
theorem mm_blind : FrameBlind (mm_Pc D cT X vs M) := fun a U g mk q => by
  obtain ⟨q1, q2, q3, q4⟩ := q
  exact ⟨q1, q2, va_K.moved (u := U) (U := U.calling g mk a) (Vm.Alike.refl U.vm) q3, mm_Wd.same (u := U) (U := U.calling g mk a) rfl q4⟩
theorem mm_met (hl : l.stackTraces = false) (hk : k < 132) (g : mm_Go D cT X d k 0 (mm_arg k vs) [] M o M') (hv : vs.all (fun v => v.category == 1) = true) (hn : vs.length = mm_na k) :
    vx_Met l (mm_y k) (mm_ws k) (mm_rm d (M'.1 - M.1) (M'.2.1 - M.2.1)) (mm_Pc D cT X vs M) (mm_Qc D cT M o M') (mm_XC D cT M o M') (M'.1 - M.1) (M'.2.1 - M.2.1) (mm_A M) := by
  obtain ⟨s1, s2, s3, s4, s5, s6, s7, s8, s9, s10, s11⟩ := mm_K_spec hk
  have body : ∀ (p : Program) (e : Env) (s : State) (m : MethodId) (args : Array Value) (below : List Frame) (meth : Method) (c : Code) (s₁ : State), BodyLoose p l (mm_y k) (headSpec (mm_ws k) (mm_rm d (M'.1 - M.1) (M'.2.1 - M.2.1))) (mm_b k) (mm_mx k) (mm_rt k) e s m args below meth c s₁ → c.maxLocals = mm_mx k → ((¬ mm_kd k = 3 → ∀ x ∈ c.exceptionTable.toList, False) ∧ (mm_kd k = 3 → c.exceptionTable.toList = tableOf (mm_hh k))) → mm_Pc D cT X vs M args s →
      W p l e (headSpec (mm_ws k) (mm_rm d (M'.1 - M.1) (M'.2.1 - M.2.1))).room s m args below meth c s.heap [] 0 0 (vx_MQ below (mm_Qc D cT M o M') (mm_XC D cT M o M') args s (M'.1 - M.1) (M'.2.1 - M.2.1) (mm_A M)) (entryFrame m args (mm_mx k)) := by
    intro p e s m args below meth c s₁ B hml htb hP
    obtain ⟨rfl, hI, hK, hWd⟩ := hP
    have hts := atoms_spec (ws := mm_ws k) B.pre
    have hown : s.vm.findClass (mR (mm_own k)) = some m.cls := by rw [← s5]; exact findClass_of_methodNamed B.named
    have F : mm_Fx D cT X p l s m vs.toArray meth c k (mm_A M) := ⟨B.exec, B.bytes, hml, hown, fun w hw => hts w (List.mem_cons_of_mem _ hw), hK, B.returns, B.notSynchronized, fun hk2 => by rw [(name_of_methodNamed B.named B.method).1]; exact (s11 hk2).1, hl, hWd, htb.1, htb.2⟩
    rw [lg_entry_eq]
    exact g.2 F (mm_L_entry hv (by rw [hn]; exact s8)) hI va_S.rf (fun _ h => h) (fun _ h => h) (by omega) (by omega) (Nat.le_refl _) (Nat.le_refl _) (Nat.le_refl _) (Nat.le_refl _)
      (fun t v ho hIt hW hF => ⟨v, ho, rfl, hIt, hF⟩) (fun t x ho hIt hW hF => ⟨x, ho, rfl, hIt, hF⟩)
  by_cases h3 : mm_kd k = 3
  · have hw : mm_ws k = .codeWith (mm_y k) (mm_b k) (mm_mx k) (mm_rt k) (mm_hh k) :: mm_WL := by unfold mm_ws mm_code; rw [if_pos h3]
    refine vx_ofWH (hh := mm_hh k) s6 hw (fun p e s m args below meth c s₁ B hml hP => body p e s m args below meth c s₁ B hml ⟨fun z => absurd h3 z, fun _ => ?_⟩ hP)
    exact vx_table (x := mm_y k) B (atoms_spec (ws := mm_ws k) B.pre _ (by rw [hw]; exact List.mem_cons_self))
  · have hw : mm_ws k = .code (mm_y k) (mm_b k) (mm_mx k) (mm_rt k) :: mm_WL := by unfold mm_ws mm_code; rw [if_neg h3]
    exact vx_ofW s6 hw (fun p e s m args below meth c s₁ B hml ht hP => body p e s m args below meth c s₁ B hml ⟨fun _ => ht, fun z => absurd z h3⟩ hP)
/-- a contract of a method that doesn't throw -/
theorem mm_metR {y : MethodName} {ws : List Cond} {rm : Room} {Pc : Array Value → State → Prop} {Qc : Array Value → State → Outcome → State → Prop} {XC : String → State → State → Prop} {mc ms : Nat} {free : Addr → Prop} (h : vx_Met l y ws rm Pc Qc XC mc ms free) (hx : ∀ E s t, ¬ XC E s t) : Met l y ws rm Pc Qc mc ms free := by
  intro p e ha hc hk s m args below hf happ hP hK
  obtain ⟨n, o, h1, h2, h3, h4⟩ := h p e ha hc hk s m args below hf happ hP hK
  refine ⟨n, o, h1, h2, h3, ?_⟩
  rcases h4 with h4 | ⟨q, -, E, ce, L, hq, -⟩
  · exact h4
  · exact absurd hq (hx _ _ _)
end MS8
section MS9
variable {p : Program} {l : Launch} {e : Env} {R : Room} {s : State} {m : MethodId} {args : Array Value} {below : List Frame} {meth : Method} {c : Code} {H : Heap} {locs : List Loc} {cells slots : Nat} {Q : State → Prop}
variable {pc : Nat} {ls : Array Slot} {r vs : List Value} {D : va_G} {cT : Nat → ClassId} {X : Nat × Nat × (Nat → Int32)} {d k k' a : Nat} {A : Nat → Prop} {M M1 : mm_M} {oc : mm_Out}
/-- a call, whatever kind, runs so -/
theorem mm_callrun (F : mm_Fx D cT X p l s m args meth c k A) (hsz : ls.size = mm_mx k) (hI : mm_I D cT M H) (hS : va_S A s.heap H locs) (hA : ∀ q, mm_A M q → A q) (hk : k' < 132) (g : mm_Go D cT X d k' 0 (mm_arg k' vs) [] M oc M1) (hv : vs.all (fun v => v.category == 1) = true) (hn : vs.length = mm_na k') (hr : mm_sum r ≤ 8)
    (hd : d + 1 ≤ R.frames) (h64 : 64 * (d + 1) ≤ R.locals) (hc : cells + (M1.1 - M.1) ≤ R.cells) (hs : slots + (M1.2.1 - M.2.1) ≤ R.slots) {idx : Nat} (hlink : Cond.methodLink (mR (mm_own k)) idx (mm_y k') ∈ mm_WL)
    (hkind : (decode (mm_b k) pc = .ok (.invokestatic idx, 3) ∧ (mm_kd k' = 0 ∨ mm_kd k' = 3)) ∨ (decode (mm_b k) pc = .ok (.invokevirtual idx, 3) ∧ mm_kd k' = 1 ∧ ∃ (b : Nat) (as : List Value) (fs : List Value), vs = .ref b :: as ∧ M.2.2 b = some (.inr (mm_own k', fs)) ∧ mm_own k' < 4) ∨ (decode (mm_b k) pc = .ok (.invokespecial idx, 3) ∧ mm_kd k' = 2 ∧ (∃ (b : Nat) (as : List Value), vs = .ref b :: as) ∧ ∃ v, oc = .inl v)) :
    vx_Run p l e R s m args below meth c H locs cells slots (M1.1 - M.1) (M1.2.1 - M.2.1) (F0 m pc ls (vs.reverse ++ r)) r (mm_Qc D cT M oc M1 vs.toArray) (mm_XC D cT M oc M1) (mm_A M) := by
  obtain ⟨s1, s2, s3, s4, s5, s6, s7, s8, s9, s10, s11⟩ := mm_K_spec hk
  have F0' := F
  obtain ⟨hx, hb, hml, hown, hts, hK, hret, hlk, -, hst, hWd, -⟩ := F0'
  have hM := mm_met (l := l) hst hk g hv hn
  have hmono := g.1
  have good : ∀ w ∈ mm_WL, w ∈ mm_WL ∧ ((w.onTables && w.keeps) = true ∨ ∃ ty, w = .arrayClass ty) := fun w hw => ⟨hw, good_of_word (mm_WL_good w hw)⟩
  have hmW : ∀ w ∈ mm_ws k', w ∈ mm_WL := fun w hw => (List.mem_cons.mp hw).elim (fun z => by rw [z]; exact s1) id
  have hini := mm_ini_in (c := mm_own k') (by omega)
  have pre : ∀ U : State, U.heap = H → s.WarmedH U.vm → mm_Pc D cT X vs M vs.toArray U := fun U hU hW => by
    have hWd2 : mm_Wd X (mm_A M) U H := (hWd.warm hW).kept hS.1 hS.2.1 hA
    exact ⟨rfl, by rw [hU]; exact hI, va_K.moved hW.alike hK, by rw [hU]; exact hWd2⟩
  have hcf : CallFix p m c (mm_b k) (mm_mx k) s args mm_WL (mR (mm_own k)) := ⟨hx, hb, hml, hown, hts⟩
  have hroom : (mm_rm d (M1.1 - M.1) (M1.2.1 - M.2.1)).frames + 1 ≤ R.frames ∧ 8 + (mm_mx k' + 11) + (mm_rm d (M1.1 - M.1) (M1.2.1 - M.2.1)).locals ≤ R.locals := by unfold mm_rm; dsimp only; omega
  have hW8 : 2 * (F0 m pc ls (vs.reverse ++ r)).monitorRoom + (r.map fun v => v.category).sum ≤ 8 := lv_room hr
  have notMH : ∀ c, c < 7 → mR c ≠ "java/lang/invoke/MethodHandle" ∧ mR c ≠ "java/lang/invoke/VarHandle" := by
    intro c hc
    match c, hc with
    | 0, _ => decide +kernel
    | 1, _ => decide +kernel
    | 2, _ => decide +kernel
    | 3, _ => decide +kernel
    | 4, _ => decide +kernel
    | 5, _ => decide +kernel
    | 6, _ => decide +kernel
  have hnm : (mm_y k').cls ≠ "java/lang/invoke/MethodHandle" ∧ (mm_y k').cls ≠ "java/lang/invoke/VarHandle" := by rw [s5]; exact notMH _ (by omega)
  rcases hkind with ⟨hdg, hkd⟩ | ⟨hdg, hkd, b, as, fs, rfl, hMb, hown4⟩ | ⟨hdg, hkd, ⟨b, as, rfl⟩, v, hov⟩
  · rw [if_pos hkd] at s7
    by_cases h3 : mm_kd k' = 3
    · have hw : mm_ws k' = .codeWith (mm_y k') (mm_b k') (mm_mx k') (mm_rt k') (mm_hh k') :: mm_WL := by unfold mm_ws mm_code; rw [if_pos h3]
      have cw : vx_CSW R s args (mR (mm_own k)) idx (mm_y k') (mm_b k') (mm_mx k') (mm_rt k') (mm_hh k') (mm_ws k') (mm_rm d (M1.1 - M.1) (M1.2.1 - M.2.1)) (M1.1 - M.1) (M1.2.1 - M.2.1) (mm_na k') := by
        have hcd : Cond.codeWith (mm_y k') (mm_b k') (mm_mx k') (mm_rt k') (mm_hh k') ∈ mm_ws k' := by rw [hw]; exact List.mem_cons_self
        refine ⟨⟨rfl, rfl, hroom.1, hroom.2, pay_in hts (fun w h => good w (hmW w h)), hcd⟩, hts _ (hmW _ hcd), by rw [s5]; exact hts _ hini, hnm, fun sig h => ?_, hts _ hlink, hts _ (s2 hkd)⟩
        rw [h] at s7
        exact (Option.some.inj s7).symm
      exact vx_runSX (hh := mm_hh k') hcf hM cw ⟨mm_blind, pre⟩ rfl hn hsz rfl hW8 hdg ⟨hc, hs⟩
    · have hw : mm_ws k' = .code (mm_y k') (mm_b k') (mm_mx k') (mm_rt k') :: mm_WL := by unfold mm_ws mm_code; rw [if_neg h3]
      exact vx_runS hcf hM ⟨callB_of (mm_na k') hts (fun w h => good w (hmW w h)) hw rfl rfl (by rw [s5]; exact hts _ hini) (hts _ hlink) ⟨hnm.1, hnm.2, s7⟩ hroom, hts _ (s2 hkd)⟩ ⟨mm_blind, pre⟩ rfl hn hsz rfl hW8 hdg ⟨hc, hs⟩
  · have hk0 : ¬ (mm_kd k' = 0 ∨ mm_kd k' = 3) := by omega
    rw [if_neg hk0] at s7
    have hw : mm_ws k' = .code (mm_y k') (mm_b k') (mm_mx k') (mm_rt k') :: mm_WL := by unfold mm_ws mm_code; rw [if_neg (by omega)]
    have hcell := va_recv (ci := mm_own k') (q0 := 0) hK (mm_one hI hMb) (mm_cl_at hown4) rfl
    have hlen : as.length = mm_na k' - 1 := by rw [← hn]; simp
    have hst2 : (F0 m pc ls ((Value.ref b :: as).reverse ++ r)).stack = as.reverse ++ Value.ref b :: r := by simp
    exact vx_runV hcf hM ⟨callB_of (mm_na k' - 1) hts (fun w h => good w (hmW w h)) hw rfl rfl (by rw [s5]; exact hts _ hini) (hts _ hlink) ⟨hnm.1, hnm.2, s7⟩ hroom, hts _ (s3 hk0).1, hts _ (s4 hkd)⟩ ⟨mm_blind, hcell, pre⟩ rfl hlen hsz hst2 hW8 hdg ⟨hc, hs⟩
  · have hk0 : ¬ (mm_kd k' = 0 ∨ mm_kd k' = 3) := by omega
    rw [if_neg hk0] at s7
    have hrt := (s11 hkd).2
    have hw : mm_ws k' = .code (mm_y k') (mm_b k') (mm_mx k') none :: mm_WL := by unfold mm_ws mm_code; rw [if_neg (by omega), hrt]
    have hM2 := mm_metR hM (fun E s t ⟨x, h, _⟩ => by rw [hov] at h; cases h)
    have hlen : as.length = mm_na k' - 1 := by rw [← hn]; simp
    have hst2 : (F0 m pc ls ((Value.ref b :: as).reverse ++ r)).stack = as.reverse ++ Value.ref b :: r := by simp
    have hrun := va_runI (e := e) (below := below) (meth := meth) (H := H) (locs := locs) (cells := cells) (slots := slots) (R := R) hcf hM2 (cwI (mm_na k' - 1) hts (fun w h => good w (hmW w h)) hw rfl rfl (by rw [s5]; exact hts _ hini) (hts _ hlink) (hts _ (s3 hk0).1) (s11 hkd).1 ⟨hnm.1, hnm.2, s7⟩ hroom) ⟨mm_blind, pre⟩ rfl hlen hsz hst2 hW8 hdg ⟨hc, hs⟩
    intro T hT Xs
    exact Or.inl (hrun T hT Xs)
/-- behind a call -/
theorem mm_after (hr : vx_Run p l e R s m args below meth c H locs cells slots (M1.1 - M.1) (M1.2.1 - M.2.1) (F0 m pc ls (vs.reverse ++ r)) r (mm_Qc D cT M oc M1 vs.toArray) (mm_XC D cT M oc M1) (mm_A M)) (hS : va_S A s.heap H locs) (hA : ∀ q, mm_A M q → A q)
    (kk : ∀ (v : Option Value) (H1 : Heap) (locs1 : List Loc), oc = .inl v → mm_I D cT M1 H1 → va_S A s.heap H1 locs1 → W p l e R s m args below meth c H1 locs1 (cells + (M1.1 - M.1)) (slots + (M1.2.1 - M.2.1)) Q (F0 m (pc + 3) ls (v.toList ++ r)))
    (kx : ∀ (x : Nat) (ce : Cell) (q9 : Addr) (H1 : Heap) (locs1 : List Loc), oc = .inr x → mm_I D cT M1 H1 → va_S A s.heap H1 locs1 → H1[q9]? = some ce → ce.vm = .none → s.vm.findClass (mm_E x) = some ce.cls → vx_W p l e R s m args below meth c H1 locs1 (cells + (M1.1 - M.1)) (slots + (M1.2.1 - M.2.1)) Q (F0 m pc ls r) q9) :
    W p l e R s m args below meth c H locs cells slots Q (F0 m pc ls (vs.reverse ++ r)) := by
  intro T hT Xs
  rcases hr T hT Xs with ⟨v, st₀, t, T', L, h0, X', hL, e1, e2, ⟨v', ho, hv, hI1, hF⟩, st⟩ | ⟨q, st₀, t, T', L, E, ce, h0, X', hL, e1, e2, ⟨x, ho, hE, hI1, hF⟩, hce, hcv, hcl, st⟩
  · cases hv
    obtain ⟨k1, k2, k3⟩ := vx_keep h0 e1 hS (fun q _ h => hA q h) hA hL hF
    obtain ⟨t2, a1, b1⟩ := kk v T'.heap (locs ++ L) ho (by rw [e1]; exact hI1) k3 T' rfl X'
    exact ⟨t2, st t2 a1, b1⟩
  · subst hE
    obtain ⟨k1, k2, k3⟩ := vx_keep h0 e1 hS (fun q _ h => hA q h) hA hL hF
    obtain ⟨t2, a1, b1⟩ := kx x ce q T'.heap (locs ++ L) ho (by rw [e1]; exact hI1) k3 (by rw [e1]; exact hce) hcv hcl T' rfl X'
    exact ⟨t2, st.trans a1, b1⟩
end MS9
