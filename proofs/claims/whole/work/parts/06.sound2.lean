/-! the abstract machine against the machine: the memory -/
theorem mm_uws_ok : (List.range 4).all (fun c => (u_ws (mR c) (mT c) (mN c)).all (fun w => decide (w ∈ lw_tbl) && goodWord w)) = true := by decide +kernel
theorem mm_uws {c : Nat} (hc : c < 4) : ∀ w ∈ u_ws (mR c) (mT c) (mN c), w ∈ mm_WL := fun w hw => by
  have h1 := List.all_eq_true.mp (List.all_eq_true.mp mm_uws_ok c (List.mem_range.mpr hc)) w hw
  simp only [Bool.and_eq_true, decide_eq_true_eq] at h1
  exact List.mem_filter.mpr h1
theorem mm_T_ok : (List.range 4).all (fun c => (List.range (mN c)).all (fun j => decide ((mT c j).1 = mR c) && decide (parseFieldDescriptor (mT c j).2.2.1 = some (mF c j)) && (List.range (mN c)).all (fun b => decide (j = b) || !decide ((mT c j).2.1 = (mT c b).2.1)))) = true := by decide +kernel
theorem mm_T {c j : Nat} (hc : c < 4) (hj : j < mN c) : (mT c j).1 = mR c ∧ parseFieldDescriptor (mT c j).2.2.1 = some (mF c j) ∧ ∀ b, b < mN c → j ≠ b → (mT c j).2.1 ≠ (mT c b).2.1 := by
  have h1 := List.all_eq_true.mp (List.all_eq_true.mp mm_T_ok c (List.mem_range.mpr hc)) j (List.mem_range.mpr hj)
  simp only [Bool.and_eq_true, decide_eq_true_eq] at h1
  refine ⟨h1.1.1, h1.1.2, fun b hb hjb => ?_⟩
  have h2 := List.all_eq_true.mp h1.2 b (List.mem_range.mpr hb)
  simp only [Bool.or_eq_true, decide_eq_true_eq, Bool.not_eq_true', decide_eq_false_iff_not] at h2
  exact h2.resolve_left hjb
theorem mm_cl_at {c : Nat} (hc : c < 4) : mm_cl[c]? = some (mR c, mT c, mN c) := by
  match c, hc with
  | 0, _ => rfl
  | 1, _ => rfl
  | 2, _ => rfl
  | 3, _ => rfl
theorem mm_fld_eq {o i ci j : Nat} (h : mm_fld o i = some (ci, j)) : Cond.fieldLink (mR o) i (mR ci) (mT ci j).2.1 (mT ci j).2.2.1 ∈ mm_WL ∧ ci < 4 ∧ j < mN ci := by
  unfold mm_fld at h
  obtain ⟨e, he, h2⟩ := Option.map_eq_some_iff.mp h
  have h3 := List.all_eq_true.mp mm_FL_ok e (List.mem_of_find?_eq_some he)
  have h4 := List.find?_some he
  simp only [Bool.and_eq_true, decide_eq_true_eq, beq_iff_eq] at h3 h4
  obtain ⟨a1, a2, a3, a4, a5⟩ := e
  cases h2
  obtain ⟨rfl, rfl⟩ := h4
  exact ⟨mm_at_in h3.1.1, h3.1.2, h3.2⟩
def mm_e (cT : Nat → ClassId) (o : mm_O) : va_E := match o with
  | .inl q => .inl (cT q.1, q.2)
  | .inr o => .inr o
/-- the heap holds the memory -/
def mm_I (D : va_G) (cT : Nat → ClassId) (M : mm_M) (H : Heap) : Prop := H.size = M.1 ∧ ∀ (q : Nat) (o : mm_O), M.2.2 q = some o → va_at D mm_cl (q, mm_e cT o) H
abbrev mm_tys (cT : Nat → ClassId) : List (ClassId × FieldType) := [(cT 0, .int), (cT 1, .boolean), (cT 2, .object (mR 0)), (cT 3, .long), (cT 4, .double)]
def mm_A (M : mm_M) (q : Nat) : Prop := M.2.2 q ≠ none ∨ M.1 ≤ q
def mm_BW : List Cond := [.declares ⟨"java/lang/RuntimeException", "<init>", "()V"⟩, .declares ⟨"java/lang/Exception", "<init>", "()V"⟩, .declares ⟨"java/lang/Throwable", "<init>", "()V"⟩, .castable mIAE mIAE, .castable mISE mISE, .castable mIOB mIOB, .castable mNSE mNSE, .castable mUOE mUOE]
def mm_NC : List (String × String) := [(mISE, mIAE), (mIOB, mIAE), (mNSE, mIAE), (mUOE, mIAE), (mIOB, mISE), (mNSE, mISE), (mISE, mUOE), (mIOB, mUOE), (mNSE, mUOE)]
/-- what lies beside the memory: the script, Throwable's two statics, words of their own -/
def mm_Wd (X : Nat × Nat × (Nat → Int32)) (A : Nat → Prop) (U : State) (H : Heap) : Prop :=
  va_X X.1 X.2.1 X.2.2 U H ∧ X.1 < H.size ∧ ¬ A X.1 ∧ vx_Zq Bundle.tN "UNASSIGNED_STACK" Bundle.steD A U H ∧ vx_Zq Bundle.tN "SUPPRESSED_SENTINEL" Bundle.listD A U H ∧ (∀ w ∈ mm_BW, va_Nw w U) ∧ (∀ q ∈ mm_NC, va_Nc q.1 q.2 U) ∧ va_AO (mR 0) U
/-- what holds in a frame of method k from its entry on -/
def mm_Fx (D : va_G) (cT : Nat → ClassId) (X : Nat × Nat × (Nat → Int32)) (p : Program) (l : Launch) (s : State) (m : MethodId) (args : Array Value) (meth : Method) (c : Code) (k : Nat) (A : Nat → Prop) : Prop :=
  p.tables.exec = Jvm.exec ∧ c.code = mm_b k ∧ c.maxLocals = mm_mx k ∧ s.vm.findClass (mR (mm_own k)) = some m.cls ∧ (∀ w ∈ mm_WL, w.before args s = true) ∧ va_K D mm_cl (mm_tys cT) s ∧
  meth.sig.returnType = mm_rt k ∧ meth.locks = false ∧ (mm_kd k = 2 → meth.name = "<init>") ∧ l.stackTraces = false ∧ mm_Wd X A s s.heap ∧
  (¬ mm_kd k = 3 → ∀ x ∈ c.exceptionTable.toList, False) ∧ (mm_kd k = 3 → c.exceptionTable.toList = tableOf (mm_hh k))
theorem mm_I.set {D : va_G} {cT : Nat → ClassId} {M : mm_M} {H H1 : Heap} (h : mm_I D cT M H) {a : Nat} {o : mm_O} (h1 : va_at D mm_cl (a, mm_e cT o) H1) (z : H1.size = H.size) (oq : ∀ q : Nat, q ≠ a → H1[q]? = H[q]?) : mm_I D cT (mm_set M a o) H1 := by
  refine ⟨z.trans h.1, fun q o1 hq => ?_⟩
  unfold mm_set at hq
  dsimp only at hq
  by_cases hqa : q = a
  · subst hqa
    rw [if_pos rfl] at hq
    cases hq
    exact h1
  · rw [if_neg hqa] at hq
    exact (h.2 q o1 hq).kept (oq q hqa)
theorem mm_I.push {D : va_G} {cT : Nat → ClassId} {M : mm_M} {H H1 : Heap} (h : mm_I D cT M H) {n : Nat} {o : mm_O} (h1 : va_at D mm_cl (M.1, mm_e cT o) H1) (z : H1.size = H.size + 1) (oq : ∀ q : Nat, q < H.size → H1[q]? = H[q]?) : mm_I D cT (mm_push M n o) H1 := by
  refine ⟨by rw [z, h.1]; rfl, fun q o1 hq => ?_⟩
  unfold mm_push at hq
  dsimp only at hq
  by_cases hqa : q = M.1
  · subst hqa
    rw [if_pos rfl] at hq
    cases hq
    exact h1
  · rw [if_neg hqa] at hq
    have h2 := h.2 q o1 hq
    exact h2.kept (oq q h2.lt)
theorem mm_fits_ok {ty : FieldType} {v : Value} (h : mm_fits ty v = true) : narrow ty v = v ∧ fits ty v = true := by
  cases ty <;> cases v <;> first | (exfalso; revert h; simp [mm_fits, mm_vk]; done) | exact ⟨rfl, rfl⟩
section MS2
variable {p : Program} {l : Launch} {e : Env} {R : Room} {s : State} {m : MethodId} {args : Array Value} {below : List Frame} {meth : Method} {c : Code} {H : Heap} {locs : List Loc} {cells slots : Nat} {Q : State → Prop}
variable {pc : Nat} {ls : Array Slot} {r : List Value} {D : va_G} {cT : Nat → ClassId} {X : Nat × Nat × (Nat → Int32)} {k a : Nat} {A : Nat → Prop} {M : mm_M}
theorem mm_get_ok (F : mm_Fx D cT X p l s m args meth c k A) (hI : mm_I D cT M H) {idx ci j : Nat} {fs : List Value} {v : Value} (hd : decode (mm_b k) pc = .ok (.getfield idx, 3)) (hf : mm_fld (mm_own k) idx = some (ci, j)) (hM : M.2.2 a = some (.inr (ci, fs))) (hv : fs[j]? = some v)
    (kk : W p l e R s m args below meth c H locs cells slots Q (F0 m (pc + 3) ls (v :: r))) : W p l e R s m args below meth c H locs cells slots Q (F0 m pc ls (.ref a :: r)) := by
  obtain ⟨hx, hb, -, hown, hts, hK, -⟩ := F
  obtain ⟨h1, h2, h3⟩ := mm_fld_eq hf
  have hP : va_P D mm_cl [(a, .inr (ci, fs))] H := fun n q hq => by
    have hz : n < 1 := (List.getElem?_eq_some_iff.mp hq).1
    rw [show n = 0 by omega] at hq
    cases hq
    exact hI.2 a _ hM
  exact va_get hx hb hts (mm_uws h2) hown hK hP 0 rfl (mm_cl_at h2) j h3 (hts _ h1) (fun x h => by rw [(mm_T h2 h3).1] at h; exact h) hv hd kk
theorem mm_put_ok (F : mm_Fx D cT X p l s m args meth c k A) (hI : mm_I D cT M H) (hS : va_S A s.heap H locs) (hA : A a) {idx ci j : Nat} {fs : List Value} {v : Value} (hd : decode (mm_b k) pc = .ok (.putfield idx, 3)) (hf : mm_fld (mm_own k) idx = some (ci, j)) (hM : M.2.2 a = some (.inr (ci, fs)))
    (hl : j < fs.length) (hfit : mm_fits (mF ci j) v = true) (hfin : (mT ci j).2.2.2 = false ∨ (mm_kd k = 2 ∧ ci = mm_own k))
    (kk : ∀ (H1 : Heap) (locs1 : List Loc), mm_I D cT (mm_set M a (.inr (ci, fs.set j v))) H1 → va_S A s.heap H1 locs1 → W p l e R s m args below meth c H1 locs1 cells slots Q (F0 m (pc + 3) ls r)) : W p l e R s m args below meth c H locs cells slots Q (F0 m pc ls (v :: .ref a :: r)) := by
  obtain ⟨hx, hb, -, hown, hts, hK, -, -, hini, -⟩ := F
  obtain ⟨h1, h2, h3⟩ := mm_fld_eq hf
  have hT := mm_T h2 h3
  obtain ⟨hn, hfit⟩ := mm_fits_ok hfit
  have hc := mm_cl_at h2
  have hap := va_apart (own := mR (mm_own k)) hts (mm_uws h2) (mF ci) (fun j hj => (mm_T h2 hj).2.1) (fun x hx y hy hne => (mm_T h2 hx).2.2 y hy hne) hK hc
  obtain ⟨rr, g1, cell, q1, q2, q3, q4⟩ := hI.2 a _ hM
  have hr : rr = (mR ci, mT ci, mN ci) := Option.some.inj (g1.symm.trans hc)
  subst hr
  dsimp only [mm_e] at q1 q2 q3 q4
  obtain ⟨hSl, hfc, kC, hkC, hkind⟩ := hK.1 ci _ hc
  obtain ⟨cf, kf, fi, f, hi, hsl⟩ := hSl j h3
  have hi' : s.fieldFound? (mR ci) (mT ci j).2.1 (mT ci j).2.2.1 = some (cf, kf, fi, f) := by rw [hT.1] at hi; exact hi
  have hst := (u_facts hfc hkC (u_lays hts (mm_uws h2) h3) hi).1
  have done : ∀ (H1 : Heap), H1[a]? = some (cell.setSlot f.slot v) → H1.size = H.size → (∀ q, q ≠ a → H1[q]? = H[q]?) → W p l e R s m args below meth c H1 (locs ++ [⟨a, f.slot⟩]) cells slots Q (F0 m (pc + 3) ls r) := by
    intro H1 e1 e2 e3
    rw [hsl] at e1 ⊢
    exact kk H1 _ (hI.set ⟨_, hc, t_OB.to (V := updV (vp_V fs) j v) ⟨_, e1, q2, q3, t_set q4 hap h3 v⟩ (fun x _ => vp_updV_set hl v x)⟩ e2 e3) (hS.put e2 e3 hA)
  have hlay := hts _ (mm_uws h2 _ (u_in_lay h3))
  unfold u_lay at hlay
  cases hfb : (mT ci j).2.2.2 with
  | false =>
    rw [if_neg (by rw [hfb]; decide)] at hlay
    have h6 := u_store hfc hkC hkind hlay hi hT.2.1 hn hfit
    exact W.putK hx hb (f := f) ⟨hown, hts _ h1, ⟨_, _, _, hi'⟩, hst⟩ (by rw [q2]; exact h6) q1 q3 (by rw [hsl]; exact k2_hasslot (q4 j h3)) rfl rfl hd done
  | true =>
    have hk2 := hfin.resolve_left (by rw [hfb]; decide)
    rw [if_pos hfb] at hlay
    have hcf : m.cls = cf := by
      obtain ⟨_, _, c', _, _, _, -, -, hf', -, -, -, hown2, -⟩ := Cond.laysFinal_spec hlay
      have e1 : c' = cf := by have := hi.symm.trans hf'; simp at this; exact this.1.symm
      rw [hT.1, hk2.2] at hown2
      rw [← e1]; exact Option.some.inj (hown.symm.trans hown2)
    have h6 := u_fits hfc hkC hkind (Or.inr hlay) hi hT.2.1 hn hfit
    exact W.putFinK hx hb hown (hts _ h1) hi' hst hcf (hini hk2.1) (by rw [q2]; exact h6) q1 q3 (by rw [hsl]; exact k2_hasslot (q4 j h3)) rfl rfl hd done
end MS2
