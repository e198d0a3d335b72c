/-! the abstract machine against the machine: throws, calls, and the whole -/
section MS5
variable {p : Program} {l : Launch} {e : Env} {R : Room} {s : State} {m : MethodId} {args : Array Value} {below : List Frame} {meth : Method} {c : Code} {H : Heap} {locs : List Loc} {cells slots : Nat} {Q : State → Prop}
variable {mc ms : Nat} {free : Addr → Prop} {A0 A1 : Nat → Prop} {H0 : Heap} {a : Array Value} {ls : Array Slot} {st0 rest : List Value}
variable {Qc : Array Value → State → Outcome → State → Prop} {XC : String → State → State → Prop}
/-- vx_throw0 of the printed kit (part 02), with the heap's size behind it -/
theorem mm_throw0 {cc : ByteArray} {pc : Nat} (hexec : p.tables.exec = Jvm.exec) (hb : c.code = cc) (hl : l.stackTraces = false) {own cls : String} {names : List String} {ik ic mc ms : Nat} {A : Nat → Prop}
    (hown : s.vm.findClass own = some m.cls) (hcls : Bundle.fit cls = true) (hnames : ∀ n ∈ names, Bundle.fit n = true)
    (hk : (Cond.classLink own ik cls).before args s = true) (hini : (Cond.initialized cls).before args s = true) (hat : ∀ w ∈ vx_at0 own ic cls names, w.before args s = true)
    (hgood : ∀ w ∈ Cond.classLink own ik cls :: Cond.initialized cls :: vx_at0 own ic cls names, vx_ot w = true)
    (hU : vx_Zq Bundle.tN "UNASSIGNED_STACK" Bundle.steD A s s.heap) (hN : vx_Zq Bundle.tN "SUPPRESSED_SENTINEL" Bundle.listD A s s.heap) (hS : va_S A s.heap H locs) (hsize : ls.size = c.maxLocals)
    (d0 : decode cc pc = .ok (.new ik, 3)) (d3 : decode cc (pc + 3) = .ok (.dup, 1)) (d4 : decode cc (pc + 4) = .ok (.invokespecial ic, 3)) (d7 : decode cc (pc + 7) = .ok (.athrow, 1))
    (hout : ∀ x ∈ c.exceptionTable.toList, covers x (pc + 7) = false)
    (hRframes : names.length + 3 < R.frames) (hRlocals : (rest.map fun v => v.category).sum + (13 * (names.length + 1) + 42) ≤ R.locals) (hRcells : cells + 1 ≤ R.cells) (hRslots : slots + 6 ≤ R.slots) (hlocks : meth.locks = false)
    (hx : ∀ t : State, s.vm.Alike t.vm → t.heap.size = H.size + 1 → (∀ q : Nat, q < H.size → t.heap[q]? = H[q]?) → XC cls s t)
    (hf : ∀ z ∈ locs, free z.base) (hc : cells + 1 ≤ mc) (hs : slots + 6 ≤ ms) :
    W p l e R s m args below meth c H locs cells slots (vx_MQ below Qc XC args s mc ms free) (F0 m pc ls rest) := by
  intro T hT X
  have htr : e.platform.stackTraces = false := (show e.platform.stackTraces = l.stackTraces by rw [X.admits.platform]).trans hl
  have Y := vx_rebase X (R' := { frames := R.frames, locals := R.locals, cells := 1, slots := 6 }) (Nat.le_refl _) (Nat.le_refl _) hRcells hRslots
  obtain ⟨s', hA⟩ : ∃ z, z = (T.setVm s.vm).setFrames (.invoking m args :: below) := ⟨_, rfl⟩
  rw [← hA] at Y
  have hvm : s'.vm = s.vm := by rw [hA]; rfl
  have hhp : s'.heap = H := by rw [hA]; exact hT
  have hW0 : s.WarmedH s'.vm := by rw [hvm]; exact State.WarmedH.refl s
  have hat' : ∀ w ∈ vx_at0 own ic cls names, w.before args s' = true := fun w hw => vx_ot_at hW0 hvm.symm (hgood w (List.mem_cons_of_mem _ (List.mem_cons_of_mem _ hw))) (hat w hw)
  have hk' : (Cond.classLink own ik cls).before args s' = true := vx_ot_at hW0 hvm.symm (hgood _ List.mem_cons_self) hk
  have hini' : (Cond.initialized cls).before args s' = true := vx_ot_at hW0 hvm.symm (hgood _ (List.mem_cons_of_mem _ List.mem_cons_self)) hini
  have hU' : vx_Zq Bundle.tN "UNASSIGNED_STACK" Bundle.steD A s' s'.heap := by rw [hhp]; exact vx_Zq.moved hW0.alike (hU.kept hS.2.1)
  have hN' : vx_Zq Bundle.tN "SUPPRESSED_SENTINEL" Bundle.listD A s' s'.heap := by rw [hhp]; exact vx_Zq.moved hW0.alike (hN.kept hS.2.1)
  have h : ∀ w ∈ Bundle.ownAtoms0 own ic cls names, w.before args s' = true := vx_own hat' (vx_isRefq hU'.1) (vx_isRefq hN'.1) hU'.2.word hN'.2.word
  have hown' : s'.vm.findClass own = some m.cls := by rw [hvm]; exact hown
  have hins : (Cond.instantiable cls 6).before args s' = true := h _ (by simp [Bundle.ownAtoms0])
  obtain ⟨vm₁, cX, kX, hfX, hkX, -, -, X₁, st1⟩ := Y.newCold hexec (own := own) (C := cls) (index := ik) (n := 6) hown' hk' hins hini'
    (g := F0 m pc ls rest) rfl (by rw [hb]; exact d0) (Nat.le_refl _) (Nat.le_refl _)
  generalize hT1 : (T.setVm vm₁).pushCell { cls := cX, slots := kX.instanceTypes.map defaultValue, vm := .none } = T1 at X₁ st1
  have hcat : (Value.ref T.heap.size).category = 1 := rfl
  have hcellA : T1.heap[T.heap.size]? = some (freshCell cX kX) := by rw [← hT1]; exact State.heap_pushCell_size _ _
  have d3' : decode c.code (pc + 3) = .ok (.dup, 1) := by rw [hb]; exact d3
  obtain ⟨U, hsteps, hrun, hend, hW, hsame, ce, hce, hO⟩ := X₁.ctorThrow0 hexec htr (own := own) (cls := cls) (names := names) (ic := ic) hown' hcls hnames h (fun x hx => nomatch hx) hfX hkX hcellA (by rw [hhp, hT]; exact Nat.le_refl _)
    (g := { method := m, pc := pc + 4, locals := ls, stack := .ref T.heap.size :: .ref T.heap.size :: rest, locked := none }) rfl hsize rfl rfl (rest := rest) rfl
    (by rw [hb]; exact d4) (by rw [hb]; exact d7) hout hRframes (by simp only [List.map_cons, List.sum_cons, hcat]; omega) hlocks
  obtain ⟨f1, f2⟩ := vx_frame hsame
  rw [hhp] at f1 f2
  have f3 : U.heap.size = H.size + 1 := by
    have g1 : U.heap.size ≤ s'.heap.size + (0 + 1) := hsame.2.2.1
    have g2 : T.heap.size < U.heap.size := (Array.getElem?_eq_some_iff.mp hce).1
    rw [hhp] at g1
    rw [hT] at g2
    omega
  have hWs : s.WarmedH U.vm := State.WarmedH.trans hW0 hW
  have hcl : s.vm.findClass cls = some ce.cls := by
    have h9 := hO.cls
    rw [hvm] at h9
    exact h9
  have hall : s.sameButNew ({ U with vm := s.vm } : State) locs mc ms := by
    subst hA
    obtain ⟨e1, e2⟩ := hsame
    rw [State.setFrames_setFrames] at e1
    have h2 : (T.setVm s.vm).sameButNew ({ U with vm := s.vm } : State) [] (0 + 1) (0 + 6) := ⟨e1, e2⟩
    have h3 := X.same.trans h2
    rw [List.append_nil] at h3
    exact h3.mono hc hs
  refine ⟨U, ?_, .threw T.heap.size, hrun, hend, Or.inr ⟨T.heap.size, rfl, cls, ce, locs, hx U hWs.alike f3 (fun q hq => f2 q hq (fun z hz => nomatch hz)), hce, hO.vm, hcl, hWs, hall, hf⟩⟩
  refine st1 _ ?_
  show Steps p.tables e below (T1.setTop { method := m, pc := pc + 3, locals := ls, stack := .ref T.heap.size :: rest, locked := none }) _
  jvm_step X₁.here [X₁.here.top, hexec, d3', Value.category]
  exact hsteps
end MS5
theorem mm_Wd.same {X : Nat × Nat × (Nat → Int32)} {A : Nat → Prop} {u U : State} {H : Heap} (hvm : u.vm = U.vm) (h : mm_Wd X A u H) : mm_Wd X A U H := by
  obtain ⟨w1, w2, w3, w4, w5, w6, w7, w8⟩ := h
  have hal : u.vm.Alike U.vm := by rw [hvm]; exact Vm.Alike.refl _
  refine ⟨va_X.moved hal w1, w2, w3, vx_Zq.moved hal w4, vx_Zq.moved hal w5, fun w hw => ?_, fun q hq => (w7 q hq).moved hal, va_AO.moved hal w8⟩
  refine va_Nw.same ?_ hvm (w6 w hw)
  simp only [mm_BW, List.mem_cons, List.not_mem_nil, or_false] at hw
  rcases hw with rfl | rfl | rfl | rfl | rfl | rfl | rfl | rfl <;> rfl
theorem mm_Wd.warm {X : Nat × Nat × (Nat → Int32)} {A : Nat → Prop} {u U : State} {H : Heap} (hW : u.WarmedH U.vm) (h : mm_Wd X A u H) : mm_Wd X A U H := by
  obtain ⟨w1, w2, w3, w4, w5, w6, w7, w8⟩ := h
  have hal : u.vm.Alike U.vm := hW.alike
  refine ⟨va_X.moved hal w1, w2, w3, vx_Zq.moved hal w4, vx_Zq.moved hal w5, fun w hw => ?_, fun q hq => (w7 q hq).moved hal, va_AO.moved hal w8⟩
  have h6 := w6 w hw
  simp only [mm_BW, List.mem_cons, List.not_mem_nil, or_false] at hw
  rcases hw with rfl | rfl | rfl | rfl | rfl | rfl | rfl | rfl
  · exact va_Nw.warmD hW h6
  · exact va_Nw.warmD hW h6
  · exact va_Nw.warmD hW h6
  · exact va_Nw.warmC hW h6
  · exact va_Nw.warmC hW h6
  · exact va_Nw.warmC hW h6
  · exact va_Nw.warmC hW h6
  · exact va_Nw.warmC hW h6
theorem mm_Wd.kept {X : Nat × Nat × (Nat → Int32)} {A B : Nat → Prop} {U : State} {H H1 : Heap} (h : mm_Wd X A U H) (hz : H.size ≤ H1.size) (hq : ∀ a : Nat, a < H.size → ¬ A a → H1[a]? = H[a]?) (hAB : ∀ q, B q → A q) : mm_Wd X B U H1 := by
  obtain ⟨w1, w2, w3, w4, w5, w6, w7, w8⟩ := h
  exact ⟨w1.kept (hq _ w2 w3), Nat.lt_of_lt_of_le w2 hz, fun z => w3 (hAB _ z), (w4.kept hq).narrow hAB, (w5.kept hq).narrow hAB, w6, w7, w8⟩
def mm_ws (k : Nat) : List Cond := mm_code k :: mm_WL
def mm_rm (d k n : Nat) : Room := { frames := d, cells := k, slots := n, locals := 64 * d }
def mm_le (M M' : mm_M) : Prop := M.1 ≤ M'.1 ∧ M.2.1 ≤ M'.2.1 ∧ ∀ q, mm_A M' q → mm_A M q
theorem mm_le.refl (M : mm_M) : mm_le M M := ⟨Nat.le_refl _, Nat.le_refl _, fun _ h => h⟩
theorem mm_le.trans {M M1 M2 : mm_M} (h : mm_le M M1) (h2 : mm_le M1 M2) : mm_le M M2 := ⟨Nat.le_trans h.1 h2.1, Nat.le_trans h.2.1 h2.2.1, fun q z => h.2.2 q (h2.2.2 q z)⟩
theorem mm_le.set {M : mm_M} {a : Nat} {o o' : mm_O} (h : M.2.2 a = some o) : mm_le M (mm_set M a o') := by
  refine ⟨Nat.le_refl _, Nat.le_refl _, fun q z => ?_⟩
  rcases z with z | z
  · by_cases hq : q = a
    · subst hq; exact Or.inl (by rw [h]; simp)
    · refine Or.inl ?_
      unfold mm_set at z
      dsimp only at z
      rwa [if_neg hq] at z
  · exact Or.inr z
theorem mm_le.push {M : mm_M} {n : Nat} {o : mm_O} : mm_le M (mm_push M n o) := by
  refine ⟨by unfold mm_push; simp, by unfold mm_push; simp, fun q z => ?_⟩
  rcases z with z | z
  · by_cases hq : q = M.1
    · exact Or.inr (by omega)
    · refine Or.inl ?_
      unfold mm_push at z
      dsimp only at z
      rwa [if_neg hq] at z
  · exact Or.inr (by unfold mm_push at z; dsimp only at z; omega)
theorem mm_le.skip {M : mm_M} {n : Nat} : mm_le M (mm_skip M n) := by
  refine ⟨by unfold mm_skip; simp, by unfold mm_skip; simp, fun q z => ?_⟩
  rcases z with z | z
  · exact Or.inl z
  · exact Or.inr (by unfold mm_skip at z; dsimp only at z; omega)
/-- what the abstract machine says of the machine from a point of method k on -/
def mm_Go (D : va_G) (cT : Nat → ClassId) (X : Nat × Nat × (Nat → Int32)) (d k pc : Nat) (al : List (Option Value)) (st : List Value) (M : mm_M) (o : mm_Out) (M' : mm_M) : Prop :=
  mm_le M M' ∧ ∀ {p : Program} {l : Launch} {e : Env} {R : Room} {s : State} {m : MethodId} {args : Array Value} {below : List Frame} {meth : Method} {c : Code} {H : Heap} {locs : List Loc} {cells slots mc ms : Nat} {ls : Array Slot} {Qc : Array Value → State → Outcome → State → Prop} {XC : String → State → State → Prop} {free : Addr → Prop} {A : Nat → Prop},
    mm_Fx D cT X p l s m args meth c k A → mm_L ls (mm_mx k) al → mm_I D cT M H → va_S A s.heap H locs → (∀ q, mm_A M q → A q) → (∀ q, A q → free q) → cells + (M'.1 - M.1) ≤ mc → slots + (M'.2.1 - M.2.1) ≤ ms → mc ≤ R.cells → ms ≤ R.slots → d ≤ R.frames → 64 * d ≤ R.locals →
    (∀ (t : State) (v : Option Value), o = .inl v → mm_I D cT M' t.heap → s.WarmedH t.vm → va_F A s t → Qc args s (.returned v) t) →
    (∀ (t : State) (x : Nat), o = .inr x → mm_I D cT M' t.heap → s.vm.Alike t.vm → va_F A s t → XC (mm_E x) s t) →
    W p l e R s m args below meth c H locs cells slots (vx_MQ below Qc XC args s mc ms free) (F0 m pc ls st)
section MS6
variable {D : va_G} {cT : Nat → ClassId} {X : Nat × Nat × (Nat → Int32)} {d k pc pc2 : Nat} {al al2 : List (Option Value)} {st st2 : List Value} {M M2 M' : mm_M} {o : mm_Out}
/-- one step on: the row of the step, in every frame -/
theorem mm_Go.of (hle : mm_le M M2) (g : mm_Go D cT X d k pc2 al2 st2 M2 o M')
    (row : ∀ {p : Program} {l : Launch} {e : Env} {R : Room} {s : State} {m : MethodId} {args : Array Value} {below : List Frame} {meth : Method} {c : Code} {H : Heap} {locs : List Loc} {cells slots : Nat} {ls : Array Slot} {A : Nat → Prop} {Q : State → Prop},
      mm_Fx D cT X p l s m args meth c k A → mm_L ls (mm_mx k) al → mm_I D cT M H → va_S A s.heap H locs → (∀ q, mm_A M q → A q) → cells + (M2.1 - M.1) ≤ R.cells → slots + (M2.2.1 - M.2.1) ≤ R.slots → d ≤ R.frames → 64 * d ≤ R.locals →
      (∀ (H2 : Heap) (locs2 : List Loc) (ls2 : Array Slot), mm_L ls2 (mm_mx k) al2 → mm_I D cT M2 H2 → va_S A s.heap H2 locs2 → W p l e R s m args below meth c H2 locs2 (cells + (M2.1 - M.1)) (slots + (M2.2.1 - M.2.1)) Q (F0 m pc2 ls2 st2)) →
      W p l e R s m args below meth c H locs cells slots Q (F0 m pc ls st)) : mm_Go D cT X d k pc al st M o M' := by
  refine ⟨hle.trans g.1, ?_⟩
  intro p l e R s m args below meth c H locs cells slots mc ms ls Qc XC free A F hL hI hS hA hfr hc hs hmc hms hd h64 hq hx
  obtain ⟨h1, h2, h3⟩ := hle
  obtain ⟨⟨g1, g2, g3⟩, g4⟩ := g
  exact row F hL hI hS hA (by omega) (by omega) hd h64 (fun H2 locs2 ls2 hL2 hI2 hS2 => g4 F hL2 hI2 hS2 (fun q z => hA q (h3 q z)) hfr (by omega) (by omega) hmc hms hd h64 hq hx)
/-- .. that leaves the memory -/
theorem mm_Go.of0 (g : mm_Go D cT X d k pc2 al2 st2 M o M')
    (row : ∀ {p : Program} {l : Launch} {e : Env} {R : Room} {s : State} {m : MethodId} {args : Array Value} {below : List Frame} {meth : Method} {c : Code} {H : Heap} {locs : List Loc} {cells slots : Nat} {ls : Array Slot} {A : Nat → Prop} {Q : State → Prop},
      mm_Fx D cT X p l s m args meth c k A → mm_L ls (mm_mx k) al → mm_I D cT M H → va_S A s.heap H locs → cells ≤ R.cells → slots ≤ R.slots → d ≤ R.frames → 64 * d ≤ R.locals →
      (∀ ls2 : Array Slot, mm_L ls2 (mm_mx k) al2 → W p l e R s m args below meth c H locs cells slots Q (F0 m pc2 ls2 st2)) →
      W p l e R s m args below meth c H locs cells slots Q (F0 m pc ls st)) : mm_Go D cT X d k pc al st M o M' := by
  refine mm_Go.of (mm_le.refl M) g ?_
  intro p l e R s m args below meth c H locs cells slots ls A Q F hL hI hS hA hc hs hd h64 kk
  exact row F hL hI hS (by omega) (by omega) hd h64 (fun ls2 hL2 => by simpa using kk H locs ls2 hL2 hI hS)
/-- .. that changes one cell -/
theorem mm_Go.ofS {a : Nat} {x x' : mm_O} (hM : M.2.2 a = some x) (g : mm_Go D cT X d k pc2 al st2 (mm_set M a x') o M')
    (row : ∀ {p : Program} {l : Launch} {e : Env} {R : Room} {s : State} {m : MethodId} {args : Array Value} {below : List Frame} {meth : Method} {c : Code} {H : Heap} {locs : List Loc} {cells slots : Nat} {ls : Array Slot} {A : Nat → Prop} {Q : State → Prop},
      mm_Fx D cT X p l s m args meth c k A → mm_I D cT M H → va_S A s.heap H locs → A a → ls.size = mm_mx k → d ≤ R.frames → 64 * d ≤ R.locals →
      (∀ (H2 : Heap) (locs2 : List Loc), mm_I D cT (mm_set M a x') H2 → va_S A s.heap H2 locs2 → W p l e R s m args below meth c H2 locs2 cells slots Q (F0 m pc2 ls st2)) →
      W p l e R s m args below meth c H locs cells slots Q (F0 m pc ls st)) : mm_Go D cT X d k pc al st M o M' := by
  refine mm_Go.of (mm_le.set hM) g ?_
  intro p l e R s m args below meth c H locs cells slots ls A Q F hL hI hS hA hc hs hd h64 kk
  refine row F hI hS (hA a (Or.inl (by rw [hM]; simp))) hL.1 hd h64 (fun H2 locs2 hI2 hS2 => ?_)
  have h := kk H2 locs2 ls hL hI2 hS2
  simpa [mm_set] using h
/-- .. that makes a cell -/
theorem mm_Go.ofP {n : Nat} {x : mm_O} (g : mm_Go D cT X d k pc2 al st2 (mm_push M n x) o M')
    (row : ∀ {p : Program} {l : Launch} {e : Env} {R : Room} {s : State} {m : MethodId} {args : Array Value} {below : List Frame} {meth : Method} {c : Code} {H : Heap} {locs : List Loc} {cells slots : Nat} {ls : Array Slot} {A : Nat → Prop} {Q : State → Prop},
      mm_Fx D cT X p l s m args meth c k A → mm_I D cT M H → va_S A s.heap H locs → cells + 1 ≤ R.cells → slots + n ≤ R.slots →
      (∀ (H2 : Heap), mm_I D cT (mm_push M n x) H2 → va_S A s.heap H2 locs → W p l e R s m args below meth c H2 locs (cells + 1) (slots + n) Q (F0 m pc2 ls st2)) →
      W p l e R s m args below meth c H locs cells slots Q (F0 m pc ls st)) : mm_Go D cT X d k pc al st M o M' := by
  refine mm_Go.of mm_le.push g ?_
  intro p l e R s m args below meth c H locs cells slots ls A Q F hL hI hS hA hc hs hd h64 kk
  have e1 : (mm_push M n x).1 - M.1 = 1 := by unfold mm_push; simp
  have e2 : (mm_push M n x).2.1 - M.2.1 = n := by unfold mm_push; simp
  rw [e1] at hc
  rw [e2] at hs
  refine row F hI hS hc hs (fun H2 hI2 hS2 => ?_)
  have h := kk H2 locs ls hL hI2 hS2
  rwa [e1, e2] at h
end MS6
