/-! the abstract machine against the machine: arrays, new cells, copies, throws -/
theorem mm_one {D : va_G} {cT : Nat → ClassId} {M : mm_M} {H : Heap} {a : Nat} {o : mm_O} (hI : mm_I D cT M H) (hM : M.2.2 a = some o) : va_P D mm_cl [(a, mm_e cT o)] H := fun n q hq => by
  have hz : n < 1 := (List.getElem?_eq_some_iff.mp hq).1
  rw [show n = 0 by omega] at hq
  cases hq
  exact hI.2 a _ hM
section MS3
variable {p : Program} {l : Launch} {e : Env} {R : Room} {s : State} {m : MethodId} {args : Array Value} {below : List Frame} {meth : Method} {c : Code} {H : Heap} {locs : List Loc} {cells slots : Nat} {Q : State → Prop}
variable {pc : Nat} {ls : Array Slot} {r : List Value} {D : va_G} {cT : Nat → ClassId} {X : Nat × Nat × (Nat → Int32)} {k a : Nat} {A : Nat → Prop} {M : mm_M}
theorem mm_iald_ok (F : mm_Fx D cT X p l s m args meth c k A) (hI : mm_I D cT M H) {n : Nat} {f : Nat → Int32} {j : Int32} (hd : decode (mm_b k) pc = .ok (.iaload, 1)) (hM : M.2.2 a = some (.inl (0, n, .inl f))) (hj : ¬ (j < 0 ∨ n ≤ j.toNatClampNeg))
    (kk : W p l e R s m args below meth c H locs cells slots Q (F0 m (pc + 1) ls (.int (f j.toNatClampNeg) :: r))) : W p l e R s m args below meth c H locs cells slots Q (F0 m pc ls (.int j :: .ref a :: r)) := by
  obtain ⟨hx, hb, -, hown, hts, hK, -⟩ := F
  exact va_iald hx hb hK (mm_one hI hM) 0 0 (tys := mm_tys cT) rfl rfl hj hd kk
theorem mm_zald_ok (F : mm_Fx D cT X p l s m args meth c k A) (hI : mm_I D cT M H) {n : Nat} {f : Nat → Int32} {j : Int32} (hd : decode (mm_b k) pc = .ok (.baload, 1)) (hM : M.2.2 a = some (.inl (1, n, .inl f))) (hj : ¬ (j < 0 ∨ n ≤ j.toNatClampNeg))
    (kk : W p l e R s m args below meth c H locs cells slots Q (F0 m (pc + 1) ls (.int (f j.toNatClampNeg) :: r))) : W p l e R s m args below meth c H locs cells slots Q (F0 m pc ls (.int j :: .ref a :: r)) := by
  obtain ⟨hx, hb, -, hown, hts, hK, -⟩ := F
  exact va_zald hx hb hK (mm_one hI hM) 0 1 (tys := mm_tys cT) rfl rfl hj hd kk
theorem mm_aald_ok (F : mm_Fx D cT X p l s m args meth c k A) (hI : mm_I D cT M H) {n : Nat} {f : Nat → Option Nat} {j : Int32} (hd : decode (mm_b k) pc = .ok (.aaload, 1)) (hM : M.2.2 a = some (.inl (2, n, .inr (.inr (.inr (.inr f)))))) (hj : ¬ (j < 0 ∨ n ≤ j.toNatClampNeg))
    (kk : W p l e R s m args below meth c H locs cells slots Q (F0 m (pc + 1) ls (va_rf (f j.toNatClampNeg) :: r))) : W p l e R s m args below meth c H locs cells slots Q (F0 m pc ls (.int j :: .ref a :: r)) := by
  obtain ⟨hx, hb, -, hown, hts, hK, -⟩ := F
  exact va_aldq hx hb hK (mm_one hI hM) 0 2 (tys := mm_tys cT) rfl rfl hj hd kk
theorem mm_lald_ok (F : mm_Fx D cT X p l s m args meth c k A) (hI : mm_I D cT M H) {n : Nat} {f : Nat → Int64} {j : Int32} (hd : decode (mm_b k) pc = .ok (.laload, 1)) (hM : M.2.2 a = some (.inl (3, n, .inr (.inl f)))) (hj : ¬ (j < 0 ∨ n ≤ j.toNatClampNeg))
    (kk : W p l e R s m args below meth c H locs cells slots Q (F0 m (pc + 1) ls (.long (f j.toNatClampNeg) :: r))) : W p l e R s m args below meth c H locs cells slots Q (F0 m pc ls (.int j :: .ref a :: r)) := by
  obtain ⟨hx, hb, -, hown, hts, hK, -⟩ := F
  exact va_lald hx hb hK (mm_one hI hM) 0 3 (tys := mm_tys cT) rfl rfl hj hd kk
theorem mm_dald_ok (F : mm_Fx D cT X p l s m args meth c k A) (hI : mm_I D cT M H) {n : Nat} {f : Nat → UInt64} {j : Int32} (hd : decode (mm_b k) pc = .ok (.daload, 1)) (hM : M.2.2 a = some (.inl (4, n, .inr (.inr (.inr (.inl f)))))) (hj : ¬ (j < 0 ∨ n ≤ j.toNatClampNeg))
    (kk : W p l e R s m args below meth c H locs cells slots Q (F0 m (pc + 1) ls (.double (f j.toNatClampNeg) :: r))) : W p l e R s m args below meth c H locs cells slots Q (F0 m pc ls (.int j :: .ref a :: r)) := by
  obtain ⟨hx, hb, -, hown, hts, hK, -⟩ := F
  exact va_dald hx hb hK (mm_one hI hM) 0 4 (tys := mm_tys cT) rfl rfl hj hd kk
theorem mm_iast_ok (F : mm_Fx D cT X p l s m args meth c k A) (hI : mm_I D cT M H) (hS : va_S A s.heap H locs) (hA : A a) {n : Nat} {f : Nat → Int32} {j : Int32} {x : Int32} (hd : decode (mm_b k) pc = .ok (.iastore, 1)) (hM : M.2.2 a = some (.inl (0, n, .inl f))) (hj : ¬ (j < 0 ∨ n ≤ j.toNatClampNeg))
    (kk : ∀ (H1 : Heap) (locs1 : List Loc), mm_I D cT (mm_set M a (.inl (0, n, .inl (upd f j.toNatClampNeg x)))) H1 → va_S A s.heap H1 locs1 → W p l e R s m args below meth c H1 locs1 cells slots Q (F0 m (pc + 1) ls r)) : W p l e R s m args below meth c H locs cells slots Q (F0 m pc ls (.int x :: .int j :: .ref a :: r)) := by
  obtain ⟨hx, hb, -, hown, hts, hK, -⟩ := F
  refine W.iast hx hb (mm_one hI hM 0 _ rfl) ((hK.2 0 _ rfl).1 n (fun j => .int (f j))) (fun q => by cases q) (by show ¬ (j < 0 ∨ (arrV _ _ _).slots.size ≤ _); rw [arrV_size]; exact hj) rfl rfl hd fun H1 e1 z oq => ?_
  refine kk H1 _ (hI.set ?_ z oq) (hS.put z oq hA)
  show H1[a]? = some (vp_cell _ _)
  rw [e1]
  dsimp only
  rw [vp_cell_i, vp_cell_i, arrV_store]
  congr 2
  funext q
  by_cases hq : q = j.toNatClampNeg
  · subst hq
    simp [updV, upd]
    try rfl
  · simp [updV, upd, hq]
theorem mm_zast_ok (F : mm_Fx D cT X p l s m args meth c k A) (hI : mm_I D cT M H) (hS : va_S A s.heap H locs) (hA : A a) {n : Nat} {f : Nat → Int32} {j : Int32} {x : Int32} (hd : decode (mm_b k) pc = .ok (.bastore, 1)) (hM : M.2.2 a = some (.inl (1, n, .inl f))) (hj : ¬ (j < 0 ∨ n ≤ j.toNatClampNeg))
    (kk : ∀ (H1 : Heap) (locs1 : List Loc), mm_I D cT (mm_set M a (.inl (1, n, .inl (upd f j.toNatClampNeg (vp_nar .boolean x))))) H1 → va_S A s.heap H1 locs1 → W p l e R s m args below meth c H1 locs1 cells slots Q (F0 m (pc + 1) ls r)) : W p l e R s m args below meth c H locs cells slots Q (F0 m pc ls (.int x :: .int j :: .ref a :: r)) := by
  obtain ⟨hx, hb, -, hown, hts, hK, -⟩ := F
  refine W.zast hx hb (mm_one hI hM 0 _ rfl) ((hK.2 1 _ rfl).1 n (fun j => .int (f j))) (fun q => by cases q) (by show ¬ (j < 0 ∨ (arrV _ _ _).slots.size ≤ _); rw [arrV_size]; exact hj) rfl rfl hd fun H1 e1 z oq => ?_
  refine kk H1 _ (hI.set ?_ z oq) (hS.put z oq hA)
  show H1[a]? = some (vp_cell _ _)
  rw [e1]
  dsimp only
  rw [vp_cell_i, vp_cell_i, arrV_store]
  congr 2
  funext q
  by_cases hq : q = j.toNatClampNeg
  · subst hq
    simp [updV, upd, vp_nar]
    try rfl
  · simp [updV, upd, vp_nar, hq]
theorem mm_last_ok (F : mm_Fx D cT X p l s m args meth c k A) (hI : mm_I D cT M H) (hS : va_S A s.heap H locs) (hA : A a) {n : Nat} {f : Nat → Int64} {j : Int32} {x : Int64} (hd : decode (mm_b k) pc = .ok (.lastore, 1)) (hM : M.2.2 a = some (.inl (3, n, .inr (.inl f)))) (hj : ¬ (j < 0 ∨ n ≤ j.toNatClampNeg))
    (kk : ∀ (H1 : Heap) (locs1 : List Loc), mm_I D cT (mm_set M a (.inl (3, n, .inr (.inl (vp_updL f j.toNatClampNeg x))))) H1 → va_S A s.heap H1 locs1 → W p l e R s m args below meth c H1 locs1 cells slots Q (F0 m (pc + 1) ls r)) : W p l e R s m args below meth c H locs cells slots Q (F0 m pc ls (.long x :: .int j :: .ref a :: r)) := by
  obtain ⟨hx, hb, -, hown, hts, hK, -⟩ := F
  refine W.last hx hb (mm_one hI hM 0 _ rfl) ((hK.2 3 _ rfl).1 n (fun j => .long (f j))) (fun q => by cases q) (by show ¬ (j < 0 ∨ (arrV _ _ _).slots.size ≤ _); rw [arrV_size]; exact hj) rfl rfl hd fun H1 e1 z oq => ?_
  refine kk H1 _ (hI.set ?_ z oq) (hS.put z oq hA)
  show H1[a]? = some (vp_cell _ _)
  rw [e1]
  dsimp only
  rw [vp_cell_l, vp_cell_l, arrV_store]
  congr 2
  funext q
  by_cases hq : q = j.toNatClampNeg
  · subst hq
    simp [updV, vp_updL]
    try rfl
  · simp [updV, vp_updL, hq]
theorem mm_dast_ok (F : mm_Fx D cT X p l s m args meth c k A) (hI : mm_I D cT M H) (hS : va_S A s.heap H locs) (hA : A a) {n : Nat} {f : Nat → UInt64} {j : Int32} {x : UInt64} (hd : decode (mm_b k) pc = .ok (.dastore, 1)) (hM : M.2.2 a = some (.inl (4, n, .inr (.inr (.inr (.inl f)))))) (hj : ¬ (j < 0 ∨ n ≤ j.toNatClampNeg))
    (kk : ∀ (H1 : Heap) (locs1 : List Loc), mm_I D cT (mm_set M a (.inl (4, n, .inr (.inr (.inr (.inl (vf_upd f j.toNatClampNeg x))))))) H1 → va_S A s.heap H1 locs1 → W p l e R s m args below meth c H1 locs1 cells slots Q (F0 m (pc + 1) ls r)) : W p l e R s m args below meth c H locs cells slots Q (F0 m pc ls (.double x :: .int j :: .ref a :: r)) := by
  obtain ⟨hx, hb, -, hown, hts, hK, -⟩ := F
  refine W.dast hx hb (mm_one hI hM 0 _ rfl) ((hK.2 4 _ rfl).1 n (fun j => .double (f j))) (fun q => by cases q) (by show ¬ (j < 0 ∨ (arrV _ _ _).slots.size ≤ _); rw [arrV_size]; exact hj) rfl rfl hd fun H1 e1 z oq => ?_
  refine kk H1 _ (hI.set ?_ z oq) (hS.put z oq hA)
  show H1[a]? = some (vp_cell _ _)
  rw [e1]
  dsimp only
  rw [vp_cell_d, vp_cell_d, arrV_store]
  congr 2
  funext q
  by_cases hq : q = j.toNatClampNeg
  · subst hq
    simp [updV, vf_upd]
    try rfl
  · simp [updV, vf_upd, hq]
theorem mm_aast_ok (F : mm_Fx D cT X p l s m args meth c k A) (hI : mm_I D cT M H) (hS : va_S A s.heap H locs) (hA : A a) {n : Nat} {f : Nat → Option Nat} {j : Int32} {v : Nat} {vs : List Value} (hV : M.2.2 v = some (.inr (0, vs))) (hd : decode (mm_b k) pc = .ok (.aastore, 1)) (hM : M.2.2 a = some (.inl (2, n, .inr (.inr (.inr (.inr f)))))) (hj : ¬ (j < 0 ∨ n ≤ j.toNatClampNeg))
    (kk : ∀ (H1 : Heap) (locs1 : List Loc), mm_I D cT (mm_set M a (.inl (2, n, .inr (.inr (.inr (.inr (va_up f j.toNatClampNeg (some v)))))))) H1 → va_S A s.heap H1 locs1 → W p l e R s m args below meth c H1 locs1 cells slots Q (F0 m (pc + 1) ls r)) : W p l e R s m args below meth c H locs cells slots Q (F0 m pc ls (.ref v :: .int j :: .ref a :: r)) := by
  obtain ⟨hx, hb, -, hown, hts, hK, -⟩ := F
  obtain ⟨r', hr', cellV, g1, g2, g3, -⟩ := hI.2 v _ hV
  have hcls := (hK.1 0 _ (mm_cl_at (by decide))).2
  obtain ⟨kA, comp, k1, k2, k3, -⟩ := (hK.2 2 _ rfl).2
  have hcomp : comp = D.1 0 := Option.some.inj (k3.symm.trans hcls.1)
  subst hcomp
  obtain ⟨kC, hkC, -⟩ := hcls.2
  dsimp only [mm_e] at g1 g2 g3
  refine W.aast hx hb (mm_one hI hM 0 _ rfl) (fun q h => by cases h) (fun h => by cases h) k1 k2 rfl hkC ⟨fun q => hj (Or.inl q), by show _ < (arrV _ _ _).slots.size; rw [arrV_size]; exact Nat.not_le.mp fun q => hj (Or.inr q)⟩ g1 (fun q h => by rw [g3] at h; cases h) (by rw [g2]; exact hkC) (by rw [g2]; exact va_assign hcls) rfl rfl hd fun H1 e1 z oq => ?_
  refine kk H1 _ (hI.set ?_ z oq) (hS.put z oq hA)
  show H1[a]? = some (vp_cell _ _)
  rw [e1]
  dsimp only
  rw [vp_cell_q, vp_cell_q, arrV_store]
  congr 2
  funext q
  by_cases hq : q = j.toNatClampNeg
  · subst hq
    simp [updV, va_up, va_rf]
  · simp [updV, va_up, hq]
theorem mm_aastN_ok (F : mm_Fx D cT X p l s m args meth c k A) (hI : mm_I D cT M H) (hS : va_S A s.heap H locs) (hA : A a) {n : Nat} {f : Nat → Option Nat} {j : Int32} (hd : decode (mm_b k) pc = .ok (.aastore, 1)) (hM : M.2.2 a = some (.inl (2, n, .inr (.inr (.inr (.inr f)))))) (hj : ¬ (j < 0 ∨ n ≤ j.toNatClampNeg))
    (kk : ∀ (H1 : Heap) (locs1 : List Loc), mm_I D cT (mm_set M a (.inl (2, n, .inr (.inr (.inr (.inr (va_up f j.toNatClampNeg none))))))) H1 → va_S A s.heap H1 locs1 → W p l e R s m args below meth c H1 locs1 cells slots Q (F0 m (pc + 1) ls r)) : W p l e R s m args below meth c H locs cells slots Q (F0 m pc ls (.null :: .int j :: .ref a :: r)) := by
  obtain ⟨hx, hb, -, hown, hts, hK, -⟩ := F
  refine va_WaastN (C := mR 0) hx hb (mm_one hI hM 0 _ rfl) ((hK.2 2 _ rfl).1 n (fun j => va_rf (f j))) (fun q => by cases q) (by show ¬ (j < 0 ∨ (arrV _ _ _).slots.size ≤ _); rw [arrV_size]; exact hj) rfl rfl hd fun H1 e1 z oq => ?_
  refine kk H1 _ (hI.set ?_ z oq) (hS.put z oq hA)
  show H1[a]? = some (vp_cell _ _)
  rw [e1]
  dsimp only
  rw [vp_cell_q, vp_cell_q, arrV_store]
  congr 2
  funext q
  by_cases hq : q = j.toNatClampNeg
  · subst hq
    simp [updV, va_up, va_rf]
  · simp [updV, va_up, hq]
theorem mm_sld_ok (F : mm_Fx D cT X p l s m args meth c k A) (hS : va_S A s.heap H locs) {j : Int32} (hd : decode (mm_b k) pc = .ok (.iaload, 1)) (hj : ¬ (j < 0 ∨ X.2.1 ≤ j.toNatClampNeg))
    (kk : W p l e R s m args below meth c H locs cells slots Q (F0 m (pc + 1) ls (.int (X.2.2 j.toNatClampNeg) :: r))) : W p l e R s m args below meth c H locs cells slots Q (F0 m pc ls (.int j :: .ref X.1 :: r)) := by
  obtain ⟨hx, hb, -, hown, hts, hK, -, -, -, -, ⟨w1, w2, w3, -⟩, -⟩ := F
  exact va_sld hx hb w1 w2 w3 hS hj hd kk
theorem mm_slen_ok (F : mm_Fx D cT X p l s m args meth c k A) (hS : va_S A s.heap H locs) (hd : decode (mm_b k) pc = .ok (.arraylength, 1))
    (kk : W p l e R s m args below meth c H locs cells slots Q (F0 m (pc + 1) ls (.int (Int32.ofNat X.2.1) :: r))) : W p l e R s m args below meth c H locs cells slots Q (F0 m pc ls (.ref X.1 :: r)) := by
  obtain ⟨hx, hb, -, hown, hts, hK, -, -, -, -, ⟨w1, w2, w3, -⟩, -⟩ := F
  exact va_slen hx hb w1 w2 w3 hS hd kk
theorem mm_alen_ok (F : mm_Fx D cT X p l s m args meth c k A) (hI : mm_I D cT M H) {t : Nat} {x : vp_A} (ht : t < 5) (hd : decode (mm_b k) pc = .ok (.arraylength, 1)) (hM : M.2.2 a = some (.inl (t, x)))
    (kk : W p l e R s m args below meth c H locs cells slots Q (F0 m (pc + 1) ls (.int (Int32.ofNat x.1) :: r))) : W p l e R s m args below meth c H locs cells slots Q (F0 m pc ls (.ref a :: r)) := by
  obtain ⟨hx, hb, -, hown, hts, hK, -⟩ := F
  match t, ht with
  | 0, _ => exact va_alen hx hb hK (mm_one hI hM) 0 0 (tys := mm_tys cT) rfl rfl rfl hd kk
  | 1, _ => exact va_alen hx hb hK (mm_one hI hM) 0 1 (tys := mm_tys cT) rfl rfl rfl hd kk
  | 2, _ => exact va_alen hx hb hK (mm_one hI hM) 0 2 (tys := mm_tys cT) rfl rfl rfl hd kk
  | 3, _ => exact va_alen hx hb hK (mm_one hI hM) 0 3 (tys := mm_tys cT) rfl rfl rfl hd kk
  | 4, _ => exact va_alen hx hb hK (mm_one hI hM) 0 4 (tys := mm_tys cT) rfl rfl rfl hd kk
theorem mm_new_eq {o i ci : Nat} (h : mm_new o i = some ci) : Cond.classLink (mR o) i (mR ci) ∈ mm_WL ∧ ci < 4 := by
  unfold mm_new at h
  obtain ⟨x, he, h2⟩ := Option.map_eq_some_iff.mp h
  have h3 := List.all_eq_true.mp mm_CL_ok x (List.mem_of_find?_eq_some he)
  have h4 := List.find?_some he
  simp only [Bool.and_eq_true, decide_eq_true_eq, beq_iff_eq] at h3 h4
  obtain ⟨a1, a2, a3, a4⟩ := x
  cases h2
  obtain ⟨rfl, rfl⟩ := h4
  exact ⟨mm_at_in h3.1, h3.2⟩
theorem mm_new_ok (F : mm_Fx D cT X p l s m args meth c k A) (hI : mm_I D cT M H) (hS : va_S A s.heap H locs) {idx ci : Nat} (hd : decode (mm_b k) pc = .ok (.new idx, 3)) (hn : mm_new (mm_own k) idx = some ci) (hcl : cells + 1 ≤ R.cells) (hsl : slots + mN ci ≤ R.slots)
    (kk : ∀ H1 : Heap, mm_I D cT (mm_push M (mN ci) (.inr (ci, mm_dfl ci))) H1 → va_S A s.heap H1 locs → W p l e R s m args below meth c H1 locs (cells + 1) (slots + mN ci) Q (F0 m (pc + 3) ls (.ref M.1 :: r))) : W p l e R s m args below meth c H locs cells slots Q (F0 m pc ls r) := by
  obtain ⟨hx, hb, -, hown, hts, hK, -⟩ := F
  obtain ⟨h1, h2⟩ := mm_new_eq hn
  have hc := mm_cl_at h2
  have hKn := hK.1 ci _ hc
  have i1 := mm_at_in (List.all_eq_true.mp mm_ins_ok ci (List.mem_range.mpr h2))
  have i2 := mm_at_in (List.all_eq_true.mp mm_ini_ok ci (List.mem_range.mpr (by omega)))
  refine W.newcK hx hb hown (hts _ h1) (hts _ i1) (hts _ i2) rfl hd hcl hsl hKn.2.1 hI.1 fun H1 kC hkC e1 z1 o1 => ?_
  rw [← hI.1] at z1
  have o2 : ∀ q : Nat, q < H.size → H1[q]? = H[q]? := fun q hq => o1 q (by rw [← hI.1]; exact hq)
  refine kk H1 (hI.push ?_ z1 o2) ⟨Nat.le_trans hS.1 (by omega), fun x g1 g2 => (o2 x (Nat.lt_of_lt_of_le g1 hS.1)).trans (hS.2.1 x g1 g2), hS.2.2⟩
  refine ⟨_, hc, (u_born (mF ci) hts (mm_uws h2) hKn hkC e1 (fun j hj => (mm_T h2 hj).2.1)).to (fun j hj => ?_)⟩
  show defaultValue (mF ci j) = (mm_dfl ci).getD j .null
  simp [mm_dfl, hj]
theorem mm_newa_ok (F : mm_Fx D cT X p l s m args meth c k A) (hI : mm_I D cT M H) (hS : va_S A s.heap H locs) {t : ArrayType} {q w : Nat} {x : vp_A} {n : Int32} (hd : decode (mm_b k) pc = .ok (.newarray t, 2)) (ht : mm_aty t = some (q, x, w)) (hn : ¬ (n < 0 ∨ 536870912 < n.toNatClampNeg * w)) (hcl : cells + 1 ≤ R.cells) (hsl : slots + n.toNatClampNeg ≤ R.slots)
    (kk : ∀ H1 : Heap, mm_I D cT (mm_push M n.toNatClampNeg (.inl (q, n.toNatClampNeg, x.2))) H1 → va_S A s.heap H1 locs → W p l e R s m args below meth c H1 locs (cells + 1) (slots + n.toNatClampNeg) Q (F0 m (pc + 2) ls (.ref M.1 :: r))) : W p l e R s m args below meth c H locs cells slots Q (F0 m pc ls (.int n :: r)) := by
  obtain ⟨hx, hb, -, hown, hts, hK, -⟩ := F
  have key : ∀ (harr : (Cond.arrayClass (newarray.typeOf t)).before args s = true) (hb4 : n.toNatClampNeg * componentBytes (newarray.typeOf t) ≤ 536870912) (hq : s.vm.findClass ("[" ++ (newarray.typeOf t).toString) = some (cT q)) (hz : ∀ cA N, vp_cell cA (N, x.2) = arrV cA N (fun _ => defaultValue (newarray.typeOf t))), W p l e R s m args below meth c H locs cells slots Q (F0 m pc ls (.int n :: r)) := by
    intro harr hb4 hq hz
    refine va_newaK hx hb harr rfl hd rfl (fun z => hn (Or.inl z)) rfl hb4 hcl hsl hI.1 fun H1 cA e1 z1 o1 hAr hNm => ?_
    cases hq.symm.trans hNm
    rw [← hI.1] at z1
    have o2 : ∀ q : Nat, q < H.size → H1[q]? = H[q]? := fun q hq => o1 q (by rw [← hI.1]; exact hq)
    refine kk H1 (hI.push ?_ z1 o2) ⟨Nat.le_trans hS.1 (by omega), fun x g1 g2 => (o2 x (Nat.lt_of_lt_of_le g1 hS.1)).trans (hS.2.1 x g1 g2), hS.2.2⟩
    show H1[M.1]? = some (vp_cell _ _)
    dsimp only
    rw [hz]
    exact e1
  cases t <;> simp only [mm_aty] at ht <;> cases ht
  · exact key (hts _ (mm_at_in mm_arr_boolean)) (by have : componentBytes (newarray.typeOf .boolean) = 1 := rfl; rw [this]; omega) (hK.2 1 _ rfl).2 (fun _ _ => rfl)
  · exact key (hts _ (mm_at_in mm_arr_double)) (by have : componentBytes (newarray.typeOf .double) = 8 := rfl; rw [this]; omega) (hK.2 4 _ rfl).2 (fun _ _ => rfl)
  · exact key (hts _ (mm_at_in mm_arr_int)) (by have : componentBytes (newarray.typeOf .int) = 4 := rfl; rw [this]; omega) (hK.2 0 _ rfl).2 (fun _ _ => rfl)
  · exact key (hts _ (mm_at_in mm_arr_long)) (by have : componentBytes (newarray.typeOf .long) = 8 := rfl; rw [this]; omega) (hK.2 3 _ rfl).2 (fun _ _ => rfl)
theorem mm_newq_ok (F : mm_Fx D cT X p l s m args meth c k A) (hI : mm_I D cT M H) (hS : va_S A s.heap H locs) {idx : Nat} {n : Int32} (hd : decode (mm_b k) pc = .ok (.anewarray idx, 3)) (hq : mm_new (mm_own k) idx = some 0) (hn : ¬ n < 0) (hn4 : n.toNatClampNeg * 4 ≤ 536870912) (hcl : cells + 1 ≤ R.cells) (hsl : slots + n.toNatClampNeg ≤ R.slots)
    (kk : ∀ H1 : Heap, mm_I D cT (mm_push M n.toNatClampNeg (.inl (2, n.toNatClampNeg, .inr (.inr (.inr (.inr (fun _ => none))))))) H1 → va_S A s.heap H1 locs → W p l e R s m args below meth c H1 locs (cells + 1) (slots + n.toNatClampNeg) Q (F0 m (pc + 3) ls (.ref M.1 :: r))) : W p l e R s m args below meth c H locs cells slots Q (F0 m pc ls (.int n :: r)) := by
  obtain ⟨hx, hb, -, hown, hts, hK, -, -, -, -, ⟨-, -, -, -, -, -, -, w8⟩, -⟩ := F
  obtain ⟨h1, -⟩ := mm_new_eq hq
  refine W.anew hx hb hown (hts _ h1) (va_AO.use w8) rfl hd rfl hn hn4 hcl hsl fun cA kA comp f1 f2 f3 f4 => ?_
  obtain ⟨kA', comp', k1, k2, k3, k4⟩ := (hK.2 2 _ rfl).2
  cases k4.symm.trans f1
  rw [hI.1]
  generalize hH1 : H.push ({ cls := cT 2, slots := Array.replicate n.toNatClampNeg .null, vm := .none } : Cell) = H1
  have z1 : H1.size = H.size + 1 := by rw [← hH1, Array.size_push]
  have e1 : H1[M.1]? = some (arrV (cT 2) n.toNatClampNeg (fun _ => .null)) := by rw [← hI.1, ← hH1, Array.getElem?_push_size, ← arrV_new]
  have o1 : ∀ q : Nat, q < H.size → H1[q]? = H[q]? := fun q hq => by rw [← hH1, Array.getElem?_push, if_neg (Nat.ne_of_lt hq)]
  exact kk H1 (hI.push e1 z1 o1) ⟨Nat.le_trans hS.1 (by omega), fun x g1 g2 => (o1 x (Nat.lt_of_lt_of_le g1 hS.1)).trans (hS.2.1 x g1 g2), hS.2.2⟩
end MS3
