/-! the abstract machine against the machine: copies, Math.max, Object's constructor, throws -/
theorem mm_any_in {L : List (Nat × Nat × Nat)} {f : Nat × Nat × Nat → Bool} {o i : Nat} (hL : L.all f = true) (h : L.any (fun e => e.1 == o && e.2.1 == i) = true) : ∃ w, f (o, i, w) = true := by
  obtain ⟨x, hx, h2⟩ := List.any_eq_true.mp h
  have h3 := List.all_eq_true.mp hL x hx
  simp only [Bool.and_eq_true, beq_iff_eq] at h2
  obtain ⟨a1, a2, a3⟩ := x
  obtain ⟨rfl, rfl⟩ := h2
  exact ⟨a3, h3⟩
theorem mm_ini_in {c : Nat} (hc : c < 7) : Cond.initialized (mR c) ∈ mm_WL := mm_at_in (List.all_eq_true.mp mm_ini_ok c (List.mem_range.mpr hc))
def mm_two : List String := ["java/lang/RuntimeException", "java/lang/Exception"]
theorem mm_EX_ok : mm_EL.all (fun z => (vx_at0 (mR z.1) z.2.2.2.1 (mm_E z.2.2.1) mm_two).all (fun w => vx_ot w && (if goodWord w = true then decide (w ∈ lw_tbl) else decide (w ∈ mm_BW))) && Bundle.fit (mm_E z.2.2.1) && mm_two.all Bundle.fit && decide (Cond.initialized (mm_E z.2.2.1) ∈ lw_tbl) && vx_ot (.initialized (mm_E z.2.2.1)) && vx_ot (.classLink (mR z.1) z.2.1 (mm_E z.2.2.1)) && goodWord (.initialized (mm_E z.2.2.1))) = true := by decide +kernel
section MS4
variable {p : Program} {l : Launch} {e : Env} {R : Room} {s : State} {m : MethodId} {args : Array Value} {below : List Frame} {meth : Method} {c : Code} {H : Heap} {locs : List Loc} {cells slots : Nat} {Q : State → Prop}
variable {pc : Nat} {ls : Array Slot} {r : List Value} {D : va_G} {cT : Nat → ClassId} {X : Nat × Nat × (Nat → Int32)} {k a : Nat} {A : Nat → Prop} {M : mm_M}
theorem mm_nn (z : Int32) (hz : ¬ z < 0) : z.toInt = (z.toNatClampNeg : Int) := by
  have hz0 : (0 : Int) ≤ z.toInt := by
    have := Int32.not_lt.mp hz
    simpa using Int32.le_iff_toInt_le.mp this
  show z.toInt = ((z.toInt.toNat : Nat) : Int)
  omega
theorem mm_max_okr (F : mm_Fx D cT X p l s m args meth c k A) (hsz : ls.size = mm_mx k) {idx : Nat} {x y : Int32} (hd : decode (mm_b k) pc = .ok (.invokestatic idx, 3)) (hX : mm_isX (mm_own k) idx = true) (hfr : 1 ≤ R.frames) (hlo : mm_sum r + 56 ≤ R.locals) (hc : cells ≤ R.cells) (hs : slots ≤ R.slots)
    (kk : W p l e R s m args below meth c H locs cells slots Q (F0 m (pc + 3) ls (.int (if x < y then y else x) :: r))) : W p l e R s m args below meth c H locs cells slots Q (F0 m pc ls (.int y :: .int x :: r)) := by
  obtain ⟨hx, hb, hml, hown, hts, hK, -⟩ := F
  obtain ⟨w, hw⟩ := mm_any_in mm_XL_ok hX
  have h2 := mm_max_ok
  simp only [Bool.and_eq_true] at h2
  have hlo' : (r.map fun v => v.category).sum + 13 ≤ R.locals := by have := hlo; unfold mm_sum at this; omega
  exact va_mmax hx hb (hml.trans hsz.symm) hown (hts _ (mm_at_in hw)) (hts _ (mm_at_in h2.1)) (hts _ (mm_ini_in (c := 5) (by decide))) (hts _ (mm_at_in h2.2)) hfr hlo' hc hs hd kk
theorem mm_obj_okr (F : mm_Fx D cT X p l s m args meth c k A) (hsz : ls.size = mm_mx k) {idx : Nat} (hd : decode (mm_b k) pc = .ok (.invokespecial idx, 3)) (hO : mm_isO (mm_own k) idx = true) (hfr : 1 ≤ R.frames) (hlo : mm_sum r + 56 ≤ R.locals)
    (kk : W p l e R s m args below meth c H locs cells slots Q (F0 m (pc + 3) ls r)) : W p l e R s m args below meth c H locs cells slots Q (F0 m pc ls (.ref a :: r)) := by
  obtain ⟨hx, hb, hml, hown, hts, hK, -⟩ := F
  obtain ⟨w, hw⟩ := mm_any_in mm_OL_ok hO
  have h2 := mm_obj_ok
  simp only [Bool.and_eq_true] at h2
  exact W.objInit hx hb hown (hts _ (mm_at_in hw)) (hts _ (mm_at_in h2.1)) (hts _ (mm_at_in h2.2)) (g := F0 m pc ls (.ref a :: r)) rfl (by show ls.size = _; rw [hsz, hml]) rfl hd hfr (by have := hlo; unfold mm_sum at this; show 2 * 0 + _ + 12 ≤ _; omega) kk
theorem mm_nfw : nativeFrameWords "java/lang/System" "arraycopy" 5 ≤ 40 := by decide +kernel
theorem mm_cpy_okr (F : mm_Fx D cT X p l s m args meth c k A) (hI : mm_I D cT M H) (hS : va_S A s.heap H locs) (hA : A a) (hsz : ls.size = mm_mx k) {idx a0 n0 n1 : Nat} {f g : Nat → Int32} {sp dp n : Int32} (hd : decode (mm_b k) pc = .ok (.invokestatic idx, 3)) (hX : mm_isA (mm_own k) idx = true)
    (hM0 : M.2.2 a0 = some (.inl (0, n0, .inl f))) (hM1 : M.2.2 a = some (.inl (0, n1, .inl g))) (hg : ¬ (sp < 0 ∨ dp < 0 ∨ n < 0 ∨ n0 < sp.toNatClampNeg + n.toNatClampNeg ∨ n1 < dp.toNatClampNeg + n.toNatClampNeg)) (hfr : 1 ≤ R.frames) (hlo : mm_sum r + 56 ≤ R.locals)
    (kk : ∀ (H1 : Heap) (locs1 : List Loc), mm_I D cT (mm_set M a (.inl (0, n1, .inl (va_cpy f g sp.toNatClampNeg dp.toNatClampNeg n.toNatClampNeg)))) H1 → va_S A s.heap H1 locs1 → W p l e R s m args below meth c H1 locs1 cells slots Q (F0 m (pc + 3) ls r)) :
    W p l e R s m args below meth c H locs cells slots Q (F0 m pc ls (.int n :: .int dp :: .ref a :: .int sp :: .ref a0 :: r)) := by
  obtain ⟨hx, hb, hml, hown, hts, hK, -⟩ := F
  obtain ⟨w, hw⟩ := mm_any_in mm_AL_ok hX
  have h2 := mm_cpy_ok
  simp only [Bool.and_eq_true] at h2
  have h1 : ¬ sp < 0 := fun z => hg (Or.inl z)
  have h1' : ¬ dp < 0 := fun z => hg (Or.inr (Or.inl z))
  have h3 : ¬ n < 0 := fun z => hg (Or.inr (Or.inr (Or.inl z)))
  have h4 : sp.toNatClampNeg + n.toNatClampNeg ≤ n0 := Nat.le_of_not_lt fun z => hg (Or.inr (Or.inr (Or.inr (Or.inl z))))
  have h5 : dp.toNatClampNeg + n.toNatClampNeg ≤ n1 := Nat.le_of_not_lt fun z => hg (Or.inr (Or.inr (Or.inr (Or.inr z))))
  have hlo' := hlo
  unfold mm_sum at hlo'
  have hnf := mm_nfw
  intro T hT Xs
  have hc0 : H[a0]? = some (vp_cell (cT 0) (n0, .inl f)) := mm_one hI hM0 0 _ rfl
  have hc1 : H[a]? = some (vp_cell (cT 0) (n1, .inl g)) := mm_one hI hM1 0 _ rfl
  obtain ⟨-, k0, hk0, cm0, hkk0⟩ := (hK.2 0 _ rfl).1 n0 (fun j => .int (f j))
  obtain ⟨-, k1, hk1, cm1, hkk1⟩ := (hK.2 0 _ rfl).1 n1 (fun j => .int (g j))
  obtain ⟨vm', X', step⟩ := Xs.arraycopy hx hown (hts _ (mm_at_in hw)) (hts _ (mm_at_in h2.1)) (hts _ (mm_at_in h2.2)) (hts _ (mm_ini_in (c := 6) (by decide))) (src := a0) (dst := a) (cs := vp_cell (cT 0) (n0, .inl f)) (cd := vp_cell (cT 0) (n1, .inl g)) (srcPos := sp) (destPos := dp) (n := n) (by rw [hT]; exact hc0) (by rw [hT]; exact hc1)
    (fun _ h => by cases h) (fun _ h => by cases h) (fun h => by cases h) (fun h => by cases h) hk0 hk1 hkk0 hkk1 rfl h1 h1' h3
    (by rw [mm_nn sp h1, mm_nn n h3]; show ¬ _ > ((arrV (cT 0) n0 (fun j => .int (f j))).slots.size : Int); rw [arrV_size]; omega)
    (by rw [mm_nn dp h1', mm_nn n h3]; show ¬ _ > ((arrV (cT 0) n1 (fun j => .int (g j))).slots.size : Int); rw [arrV_size]; omega)
    (fun vm₁ _ i hi => by
      have e1 : (vp_cell (cT 0) (n0, .inl f)).slots.getD (sp.toNatClampNeg + i) .null = .int (f (sp.toNatClampNeg + i)) := by
        show (arrV (cT 0) n0 (fun j => .int (f j))).slots.getD _ _ = _
        rw [Array.getD_eq_getD_getElem?, arrV_read _ _ (by omega)]
        rfl
      refine ⟨?_, ?_⟩
      · rw [e1]
        rfl
      · rw [e1]
        exact trivial)
    (g := F0 m pc ls (.int n :: .int dp :: .ref a :: .int sp :: .ref a0 :: r)) rfl (by show ls.size = _; rw [hsz, hml]) (rest := r) rfl (by rw [hb]; exact hd) hfr (by show 2 * 0 + _ + _ ≤ _; omega)
  have e1 : copied (vp_cell (cT 0) (n0, .inl f)) (vp_cell (cT 0) (n1, .inl g)) sp dp n = vp_cell (cT 0) (n1, .inl (va_cpy f g sp.toNatClampNeg dp.toNatClampNeg n.toNatClampNeg)) := va_copied (fun z => .int z) (cT 0) (cT 0) f g h4
  rw [e1] at X' step
  have hl : a < H.size := (Array.getElem?_eq_some_iff.mp hc1).1
  have hheap : ((T.setVm vm').setCell a (vp_cell (cT 0) (n1, .inl (va_cpy f g sp.toNatClampNeg dp.toNatClampNeg n.toNatClampNeg)))).heap = H.setIfInBounds a (vp_cell (cT 0) (n1, .inl (va_cpy f g sp.toNatClampNeg dp.toNatClampNeg n.toNatClampNeg))) := by rw [← hT]; rfl
  have oq : ∀ q : Nat, q ≠ a → (H.setIfInBounds a (vp_cell (cT 0) (n1, .inl (va_cpy f g sp.toNatClampNeg dp.toNatClampNeg n.toNatClampNeg))))[q]? = H[q]? := fun q hq => by simp [Array.getElem?_setIfInBounds, Ne.symm hq]
  obtain ⟨t, a1, b1⟩ := kk _ _ (hI.set (o := .inl (0, n1, .inl (va_cpy f g sp.toNatClampNeg dp.toNatClampNeg n.toNatClampNeg))) (show (H.setIfInBounds a _)[a]? = some _ by simp [Array.getElem?_setIfInBounds, hl, mm_e]) (by simp) oq) ⟨by simp; exact hS.1, fun q g1 g2 => by
      rw [oq q (fun z => g2 (by rw [z]; exact hA))]
      exact hS.2.1 q g1 g2, fun q hq => by
      rcases List.mem_append.mp hq with h | h
      · exact hS.2.2 q h
      · obtain ⟨z, -, hz⟩ := List.mem_map.mp h
        rw [← hz]
        exact hA⟩ _ hheap X'
  exact ⟨t, step t a1, b1⟩
end MS4
