/-! the abstract machine against the machine: calls -/
def mm_hnv (z : Nat × Nat × Nat × Int) : Bool := (List.range (mm_hh z.1).length).any (fun i => match (mm_hh z.1)[i]? with
  | none => false
  | some q => decide (mm_kd z.1 = 3) && decide (mm_own z.1 = 4) && decide (q.1 ≤ z.2.1) && decide (z.2.1 < q.2.1) && decide (q.2.2.2 ≠ 0) && mm_LX.any (fun y => y.1 == q.2.2.2 && y.2.1 == z.2.2.1) && decide (z.2.2.1 < 5) &&
    ((mm_hh z.1).take i).all (fun q2 => decide (q2.2.2.2 ≠ 0) && mm_LX.any (fun y => y.1 == q2.2.2.2 && decide ((mm_E z.2.2.1, mm_E y.2.1) ∈ mm_NC))) &&
    decide (mm_rt z.1 = some .int) &&
    (match decode (mm_b z.1) q.2.2.1 with
    | .ok (i1, n1) => (match mm_so i1 n1 with
      | some (x, t) => decide (t = 3) && decide (x < mm_mx z.1) && (match decode (mm_b z.1) (q.2.2.1 + n1) with
        | .ok (.iconst r, 1) => decide (r = z.2.2.2) && decide (decode (mm_b z.1) (q.2.2.1 + n1 + 1) = .ok (.ireturn, 1))
        | _ => false)
      | none => false)
    | .error _ => false))
theorem mm_hnv_ok : mm_HL.all mm_hnv = true := by decide +kernel
theorem mm_castE : ∀ x, x < 5 → Cond.castable (mm_E x) (mm_E x) ∈ mm_BW := by
  intro x hx
  match x, hx with
  | 0, _ => simp [mm_BW, mm_E]
  | 1, _ => simp [mm_BW, mm_E]
  | 2, _ => simp [mm_BW, mm_E]
  | 3, _ => simp [mm_BW, mm_E]
  | 4, _ => simp [mm_BW, mm_E]
section MS7
variable {p : Program} {l : Launch} {e : Env} {R : Room} {s : State} {m : MethodId} {args : Array Value} {below : List Frame} {meth : Method} {c : Code} {H : Heap} {locs : List Loc} {cells slots mc ms : Nat} {Q : State → Prop}
variable {pc : Nat} {ls : Array Slot} {r : List Value} {D : va_G} {cT : Nat → ClassId} {X : Nat × Nat × (Nat → Int32)} {k a : Nat} {A : Nat → Prop} {free : Addr → Prop} {M M1 : mm_M} {Qc : Array Value → State → Outcome → State → Prop} {XC : String → State → State → Prop}
/-- behind a catch of the law's helpers: the code is answered -/
theorem mm_caught (F : mm_Fx D cT X p l s m args meth c k A) {al : List (Option Value)} (hL : mm_L ls (mm_mx k) al) {x : Nat} {v : Int} (hh : mm_hnd k pc x = some v) {ce : Cell} {q : Addr} (hcell : H[q]? = some ce) (hv : ce.vm = .none) (hcl : s.vm.findClass (mm_E x) = some ce.cls)
    (hf : ∀ z ∈ locs, free z.base) (hc : cells ≤ mc) (hs : slots ≤ ms) (hq : ∀ t : State, t.heap = H → s.WarmedH t.vm → Qc args s (.returned (some (.int (Int32.ofInt v)))) t) :
    vx_W p l e R s m args below meth c H locs cells slots (vx_MQ below Qc XC args s mc ms free) (F0 m pc ls r) q := by
  obtain ⟨hx, hb, hml, hown, hts, hK, hret, hlk, -, -, hWd, -, htab⟩ := F
  unfold mm_hnd at hh
  obtain ⟨z, hz, hzv⟩ := Option.map_eq_some_iff.mp hh
  have h4 := List.find?_some hz
  have h3 := List.all_eq_true.mp mm_hnv_ok z (List.mem_of_find?_eq_some hz)
  simp only [Bool.and_eq_true, beq_iff_eq] at h4
  obtain ⟨z1, z2, z3, z4⟩ := z
  dsimp only at h4 hzv
  obtain ⟨⟨rfl, rfl⟩, rfl⟩ := h4
  subst hzv
  unfold mm_hnv at h3
  obtain ⟨i, hi, h5⟩ := List.any_eq_true.mp h3
  dsimp only at h5 hi
  cases hqi : (mm_hh z1)[i]? with
  | none => rw [hqi] at h5; cases h5
  | some qq =>
    rw [hqi] at h5
    dsimp only at h5
    simp only [Bool.and_eq_true, decide_eq_true_eq] at h5
    obtain ⟨⟨⟨⟨⟨⟨⟨⟨⟨e1, e2⟩, e3⟩, e4⟩, e5⟩, e6⟩, e7⟩, e8⟩, e9⟩, e10⟩ := h5
    obtain ⟨y, hy, hy2⟩ := List.any_eq_true.mp e6
    simp only [Bool.and_eq_true, beq_iff_eq] at hy2
    have hyw := mm_at_in (List.all_eq_true.mp mm_LX_ok y hy)
    rw [hy2.1, hy2.2] at hyw
    have hilt : i < (mm_hh z1).length := (List.getElem?_eq_some_iff.mp hqi).1
    have hsplit : c.exceptionTable.toList = tableOf ((mm_hh z1).take i) ++ ⟨qq.1, qq.2.1, qq.2.2.1, qq.2.2.2⟩ :: tableOf ((mm_hh z1).drop (i + 1)) := by
      rw [htab e1]
      have h6 : mm_hh z1 = (mm_hh z1).take i ++ qq :: (mm_hh z1).drop (i + 1) := by
        have h7 : qq = (mm_hh z1)[i] := (List.getElem?_eq_some_iff.mp hqi).2.symm
        rw [h7, List.getElem_cons_drop hilt]
        exact (List.take_append_drop i _).symm
      have h8 : tableOf (mm_hh z1) = tableOf ((mm_hh z1).take i ++ qq :: (mm_hh z1).drop (i + 1)) := congrArg tableOf h6
      rw [h8]
      simp [tableOf]
    rw [e2] at hown
    refine vx_catch (own := mR 4) (name := mm_E z3) (E := mm_E z3) (ce := ce) hown (tableOf ((mm_hh z1).take i)) _ _ hsplit (fun w hw => ?_) (by simp [covers, e3, e4]) e5 (hts _ hyw) (va_Nw.use rfl (hWd.2.2.2.2.2.1 _ (mm_castE _ e7))) hcell hv hcl ?_
    · obtain ⟨q2, hq2, rfl⟩ := List.mem_map.mp hw
      have h6 := List.all_eq_true.mp e8 q2 hq2
      simp only [Bool.and_eq_true, decide_eq_true_eq] at h6
      obtain ⟨y2, hy3, hy4⟩ := List.any_eq_true.mp h6.2
      simp only [Bool.and_eq_true, beq_iff_eq, decide_eq_true_eq] at hy4
      have hyw2 := mm_at_in (List.all_eq_true.mp mm_LX_ok y2 hy3)
      rw [hy4.1] at hyw2
      exact Or.inr ⟨h6.1, mm_E y2.2.1, hts _ hyw2, hWd.2.2.2.2.2.2.1 _ hy4.2⟩
    · dsimp only
      cases hd1 : decode (mm_b z1) qq.2.2.1 with
      | error _ => rw [hd1] at e10; cases e10
      | ok w =>
        obtain ⟨i1, n1⟩ := w
        rw [hd1] at e10
        dsimp only at e10
        cases hso : mm_so i1 n1 with
        | none => rw [hso] at e10; cases e10
        | some xt =>
          obtain ⟨x9, t9⟩ := xt
          rw [hso] at e10
          simp only [Bool.and_eq_true, decide_eq_true_eq] at e10
          obtain ⟨⟨f1, f2⟩, f3⟩ := e10
          refine mm_so_ok hx hb hd1 hso hL (show mm_vk (.ref q) = t9 by rw [f1]; rfl) (by rw [hL.2.1]; exact f2) (fun ls2 hL2 => ?_)
          split at f3
          · rename_i r9 hd2
            simp only [Bool.and_eq_true, decide_eq_true_eq] at f3
            obtain ⟨rfl, hd3⟩ := f3
            refine lv_iconst hx hb hd2 rfl ?_
            refine W.widen hc hs ?_
            exact vx_ret (W.iret hx hb (by rw [hret, e9]) hq hf hd3 hlk)
          · cases f3
end MS7
