/-! rewriting rules of the abstract machine: constants, comparisons, switches -/
section MR4
variable {X : Nat × Nat × (Nat → Int32)} {d k pc len : Nat} {i : Instr} {al al2 : List (Option Value)} {st st2 r : List Value} {M M2 : mm_M} {Q : mm_Out → mm_M → Prop} {x y v : Int32} {o : Int} {t : Nat}
theorem WP_iconst {n : Int} (hd : decode (mm_b k) pc = .ok (.iconst n, 1)) (hv : Int32.ofInt n = v) : WP X d k pc al r M Q = WP X d k (pc + 1) al (.int v :: r) M Q := by subst hv; exact WP_pu hd rfl
theorem WP_bipush {n : Int} (hd : decode (mm_b k) pc = .ok (.bipush n, 2)) (hv : (Int8.ofInt n).toInt32 = v) : WP X d k pc al r M Q = WP X d k (pc + 2) al (.int v :: r) M Q := by subst hv; exact WP_pu hd rfl
theorem WP_sipush {n : Int} (hd : decode (mm_b k) pc = .ok (.sipush n, 3)) (hv : (Int16.ofInt n).toInt32 = v) : WP X d k pc al r M Q = WP X d k (pc + 3) al (.int v :: r) M Q := by subst hv; exact WP_pu hd rfl
theorem WP_idiv (hd : decode (mm_b k) pc = .ok (.idiv, 1)) : WP X d k pc al (.int y :: .int x :: r) M Q = (¬ y = 0 ∧ WP X d k (pc + 1) al (.int (x / y) :: r) M Q) := by
  by_cases hy : y = 0
  · rw [WP_no hd (fun rec => by show (match (if y = 0 then none else some (.int (x / y) :: r) : Option (List Value)) with | some st' => _ | none => none) = none; rw [if_pos hy])]; simp [hy]
  · rw [WP_pu (st2 := .int (x / y) :: r) hd (by show (if y = 0 then none else some _) = _; rw [if_neg hy])]; simp [hy]
theorem WP_irem (hd : decode (mm_b k) pc = .ok (.irem, 1)) : WP X d k pc al (.int y :: .int x :: r) M Q = (¬ y = 0 ∧ WP X d k (pc + 1) al (.int (x - x / y * y) :: r) M Q) := by
  by_cases hy : y = 0
  · rw [WP_no hd (fun rec => by show (match (if y = 0 then none else some (.int (x - x / y * y) :: r) : Option (List Value)) with | some st' => _ | none => none) = none; rw [if_pos hy])]; simp [hy]
  · rw [WP_pu (st2 := .int (x - x / y * y) :: r) hd (by show (if y = 0 then none else some _) = _; rw [if_neg hy])]; simp [hy]
theorem WP_ddiv {x0 x1 : UInt64} (hd : decode (mm_b k) pc = .ok (.ddiv, 1)) : WP X d k pc al (.double x1 :: .double x0 :: r) M Q = (FP.ddiv x0 x1 &&& 0x7fffffffffffffff ≤ 0x7ff0000000000000 ∧ WP X d k (pc + 1) al (.double (FP.ddiv x0 x1) :: r) M Q) := by
  by_cases hy : FP.ddiv x0 x1 &&& 0x7fffffffffffffff ≤ 0x7ff0000000000000
  · rw [WP_pu (st2 := .double (FP.ddiv x0 x1) :: r) hd (by show (if _ then some _ else none) = _; rw [if_pos hy])]; simp [hy]
  · rw [WP_no hd (fun rec => by show (match (if FP.ddiv x0 x1 &&& 0x7fffffffffffffff ≤ 0x7ff0000000000000 then some (.double (FP.ddiv x0 x1) :: r) else none : Option (List Value)) with | some st' => _ | none => none) = none; rw [if_neg hy])]; simp [hy]
theorem WP_inc2 {n : Nat} {c : Int} (hd : decode (mm_b k) pc = .ok (.iinc n c, 3)) (hv : Int32.ofInt c = v) (hl : al[n]? = some (some (.int x))) (ha : mm_st al n (.int (x + v)) = al2) : WP X d k pc al st M Q = WP X d k (pc + 3) al2 st M Q := by subst hv; subst ha; exact WP_inc hd hl
theorem WP_ts {dflt lo hi : Int} {offs : Array Int} (hd : decode (mm_b k) pc = .ok (.tableswitch dflt lo hi offs, len)) (h : (if x.toInt < lo ∨ hi < x.toInt then mm_tg pc dflt else (match offs[(x.toInt - lo).toNat]? with
    | some o => mm_tg pc o
    | none => none)) = some t) : WP X d k pc al (.int x :: r) M Q = WP X d k t al r M Q := by
  refine WP_brr hd rfl ?_
  show (if x.toInt < lo ∨ hi < x.toInt then (mm_tg pc dflt).map (fun t => (r, t)) else (match offs[(x.toInt - lo).toNat]? with
    | some o => (mm_tg pc o).map (fun t => (r, t))
    | none => none)) = some (r, t)
  split at h
  · rename_i hz
    rw [if_pos hz, h]; rfl
  · rename_i hz
    rw [if_neg hz]
    cases ho : offs[(x.toInt - lo).toNat]? with
    | none => rw [ho] at h; cases h
    | some o => rw [ho] at h; dsimp only at h ⊢; rw [h]; rfl
theorem WP_ls {dflt : Int} {ps : Array (Int × Int)} (hd : decode (mm_b k) pc = .ok (.lookupswitch dflt ps, len)) (hp : (ps.toList.zip (ps.toList.drop 1)).all (fun (a, next) => a.1 < next.1) = true) (h : mm_tg pc (Op.lookupswitch.offset ps.toList dflt x.toInt) = some t) : WP X d k pc al (.int x :: r) M Q = WP X d k t al r M Q := by
  refine WP_brr hd rfl ?_
  show (if (ps.toList.zip (ps.toList.drop 1)).all (fun (a, next) => a.1 < next.1) = true then (mm_tg pc (Op.lookupswitch.offset ps.toList dflt x.toInt)).map (fun t => (r, t)) else none) = some (r, t)
  rw [if_pos hp, h]; rfl
theorem WP_ic_eq (hd : decode (mm_b k) pc = .ok (.if_icmp .eq o, 3)) (ht : mm_tg pc o = some t) : WP X d k pc al (.int y :: .int x :: r) M Q = if x = y then WP X d k t al r M Q else WP X d k (pc + 3) al r M Q := by
  rw [WP_ic hd ht]; simp only [mm_cc, decide_eq_true_eq]
theorem WP_i0_eq (hd : decode (mm_b k) pc = .ok (.ifCond .eq o, 3)) (ht : mm_tg pc o = some t) : WP X d k pc al (.int x :: r) M Q = if x = nI 0 then WP X d k t al r M Q else WP X d k (pc + 3) al r M Q := by
  rw [WP_i0 hd ht]; simp only [mm_cc, decide_eq_true_eq]; rfl
theorem WP_ic_ne (hd : decode (mm_b k) pc = .ok (.if_icmp .ne o, 3)) (ht : mm_tg pc o = some t) : WP X d k pc al (.int y :: .int x :: r) M Q = if ¬ x = y then WP X d k t al r M Q else WP X d k (pc + 3) al r M Q := by
  rw [WP_ic hd ht]; simp only [mm_cc, decide_eq_true_eq]
theorem WP_i0_ne (hd : decode (mm_b k) pc = .ok (.ifCond .ne o, 3)) (ht : mm_tg pc o = some t) : WP X d k pc al (.int x :: r) M Q = if ¬ x = nI 0 then WP X d k t al r M Q else WP X d k (pc + 3) al r M Q := by
  rw [WP_i0 hd ht]; simp only [mm_cc, decide_eq_true_eq]; rfl
theorem WP_ic_lt (hd : decode (mm_b k) pc = .ok (.if_icmp .lt o, 3)) (ht : mm_tg pc o = some t) : WP X d k pc al (.int y :: .int x :: r) M Q = if x < y then WP X d k t al r M Q else WP X d k (pc + 3) al r M Q := by
  rw [WP_ic hd ht]; simp only [mm_cc, decide_eq_true_eq]
theorem WP_i0_lt (hd : decode (mm_b k) pc = .ok (.ifCond .lt o, 3)) (ht : mm_tg pc o = some t) : WP X d k pc al (.int x :: r) M Q = if x < nI 0 then WP X d k t al r M Q else WP X d k (pc + 3) al r M Q := by
  rw [WP_i0 hd ht]; simp only [mm_cc, decide_eq_true_eq]; rfl
theorem WP_ic_ge (hd : decode (mm_b k) pc = .ok (.if_icmp .ge o, 3)) (ht : mm_tg pc o = some t) : WP X d k pc al (.int y :: .int x :: r) M Q = if y ≤ x then WP X d k t al r M Q else WP X d k (pc + 3) al r M Q := by
  rw [WP_ic hd ht]; simp only [mm_cc, decide_eq_true_eq]
theorem WP_i0_ge (hd : decode (mm_b k) pc = .ok (.ifCond .ge o, 3)) (ht : mm_tg pc o = some t) : WP X d k pc al (.int x :: r) M Q = if nI 0 ≤ x then WP X d k t al r M Q else WP X d k (pc + 3) al r M Q := by
  rw [WP_i0 hd ht]; simp only [mm_cc, decide_eq_true_eq]; rfl
theorem WP_ic_gt (hd : decode (mm_b k) pc = .ok (.if_icmp .gt o, 3)) (ht : mm_tg pc o = some t) : WP X d k pc al (.int y :: .int x :: r) M Q = if y < x then WP X d k t al r M Q else WP X d k (pc + 3) al r M Q := by
  rw [WP_ic hd ht]; simp only [mm_cc, decide_eq_true_eq]
theorem WP_i0_gt (hd : decode (mm_b k) pc = .ok (.ifCond .gt o, 3)) (ht : mm_tg pc o = some t) : WP X d k pc al (.int x :: r) M Q = if nI 0 < x then WP X d k t al r M Q else WP X d k (pc + 3) al r M Q := by
  rw [WP_i0 hd ht]; simp only [mm_cc, decide_eq_true_eq]; rfl
theorem WP_ic_le (hd : decode (mm_b k) pc = .ok (.if_icmp .le o, 3)) (ht : mm_tg pc o = some t) : WP X d k pc al (.int y :: .int x :: r) M Q = if x ≤ y then WP X d k t al r M Q else WP X d k (pc + 3) al r M Q := by
  rw [WP_ic hd ht]; simp only [mm_cc, decide_eq_true_eq]
theorem WP_i0_le (hd : decode (mm_b k) pc = .ok (.ifCond .le o, 3)) (ht : mm_tg pc o = some t) : WP X d k pc al (.int x :: r) M Q = if x ≤ nI 0 then WP X d k t al r M Q else WP X d k (pc + 3) al r M Q := by
  rw [WP_i0 hd ht]; simp only [mm_cc, decide_eq_true_eq]; rfl
end MR4
