/-! rewriting rules of the abstract machine: arrays, new cells, calls, ends -/
section MR3
variable {X : Nat × Nat × (Nat → Int32)} {d k pc len a : Nat} {i : Instr} {al al2 : List (Option Value)} {st st2 r : List Value} {M M2 : mm_M} {Q Q' : mm_Out → mm_M → Prop} {j : Int32}
theorem WP_ifn {P : Prop} {K : Prop} (h1 : P → WP X d k pc al st M Q = False) (h2 : ¬ P → WP X d k pc al st M Q = K) : WP X d k pc al st M Q = (¬ P ∧ K) := by
  by_cases hp : P
  · rw [h1 hp]; simp [hp]
  · rw [h2 hp]; simp [hp]
theorem WP_baload (hd : decode (mm_b k) pc = .ok (.baload, 1)) : WP X d k pc al (.int j :: .ref a :: r) M Q = mm_az (M.2.2 a) j (fun x => WP X d k (pc + 1) al (.int x :: r) M Q) := by
  have e1 : ∀ rec, mm_step rec X d k pc .baload 1 al (.int j :: .ref a :: r) M = (match M.2.2 a with
    | some (.inl (1, n, .inl f)) => if j < 0 ∨ n ≤ j.toNatClampNeg then none else rec d k (pc + 1) al (.int (f j.toNatClampNeg) :: r) M
    | _ => none) := fun _ => rfl
  unfold mm_az
  split
  · rename_i n f hM
    refine WP_ifn (fun z => WP_no hd (fun rec => by rw [e1, hM]; exact if_pos z)) (fun z => WP_to hd (fun rec => by rw [e1, hM]; exact if_neg z))
  · rename_i hM
    refine WP_no hd (fun rec => ?_)
    rw [e1]
    split
    · rename_i n f h9
      exact absurd h9 (hM n f)
    · rfl
theorem WP_aaload (hd : decode (mm_b k) pc = .ok (.aaload, 1)) : WP X d k pc al (.int j :: .ref a :: r) M Q = mm_aa (M.2.2 a) j (fun x => WP X d k (pc + 1) al (va_rf x :: r) M Q) := by
  have e1 : ∀ rec, mm_step rec X d k pc .aaload 1 al (.int j :: .ref a :: r) M = (match M.2.2 a with
    | some (.inl (2, n, .inr (.inr (.inr (.inr f))))) => if j < 0 ∨ n ≤ j.toNatClampNeg then none else rec d k (pc + 1) al (va_rf (f j.toNatClampNeg) :: r) M
    | _ => none) := fun _ => rfl
  unfold mm_aa
  split
  · rename_i n f hM
    refine WP_ifn (fun z => WP_no hd (fun rec => by rw [e1, hM]; exact if_pos z)) (fun z => WP_to hd (fun rec => by rw [e1, hM]; exact if_neg z))
  · rename_i hM
    refine WP_no hd (fun rec => ?_)
    rw [e1]
    split
    · rename_i n f h9
      exact absurd h9 (hM n f)
    · rfl
theorem WP_laload (hd : decode (mm_b k) pc = .ok (.laload, 1)) : WP X d k pc al (.int j :: .ref a :: r) M Q = mm_al (M.2.2 a) j (fun x => WP X d k (pc + 1) al (.long x :: r) M Q) := by
  have e1 : ∀ rec, mm_step rec X d k pc .laload 1 al (.int j :: .ref a :: r) M = (match M.2.2 a with
    | some (.inl (3, n, .inr (.inl f))) => if j < 0 ∨ n ≤ j.toNatClampNeg then none else rec d k (pc + 1) al (.long (f j.toNatClampNeg) :: r) M
    | _ => none) := fun _ => rfl
  unfold mm_al
  split
  · rename_i n f hM
    refine WP_ifn (fun z => WP_no hd (fun rec => by rw [e1, hM]; exact if_pos z)) (fun z => WP_to hd (fun rec => by rw [e1, hM]; exact if_neg z))
  · rename_i hM
    refine WP_no hd (fun rec => ?_)
    rw [e1]
    split
    · rename_i n f h9
      exact absurd h9 (hM n f)
    · rfl
theorem WP_daload (hd : decode (mm_b k) pc = .ok (.daload, 1)) : WP X d k pc al (.int j :: .ref a :: r) M Q = mm_ad (M.2.2 a) j (fun x => WP X d k (pc + 1) al (.double x :: r) M Q) := by
  have e1 : ∀ rec, mm_step rec X d k pc .daload 1 al (.int j :: .ref a :: r) M = (match M.2.2 a with
    | some (.inl (4, n, .inr (.inr (.inr (.inl f))))) => if j < 0 ∨ n ≤ j.toNatClampNeg then none else rec d k (pc + 1) al (.double (f j.toNatClampNeg) :: r) M
    | _ => none) := fun _ => rfl
  unfold mm_ad
  split
  · rename_i n f hM
    refine WP_ifn (fun z => WP_no hd (fun rec => by rw [e1, hM]; exact if_pos z)) (fun z => WP_to hd (fun rec => by rw [e1, hM]; exact if_neg z))
  · rename_i hM
    refine WP_no hd (fun rec => ?_)
    rw [e1]
    split
    · rename_i n f h9
      exact absurd h9 (hM n f)
    · rfl
theorem WP_iaload (hd : decode (mm_b k) pc = .ok (.iaload, 1)) : WP X d k pc al (.int j :: .ref a :: r) M Q = mm_ai X a (M.2.2 a) j (fun x => WP X d k (pc + 1) al (.int x :: r) M Q) := by
  have e1 : ∀ rec, mm_step rec X d k pc .iaload 1 al (.int j :: .ref a :: r) M = (match M.2.2 a with
    | some (.inl (0, n, .inl f)) => if j < 0 ∨ n ≤ j.toNatClampNeg then none else rec d k (pc + 1) al (.int (f j.toNatClampNeg) :: r) M
    | some _ => none
    | none => if a = X.1 then (if j < 0 ∨ X.2.1 ≤ j.toNatClampNeg then none else rec d k (pc + 1) al (.int (X.2.2 j.toNatClampNeg) :: r) M) else none) := fun _ => rfl
  unfold mm_ai
  split
  · rename_i n f hM
    exact WP_ifn (fun z => WP_no hd (fun rec => by rw [e1, hM]; exact if_pos z)) (fun z => WP_to hd (fun rec => by rw [e1, hM]; exact if_neg z))
  · rename_i q hM h9
    refine WP_no hd (fun rec => ?_)
    rw [e1]
    split
    · rename_i n f h8
      rw [h9] at h8
      exact absurd (Option.some.inj h8) (hM n f)
    · rfl
    · rename_i h8
      rw [h9] at h8
      cases h8
  · rename_i hM
    by_cases hX : a = X.1
    · rw [WP_ifn (P := j < 0 ∨ X.2.1 ≤ j.toNatClampNeg) (fun z => WP_no hd (fun rec => by rw [e1, hM]; dsimp only; rw [if_pos hX]; exact if_pos z)) (fun z => WP_to hd (fun rec => by rw [e1, hM]; dsimp only; rw [if_pos hX]; exact if_neg z))]
      simp [hX, mm_in]
    · rw [WP_no hd (fun rec => by rw [e1, hM]; dsimp only; rw [if_neg hX])]
      simp [hX]
theorem WP_iastore {x : Int32} (hd : decode (mm_b k) pc = .ok (.iastore, 1)) : WP X d k pc al (.int x :: .int j :: .ref a :: r) M Q = mm_si (M.2.2 a) j x (fun o => WP X d k (pc + 1) al r (mm_set M a o) Q) := by
  have e1 : ∀ rec, mm_step rec X d k pc .iastore 1 al (.int x :: .int j :: .ref a :: r) M = (match M.2.2 a with
    | some (.inl (0, n, .inl f)) => if j < 0 ∨ n ≤ j.toNatClampNeg then none else rec d k (pc + 1) al r (mm_set M a (.inl (0, n, .inl (upd f j.toNatClampNeg x))))
    | _ => none) := fun _ => rfl
  unfold mm_si
  split
  · rename_i n f hM
    refine WP_ifn (fun z => WP_no hd (fun rec => by rw [e1, hM]; exact if_pos z)) (fun z => WP_to hd (fun rec => by rw [e1, hM]; exact if_neg z))
  · rename_i hM
    refine WP_no hd (fun rec => ?_)
    rw [e1]
    split
    · rename_i n f h9
      exact absurd h9 (hM n f)
    · rfl
theorem WP_bastore {x : Int32} (hd : decode (mm_b k) pc = .ok (.bastore, 1)) : WP X d k pc al (.int x :: .int j :: .ref a :: r) M Q = mm_sz (M.2.2 a) j x (fun o => WP X d k (pc + 1) al r (mm_set M a o) Q) := by
  have e1 : ∀ rec, mm_step rec X d k pc .bastore 1 al (.int x :: .int j :: .ref a :: r) M = (match M.2.2 a with
    | some (.inl (1, n, .inl f)) => if j < 0 ∨ n ≤ j.toNatClampNeg then none else rec d k (pc + 1) al r (mm_set M a (.inl (1, n, .inl (upd f j.toNatClampNeg (vp_nar .boolean x)))))
    | _ => none) := fun _ => rfl
  unfold mm_sz
  split
  · rename_i n f hM
    refine WP_ifn (fun z => WP_no hd (fun rec => by rw [e1, hM]; exact if_pos z)) (fun z => WP_to hd (fun rec => by rw [e1, hM]; exact if_neg z))
  · rename_i hM
    refine WP_no hd (fun rec => ?_)
    rw [e1]
    split
    · rename_i n f h9
      exact absurd h9 (hM n f)
    · rfl
theorem WP_lastore {x : Int64} (hd : decode (mm_b k) pc = .ok (.lastore, 1)) : WP X d k pc al (.long x :: .int j :: .ref a :: r) M Q = mm_sl (M.2.2 a) j x (fun o => WP X d k (pc + 1) al r (mm_set M a o) Q) := by
  have e1 : ∀ rec, mm_step rec X d k pc .lastore 1 al (.long x :: .int j :: .ref a :: r) M = (match M.2.2 a with
    | some (.inl (3, n, .inr (.inl f))) => if j < 0 ∨ n ≤ j.toNatClampNeg then none else rec d k (pc + 1) al r (mm_set M a (.inl (3, n, .inr (.inl (vp_updL f j.toNatClampNeg x)))))
    | _ => none) := fun _ => rfl
  unfold mm_sl
  split
  · rename_i n f hM
    refine WP_ifn (fun z => WP_no hd (fun rec => by rw [e1, hM]; exact if_pos z)) (fun z => WP_to hd (fun rec => by rw [e1, hM]; exact if_neg z))
  · rename_i hM
    refine WP_no hd (fun rec => ?_)
    rw [e1]
    split
    · rename_i n f h9
      exact absurd h9 (hM n f)
    · rfl
theorem WP_dastore {x : UInt64} (hd : decode (mm_b k) pc = .ok (.dastore, 1)) : WP X d k pc al (.double x :: .int j :: .ref a :: r) M Q = mm_sd (M.2.2 a) j x (fun o => WP X d k (pc + 1) al r (mm_set M a o) Q) := by
  have e1 : ∀ rec, mm_step rec X d k pc .dastore 1 al (.double x :: .int j :: .ref a :: r) M = (match M.2.2 a with
    | some (.inl (4, n, .inr (.inr (.inr (.inl f))))) => if j < 0 ∨ n ≤ j.toNatClampNeg then none else rec d k (pc + 1) al r (mm_set M a (.inl (4, n, .inr (.inr (.inr (.inl (vf_upd f j.toNatClampNeg x)))))))
    | _ => none) := fun _ => rfl
  unfold mm_sd
  split
  · rename_i n f hM
    refine WP_ifn (fun z => WP_no hd (fun rec => by rw [e1, hM]; exact if_pos z)) (fun z => WP_to hd (fun rec => by rw [e1, hM]; exact if_neg z))
  · rename_i hM
    refine WP_no hd (fun rec => ?_)
    rw [e1]
    split
    · rename_i n f h9
      exact absurd h9 (hM n f)
    · rfl
theorem WP_aastoreN (hd : decode (mm_b k) pc = .ok (.aastore, 1)) : WP X d k pc al (.null :: .int j :: .ref a :: r) M Q = mm_sn (M.2.2 a) j (fun o => WP X d k (pc + 1) al r (mm_set M a o) Q) := by
  have e1 : ∀ rec, mm_step rec X d k pc .aastore 1 al (.null :: .int j :: .ref a :: r) M = (match M.2.2 a with
    | some (.inl (2, n, .inr (.inr (.inr (.inr f))))) => if j < 0 ∨ n ≤ j.toNatClampNeg then none else rec d k (pc + 1) al r (mm_set M a (.inl (2, n, .inr (.inr (.inr (.inr (va_up f j.toNatClampNeg none)))))))
    | _ => none) := fun _ => rfl
  unfold mm_sn
  split
  · rename_i n f hM
    refine WP_ifn (fun z => WP_no hd (fun rec => by rw [e1, hM]; exact if_pos z)) (fun z => WP_to hd (fun rec => by rw [e1, hM]; exact if_neg z))
  · rename_i hM
    refine WP_no hd (fun rec => ?_)
    rw [e1]
    split
    · rename_i n f h9
      exact absurd h9 (hM n f)
    · rfl
theorem WP_aastore {v : Nat} (hd : decode (mm_b k) pc = .ok (.aastore, 1)) : WP X d k pc al (.ref v :: .int j :: .ref a :: r) M Q = mm_sa (M.2.2 a) (M.2.2 v) j v (fun o => WP X d k (pc + 1) al r (mm_set M a o) Q) := by
  have e1 : ∀ rec, mm_step rec X d k pc .aastore 1 al (.ref v :: .int j :: .ref a :: r) M = (match M.2.2 a, M.2.2 v with
    | some (.inl (2, n, .inr (.inr (.inr (.inr f))))), some (.inr (0, _)) => if j < 0 ∨ n ≤ j.toNatClampNeg then none else rec d k (pc + 1) al r (mm_set M a (.inl (2, n, .inr (.inr (.inr (.inr (va_up f j.toNatClampNeg (some v))))))))
    | _, _ => none) := fun _ => rfl
  unfold mm_sa
  split
  · rename_i n f vs hM hV
    exact WP_ifn (fun z => WP_no hd (fun rec => by rw [e1, hM, hV]; exact if_pos z)) (fun z => WP_to hd (fun rec => by rw [e1, hM, hV]; exact if_neg z))
  · rename_i hM
    refine WP_no hd (fun rec => ?_)
    rw [e1]
    split
    · rename_i n f vs h8 h9
      exact absurd h9 (hM n f vs h8)
    · rfl
theorem WP_alen (hd : decode (mm_b k) pc = .ok (.arraylength, 1)) : WP X d k pc al (.ref a :: r) M Q = mm_ln X a (M.2.2 a) (fun x => WP X d k (pc + 1) al (.int x :: r) M Q) := by
  have e1 : ∀ rec, mm_step rec X d k pc .arraylength 1 al (.ref a :: r) M = (match M.2.2 a with
    | some (.inl (t, n, _)) => if t < 5 then rec d k (pc + 1) al (.int (Int32.ofNat n) :: r) M else none
    | some _ => none
    | none => if a = X.1 then rec d k (pc + 1) al (.int (Int32.ofNat X.2.1) :: r) M else none) := fun _ => rfl
  unfold mm_ln
  cases hM : M.2.2 a with
  | none =>
    by_cases hX : a = X.1
    · rw [WP_to hd (fun rec => by rw [e1, hM]; exact if_pos hX)]; simp [hX]
    · rw [WP_no hd (fun rec => by rw [e1, hM]; exact if_neg hX)]; simp [hX]
  | some o =>
    cases o with
    | inr q => rw [WP_no hd (fun rec => by rw [e1, hM])]
    | inl q =>
      obtain ⟨t, n, c⟩ := q
      by_cases ht : t < 5
      · rw [WP_to hd (fun rec => by rw [e1, hM]; exact if_pos ht)]; simp [ht]
      · rw [WP_no hd (fun rec => by rw [e1, hM]; exact if_neg ht)]; simp [ht]
theorem WP_new {idx ci n : Nat} {fs : List Value} (hd : decode (mm_b k) pc = .ok (.new idx, 3)) (h : mm_new (mm_own k) idx = some ci) (hn : mN ci = n) (hf : mm_dfl ci = fs) : WP X d k pc al r M Q = WP X d k (pc + 3) al (.ref M.1 :: r) (mm_push M n (.inr (ci, fs))) Q := WP_to hd (fun rec => by
  show (match mm_new (mm_own k) idx with
    | some ci => rec d k (pc + 3) al (.ref M.1 :: r) (mm_push M (mN ci) (.inr (ci, mm_dfl ci)))
    | none => _) = _
  rw [h]
  dsimp only
  rw [hn, hf])
theorem WP_throw {idx x ic : Nat} (hd : decode (mm_b k) pc = .ok (.new idx, 3)) (h0 : mm_new (mm_own k) idx = none) (h : mm_thr (mm_own k) idx = some (x, ic)) (hk : mm_kd k < 2) (h3 : decode (mm_b k) (pc + 3) = .ok (.dup, 1)) (h4 : decode (mm_b k) (pc + 4) = .ok (.invokespecial ic, 3)) (h7 : decode (mm_b k) (pc + 7) = .ok (.athrow, 1)) : WP X (d + 6) k pc al [] M Q = Q (.inr x) (mm_skip M 6) := WP_end hd (fun rec => by
  have e1 : mm_step rec X (d + 6) k pc (.new idx) 3 al [] M = mm_heap rec X (d + 6) k pc (.new idx) 3 al [] M := rfl
  rw [e1]
  unfold mm_heap
  simp only [h0, h]
  exact if_pos ⟨by omega, Nat.zero_le _, hk, h3, h4, h7⟩)
theorem WP_newa {t : ArrayType} {n : Int32} {q w : Nat} {x : vp_A} (hd : decode (mm_b k) pc = .ok (.newarray t, 2)) (ht : mm_aty t = some (q, x, w)) : WP X d k pc al (.int n :: r) M Q = (¬ (n < 0 ∨ 536870912 < n.toNatClampNeg * w) ∧ WP X d k (pc + 2) al (.ref M.1 :: r) (mm_push M n.toNatClampNeg (.inl (q, n.toNatClampNeg, x.2))) Q) := by
  have e1 : ∀ rec, mm_step rec X d k pc (.newarray t) 2 al (.int n :: r) M = (match mm_aty t with
    | some (q, x, w) => if n < 0 ∨ 536870912 < n.toNatClampNeg * w then none else rec d k (pc + 2) al (.ref M.1 :: r) (mm_push M n.toNatClampNeg (.inl (q, n.toNatClampNeg, x.2)))
    | none => none) := fun _ => rfl
  exact WP_ifn (fun z => WP_no hd (fun rec => by rw [e1, ht]; exact if_pos z)) (fun z => WP_to hd (fun rec => by rw [e1, ht]; exact if_neg z))
theorem WP_newq {idx : Nat} {n : Int32} (hd : decode (mm_b k) pc = .ok (.anewarray idx, 3)) (h : mm_new (mm_own k) idx = some 0) : WP X d k pc al (.int n :: r) M Q = (¬ (n < 0 ∨ 536870912 < n.toNatClampNeg * 4) ∧ WP X d k (pc + 3) al (.ref M.1 :: r) (mm_push M n.toNatClampNeg (.inl (2, n.toNatClampNeg, .inr (.inr (.inr (.inr (fun _ => none))))))) Q) := by
  have e1 : ∀ rec, mm_step rec X d k pc (.anewarray idx) 3 al (.int n :: r) M = (if n < 0 ∨ 536870912 < n.toNatClampNeg * 4 ∨ mm_new (mm_own k) idx ≠ some 0 then none else rec d k (pc + 3) al (.ref M.1 :: r) (mm_push M n.toNatClampNeg (.inl (2, n.toNatClampNeg, .inr (.inr (.inr (.inr (fun _ => none)))))))) := fun _ => rfl
  exact WP_ifn (fun z => WP_no hd (fun rec => by rw [e1]; exact if_pos (z.elim Or.inl (fun z => Or.inr (Or.inl z))))) (fun z => WP_to hd (fun rec => by rw [e1]; exact if_neg (fun y => y.elim (fun y => z (Or.inl y)) (fun y => y.elim (fun y => z (Or.inr y)) (fun y => y h)))))
theorem WP_copy {idx a0 : Nat} {n dp sp : Int32} (hd : decode (mm_b k) pc = .ok (.invokestatic idx, 3)) (h0 : mm_mth (mm_own k) idx = none) (hA : mm_isA (mm_own k) idx = true) (hr : mm_sum r ≤ 8) : WP X (d + 1) k pc al (.int n :: .int dp :: .ref a :: .int sp :: .ref a0 :: r) M Q = mm_cp (M.2.2 a0) (M.2.2 a) sp dp n (fun o => WP X (d + 1) k (pc + 3) al r (mm_set M a o) Q) := by
  have e1 : ∀ rec, mm_step rec X (d + 1) k pc (.invokestatic idx) 3 al (.int n :: .int dp :: .ref a :: .int sp :: .ref a0 :: r) M = (match mm_mth (mm_own k) idx with
    | some k' => if mm_kd k' = 0 ∨ mm_kd k' = 3 then mm_call rec (d + 1) k pc k' al (.int n :: .int dp :: .ref a :: .int sp :: .ref a0 :: r) M else none
    | none => if mm_isA (mm_own k) idx = true ∧ 1 ≤ d + 1 ∧ mm_sum r ≤ 8 then (match M.2.2 a0, M.2.2 a with
        | some (.inl (0, n0, .inl f)), some (.inl (0, n1, .inl g)) => if sp < 0 ∨ dp < 0 ∨ n < 0 ∨ n0 < sp.toNatClampNeg + n.toNatClampNeg ∨ n1 < dp.toNatClampNeg + n.toNatClampNeg then none else rec (d + 1) k (pc + 3) al r (mm_set M a (.inl (0, n1, .inl (va_cpy f g sp.toNatClampNeg dp.toNatClampNeg n.toNatClampNeg))))
        | _, _ => none) else none) := fun _ => rfl
  rw [h0] at e1
  have hg : mm_isA (mm_own k) idx = true ∧ 1 ≤ d + 1 ∧ mm_sum r ≤ 8 := ⟨hA, by omega, hr⟩
  simp only [if_pos hg] at e1
  unfold mm_cp
  split
  · rename_i n0 f n1 g hM hV
    exact WP_ifn (fun z => WP_no hd (fun rec => by rw [e1, hM, hV]; exact if_pos z)) (fun z => WP_to hd (fun rec => by rw [e1, hM, hV]; exact if_neg z))
  · rename_i hM
    refine WP_no hd (fun rec => ?_)
    rw [e1]
    split
    · rename_i n0 f n1 g h8 h9
      exact absurd h9 (hM n0 f n1 g h8)
    · rfl
theorem WP_max {idx : Nat} {x y q : Int32} (hd : decode (mm_b k) pc = .ok (.invokestatic idx, 3)) (h0 : mm_mth (mm_own k) idx = none) (hX : mm_isX (mm_own k) idx = true) (hr : mm_sum (.int q :: r) ≤ 8) : WP X (d + 1) k pc al (.int y :: .int x :: .int q :: r) M Q = WP X (d + 1) k (pc + 3) al (.int (if x < y then y else x) :: .int q :: r) M Q := by
  refine WP_to hd (fun rec => ?_)
  have e1 : mm_step rec X (d + 1) k pc (.invokestatic idx) 3 al (.int y :: .int x :: .int q :: r) M = (match mm_mth (mm_own k) idx with
      | some k' => if mm_kd k' = 0 ∨ mm_kd k' = 3 then mm_call rec (d + 1) k pc k' al (.int y :: .int x :: .int q :: r) M else none
      | none => if mm_isX (mm_own k) idx = true ∧ 1 ≤ d + 1 ∧ mm_sum (.int q :: r) ≤ 8 then rec (d + 1) k (pc + 3) al (.int (if x < y then y else x) :: .int q :: r) M else none) := rfl
  rw [e1, h0]
  exact if_pos ⟨hX, by omega, hr⟩
theorem WP_obj {idx : Nat} (hd : decode (mm_b k) pc = .ok (.invokespecial idx, 3)) (h0 : mm_mth (mm_own k) idx = none) (hO : mm_isO (mm_own k) idx = true) (hr : mm_sum r ≤ 8) : WP X (d + 1) k pc al (.ref a :: r) M Q = WP X (d + 1) k (pc + 3) al r M Q := WP_to hd (fun rec => by
  show (match mm_mth (mm_own k) idx with
    | some k' => _
    | none => if mm_isO (mm_own k) idx = true ∧ 1 ≤ d + 1 ∧ mm_sum r ≤ 8 then rec (d + 1) k (pc + 3) al r M else none) = _
  rw [h0]
  exact if_pos ⟨hO, by omega, hr⟩)
theorem WP_iret {v : Int32} (hd : decode (mm_b k) pc = .ok (.ireturn, 1)) (h : mm_rt k = some .int) : WP X d k pc al [.int v] M Q = Q (.inl (some (.int v))) M := WP_end hd (fun rec => if_pos (Or.inl h))
theorem WP_zret {v : Int32} (hd : decode (mm_b k) pc = .ok (.ireturn, 1)) (h : mm_rt k = some .boolean) : WP X d k pc al [.int v] M Q = ((v = 0 ∨ v = 1) ∧ Q (.inl (some (.int v))) M) := by
  have e1 : ∀ rec, mm_step rec X d k pc .ireturn 1 al [.int v] M = (if mm_rt k = some .int ∨ (mm_rt k = some .boolean ∧ (v = 0 ∨ v = 1)) then some (.inl (some (.int v)), M) else none) := fun _ => rfl
  by_cases hv : v = 0 ∨ v = 1
  · rw [WP_end hd (fun rec => by rw [e1]; exact if_pos (Or.inr ⟨h, hv⟩))]; simp [hv]
  · rw [WP_no hd (fun rec => by rw [e1]; exact if_neg (fun z => z.elim (fun z => by rw [h] at z; cases z) (fun z => hv z.2)))]; simp [hv]
theorem WP_aret {v : Value} (hd : decode (mm_b k) pc = .ok (.areturn, 1)) (h : mm_rt k = some (.object (mR 0))) (hv : mm_vk v = 3) : WP X d k pc al [v] M Q = Q (.inl (some v)) M := WP_end hd (fun rec => if_pos ⟨h, hv⟩)
theorem WP_dret {v : UInt64} (hd : decode (mm_b k) pc = .ok (.dreturn, 1)) (h : mm_rt k = some .double) : WP X d k pc al [.double v] M Q = Q (.inl (some (.double v))) M := WP_end hd (fun rec => if_pos h)
theorem WP_vret (hd : decode (mm_b k) pc = .ok (.return_, 1)) (h : mm_rt k = none) : WP X d k pc al [] M Q = Q (.inl none) M := WP_end hd (fun rec => if_pos h)
/-- what a call does behind it with an exception -/
def mm_G (k pc kc : Nat) (Q : mm_Out → mm_M → Prop) (x : Nat) (M : mm_M) : Prop := if mm_kd kc = 2 then False else if mm_kd k = 3 then (match mm_hnd k pc x with
  | some r => Q (.inl (some (.int (Int32.ofInt r)))) M
  | none => False) else if mm_kd k = 4 then False else Q (.inr x) M
theorem WP_call0 {k' : Nat} {vs : List Value} (hs : ∀ rec, mm_step rec X (d + 1) k pc i len al st M = mm_call rec (d + 1) k pc k' al st M) (hd : decode (mm_b k) pc = .ok (i, len)) (hst : st = vs.reverse ++ r) (hn : mm_na k' = vs.length) (hc : vs.all (fun v => v.category == 1) = true) (hr : mm_sum r ≤ 8) :
    WP X (d + 1) k pc al st M Q = WPC X d k' vs M (mm_K (fun v M' => WP X (d + 1) k (pc + 3) al (v.toList ++ r) M' Q) (mm_G k pc k' Q)) := by
  have e1 : ∀ rec, mm_step rec X (d + 1) k pc i len al st M = (match rec d k' 0 (mm_arg k' vs) [] M with
    | some (.inl v, M') => rec (d + 1) k (pc + 3) al (v.toList ++ r) M'
    | some (.inr x, M') => if mm_kd k' = 2 then none else if mm_kd k = 3 then (mm_hnd k pc x).map (fun r => (.inl (some (.int (Int32.ofInt r))), M')) else if mm_kd k = 4 then none else some (.inr x, M')
    | none => none) := by
    intro rec
    rw [hs]
    have t1 : st.take (mm_na k') = vs.reverse := by rw [hst, hn]; simp
    have t2 : st.drop (mm_na k') = r := by rw [hst, hn]; simp
    unfold mm_call
    rw [t1, t2, if_neg, List.reverse_reverse]
    · rfl
    · rintro (z | z | z | z)
      · omega
      · rw [hst, hn] at z; simp at z; omega
      · omega
      · rw [List.all_reverse, hc] at z; cases z
  refine propext ((WP_unfold hd).trans ?_)
  simp only [e1]
  unfold WPC
  constructor
  · rintro ⟨n, o, M', h, hq⟩
    cases hrun : mm_run X n d k' 0 (mm_arg k' vs) [] M with
    | none => rw [hrun] at h; cases h
    | some w =>
      obtain ⟨oc, M1⟩ := w
      rw [hrun] at h
      refine ⟨n, oc, M1, hrun, ?_⟩
      cases oc with
      | inl v => exact ⟨n, o, M', h, hq⟩
      | inr x =>
        show mm_G k pc k' Q x M1
        unfold mm_G
        dsimp only at h
        split at h
        · cases h
        · rename_i h2
          rw [if_neg h2]
          split at h
          · rename_i h3
            rw [if_pos h3]
            cases hh : mm_hnd k pc x with
            | none => rw [hh] at h; cases h
            | some rr => rw [hh] at h; cases h; exact hq
          · rename_i h3
            rw [if_neg h3]
            split at h
            · cases h
            · rename_i h4
              rw [if_neg h4]
              cases h
              exact hq
  · rintro ⟨n, oc, M1, hrun, hq⟩
    cases oc with
    | inl v =>
      obtain ⟨n2, o, M', h, hq⟩ := hq
      refine ⟨max n n2, o, M', ?_, hq⟩
      rw [mm_run_le (Nat.le_max_left n n2) hrun]
      exact mm_run_le (Nat.le_max_right n n2) h
    | inr x =>
      have hq : mm_G k pc k' Q x M1 := hq
      unfold mm_G at hq
      split at hq
      · exact hq.elim
      · rename_i h2
        split at hq
        · rename_i h3
          cases hh : mm_hnd k pc x with
          | none => rw [hh] at hq; exact hq.elim
          | some rr =>
            rw [hh] at hq
            refine ⟨n, _, _, ?_, hq⟩
            rw [hrun]
            dsimp only
            rw [if_neg h2, if_pos h3, hh]
            rfl
        · rename_i h3
          split at hq
          · exact hq.elim
          · rename_i h4
            refine ⟨n, _, _, ?_, hq⟩
            rw [hrun]
            dsimp only
            rw [if_neg h2, if_neg h3, if_neg h4]
theorem WP_callS {k' idx : Nat} {vs : List Value} (hd : decode (mm_b k) pc = .ok (.invokestatic idx, 3)) (hm : mm_mth (mm_own k) idx = some k') (hk : mm_kd k' = 0 ∨ mm_kd k' = 3) (hst : st = vs.reverse ++ r) (hn : mm_na k' = vs.length) (hc : vs.all (fun v => v.category == 1) = true) (hr : mm_sum r ≤ 8) :
    WP X (d + 1) k pc al st M Q = WPC X d k' vs M (mm_K (fun v M' => WP X (d + 1) k (pc + 3) al (v.toList ++ r) M' Q) (mm_G k pc k' Q)) :=
  WP_call0 (fun rec => by
    have e1 : mm_step rec X (d + 1) k pc (.invokestatic idx) 3 al st M = mm_heap rec X (d + 1) k pc (.invokestatic idx) 3 al st M := rfl
    rw [e1]
    unfold mm_heap
    simp only [hm]
    exact if_pos hk) hd hst hn hc hr
theorem WP_callV {k' idx b : Nat} {vs : List Value} (hd : decode (mm_b k) pc = .ok (.invokevirtual idx, 3)) (hm : mm_mth (mm_own k) idx = some k') (hk : mm_kd k' = 1) (hst : st = (.ref b :: vs).reverse ++ r) (hn : mm_na k' = vs.length + 1) (hc : vs.all (fun v => v.category == 1) = true) (hr : mm_sum r ≤ 8) :
    WP X (d + 1) k pc al st M Q = (mm_rc (M.2.2 b) (mm_own k') ∧ WPC X d k' (.ref b :: vs) M (mm_K (fun v M' => WP X (d + 1) k (pc + 3) al (v.toList ++ r) M' Q) (mm_G k pc k' Q))) := by
  have hb : st[mm_na k' - 1]? = some (.ref b) := by rw [hst, hn]; simp
  have e1 : ∀ rec, mm_step rec X (d + 1) k pc (.invokevirtual idx) 3 al st M = (match M.2.2 b with
    | some (.inr (c, _)) => if mm_kd k' = 1 ∧ c = mm_own k' then mm_call rec (d + 1) k pc k' al st M else none
    | _ => none) := by
    intro rec
    have e1 : mm_step rec X (d + 1) k pc (.invokevirtual idx) 3 al st M = mm_heap rec X (d + 1) k pc (.invokevirtual idx) 3 al st M := rfl
    rw [e1]
    unfold mm_heap
    simp only [hm, hb]
    rfl
  cases hM : M.2.2 b with
  | none => rw [WP_no hd (fun rec => by rw [e1, hM])]; simp [mm_rc]
  | some o =>
    cases o with
    | inl q => rw [WP_no hd (fun rec => by rw [e1, hM])]; simp [mm_rc]
    | inr q =>
      obtain ⟨c, fs⟩ := q
      by_cases hcc : c = mm_own k'
      · rw [WP_call0 (vs := .ref b :: vs) (fun rec => by rw [e1, hM]; exact if_pos ⟨hk, hcc⟩) hd hst (by rw [hn]; rfl) (by rw [List.all_cons, hc]; rfl) hr]
        simp [mm_rc, hcc]
      · rw [WP_no hd (fun rec => by rw [e1, hM]; exact if_neg (fun z => hcc z.2))]
        simp [mm_rc, hcc]
theorem WP_callI {k' idx b : Nat} {vs : List Value} (hd : decode (mm_b k) pc = .ok (.invokespecial idx, 3)) (hm : mm_mth (mm_own k) idx = some k') (hk : mm_kd k' = 2) (hst : st = (.ref b :: vs).reverse ++ r) (hn : mm_na k' = vs.length + 1) (hc : vs.all (fun v => v.category == 1) = true) (hr : mm_sum r ≤ 8) :
    WP X (d + 1) k pc al st M Q = WPC X d k' (.ref b :: vs) M (mm_K (fun v M' => WP X (d + 1) k (pc + 3) al (v.toList ++ r) M' Q) (mm_G k pc k' Q)) := by
  have hb : st[mm_na k' - 1]? = some (.ref b) := by rw [hst, hn]; simp
  exact WP_call0 (vs := .ref b :: vs) (fun rec => by
    have e1 : mm_step rec X (d + 1) k pc (.invokespecial idx) 3 al st M = mm_heap rec X (d + 1) k pc (.invokespecial idx) 3 al st M := rfl
    rw [e1]
    unfold mm_heap
    simp only [hm, hb]
    exact if_pos hk) hd hst (by rw [hn]; rfl) (by rw [List.all_cons, hc]; rfl) hr
theorem WP_det {o : mm_Out} {M' : mm_M} (h : WP X d k pc al st M (fun o' M'' => o' = o ∧ M'' = M')) : WP X d k pc al st M Q = Q o M' := by
  obtain ⟨n, o1, M1, h1, rfl, rfl⟩ := h
  refine propext ⟨fun ⟨n2, o2, M2, h2, hq⟩ => ?_, fun hq => ⟨n, _, _, h1, hq⟩⟩
  have e1 := mm_run_le (Nat.le_max_left n n2) h1
  have e2 := mm_run_le (Nat.le_max_right n n2) h2
  rw [e1] at e2
  cases e2
  exact hq
end MR3
