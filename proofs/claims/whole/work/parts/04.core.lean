/-! the abstract machine: the bytecode over a memory that maps addresses to objects and arrays -/
abbrev mm_O : Type := (Nat × vp_A) ⊕ (Nat × List Value)
/-- heap size, slots used since the start, what lies where -/
abbrev mm_M : Type := Nat × Nat × (Nat → Option mm_O)
/-- returned a value, or threw the exception of that number (mm_E) -/
abbrev mm_Out : Type := (Option Value) ⊕ Nat
def mm_set (M : mm_M) (a : Nat) (o : mm_O) : mm_M := (M.1, M.2.1, fun q => if q = a then some o else M.2.2 q)
def mm_push (M : mm_M) (n : Nat) (o : mm_O) : mm_M := (M.1 + 1, M.2.1 + n, fun q => if q = M.1 then some o else M.2.2 q)
def mm_skip (M : mm_M) (n : Nat) : mm_M := (M.1 + 1, M.2.1 + n, M.2.2)
def mm_fld (o i : Nat) : Option (Nat × Nat) := (mm_FL.find? (fun e => e.1 == o && e.2.1 == i)).map (fun e => (e.2.2.1, e.2.2.2.1))
def mm_mth (o i : Nat) : Option Nat := (mm_ML.find? (fun e => e.1 == o && e.2.1 == i)).map (fun e => e.2.2.1)
def mm_isO (o i : Nat) : Bool := mm_OL.any (fun e => e.1 == o && e.2.1 == i)
def mm_isA (o i : Nat) : Bool := mm_AL.any (fun e => e.1 == o && e.2.1 == i)
def mm_isX (o i : Nat) : Bool := mm_XL.any (fun e => e.1 == o && e.2.1 == i)
def mm_new (o i : Nat) : Option Nat := (mm_CL.find? (fun e => e.1 == o && e.2.1 == i)).map (fun e => e.2.2.1)
def mm_thr (o i : Nat) : Option (Nat × Nat) := (mm_EL.find? (fun e => e.1 == o && e.2.1 == i)).map (fun e => (e.2.2.1, e.2.2.2.1))
def mm_hnd (k pc x : Nat) : Option Int := (mm_HL.find? (fun e => e.1 == k && e.2.1 == pc && e.2.2.1 == x)).map (fun e => e.2.2.2)
def mm_vk (v : Value) : Nat := match v with
  | .int _ => 0
  | .long _ => 1
  | .double _ => 2
  | .null => 3
  | .ref _ => 3
  | _ => 9
def mm_fits (ty : FieldType) (v : Value) : Bool := match ty with
  | .int => mm_vk v == 0
  | .object _ => mm_vk v == 3
  | .array _ => mm_vk v == 3
  | _ => false
def mm_cc (c : ClassFile.Cond) (x y : Int32) : Bool := match c with
  | .eq => decide (x = y)
  | .ne => decide (¬ x = y)
  | .lt => decide (x < y)
  | .ge => decide (y ≤ x)
  | .gt => decide (y < x)
  | .le => decide (x ≤ y)
def mm_pu (i : Instr) (len : Nat) (st : List Value) : Option (List Value) := match i, len, st with
  | .iconst v, 1, st => some (.int (Int32.ofInt v) :: st)
  | .bipush v, 2, st => some (.int (Int8.ofInt v).toInt32 :: st)
  | .sipush v, 3, st => some (.int (Int16.ofInt v).toInt32 :: st)
  | .lconst v, 1, st => some (.long (Int64.ofNat (v : Nat)) :: st)
  | .aconst_null, 1, st => some (.null :: st)
  | .iadd, 1, .int y :: .int x :: r => some (.int (x + y) :: r)
  | .isub, 1, .int y :: .int x :: r => some (.int (x - y) :: r)
  | .imul, 1, .int y :: .int x :: r => some (.int (x * y) :: r)
  | .idiv, 1, .int y :: .int x :: r => if y = 0 then none else some (.int (x / y) :: r)
  | .irem, 1, .int y :: .int x :: r => if y = 0 then none else some (.int (x - x / y * y) :: r)
  | .iand, 1, .int y :: .int x :: r => some (.int (x &&& y) :: r)
  | .i2l, 1, .int x :: r => some (.long x.toInt64 :: r)
  | .i2d, 1, .int x :: r => some (.double (FP.i2d x) :: r)
  | .l2d, 1, .long x :: r => some (.double (FP.l2d x) :: r)
  | .ladd, 1, .long y :: .long x :: r => some (.long (x + y) :: r)
  | .lcmp, 1, .long y :: .long x :: r => some (.int (lg_cmp x y) :: r)
  | .ddiv, 1, .double y :: .double x :: r => if FP.ddiv x y &&& 0x7fffffffffffffff ≤ 0x7ff0000000000000 then some (.double (FP.ddiv x y) :: r) else none
  | .dcmp op, 1, .double y :: .double x :: r => some (.int (Op.cmpValue (FP.dcmp x y) op) :: r)
  | .dup, 1, v :: r => if v.category = 1 then some (v :: v :: r) else none
  | .dup2, 1, v :: u :: r => if v.category = 1 ∧ u.category = 1 then some (v :: u :: v :: u :: r) else none
  | .pop, 1, v :: r => if v.category = 1 then some r else none
  | _, _, _ => none
def mm_tg (pc : Nat) (o : Int) : Option Nat := if 0 ≤ (pc : Int) + o then some ((pc : Int) + o).toNat else none
/-- where a branch goes on -/
def mm_br (pc : Nat) (i : Instr) (len : Nat) (st : List Value) : Option (List Value × Nat) := match i, len, st with
  | .goto o, 3, st => (mm_tg pc o).map (fun t => (st, t))
  | .if_icmp c o, 3, .int y :: .int x :: r => (mm_tg pc o).map (fun t => (r, if mm_cc c x y = true then t else pc + 3))
  | .ifCond c o, 3, .int x :: r => (mm_tg pc o).map (fun t => (r, if mm_cc c x 0 = true then t else pc + 3))
  | .ifnull o, 3, .null :: r => (mm_tg pc o).map (fun t => (r, t))
  | .ifnull _, 3, .ref _ :: r => some (r, pc + 3)
  | .ifnonnull _, 3, .null :: r => some (r, pc + 3)
  | .ifnonnull o, 3, .ref _ :: r => (mm_tg pc o).map (fun t => (r, t))
  | .tableswitch d lo hi offs, _, .int x :: r => if x.toInt < lo ∨ hi < x.toInt then (mm_tg pc d).map (fun t => (r, t)) else (match offs[(x.toInt - lo).toNat]? with
    | some o => (mm_tg pc o).map (fun t => (r, t))
    | none => none)
  | .lookupswitch d ps, _, .int x :: r => if (ps.toList.zip (ps.toList.drop 1)).all (fun (a, next) => a.1 < next.1) = true then (mm_tg pc (Op.lookupswitch.offset ps.toList d x.toInt)).map (fun t => (r, t)) else none
  | _, _, _ => none
def mm_ld (i : Instr) (len : Nat) : Option (Nat × Nat) := match i, len with
  | .iload n, 2 => some (n, 0)
  | .iload_n n, 1 => some (n, 0)
  | .lload n, 2 => some (n, 1)
  | .lload_n n, 1 => some (n, 1)
  | .dload n, 2 => some (n, 2)
  | .aload n, 2 => some (n, 3)
  | .aload_n n, 1 => some (n, 3)
  | _, _ => none
def mm_so (i : Instr) (len : Nat) : Option (Nat × Nat) := match i, len with
  | .istore n, 2 => some (n, 0)
  | .istore_n n, 1 => some (n, 0)
  | .lstore n, 2 => some (n, 1)
  | .lstore_n n, 1 => some (n, 1)
  | .dstore n, 2 => some (n, 2)
  | .astore n, 2 => some (n, 3)
  | .astore_n n, 1 => some (n, 3)
  | _, _ => none
/-- what a store of a place leaves of the value one below -/
def mm_k (v : Option Value) : Option Value := match v with
  | some (.long _) => none
  | some (.double _) => none
  | v => v
def mm_a1 (al : List (Option Value)) (n : Nat) : List (Option Value) := match n with
  | 0 => al
  | j + 1 => al.modify j mm_k
def mm_st (al : List (Option Value)) (n : Nat) (v : Value) : List (Option Value) := match v with
  | .long _ => ((mm_a1 al n).set n (some v)).set (n + 1) none
  | .double _ => ((mm_a1 al n).set n (some v)).set (n + 1) none
  | _ => (mm_a1 al n).set n (some v)
def mm_sum (st : List Value) : Nat := (st.map fun v => v.category).sum
def mm_arg (k : Nat) (vs : List Value) : List (Option Value) := vs.map some ++ List.replicate (mm_mx k - vs.length) none
def mm_aty (t : ArrayType) : Option (Nat × vp_A × Nat) := match t with
  | .int => some (0, (0, .inl (fun _ => 0)), 4)
  | .boolean => some (1, (0, .inl (fun _ => 0)), 1)
  | .long => some (3, (0, .inr (.inl (fun _ => 0))), 8)
  | .double => some (4, (0, .inr (.inr (.inr (.inl (fun _ => 0))))), 8)
  | _ => none
def mm_dfl (c : Nat) : List Value := (List.range (mN c)).map (fun j => defaultValue (mF c j))
section MM
variable (rec : Nat → Nat → Nat → List (Option Value) → List Value → mm_M → Option (mm_Out × mm_M)) (X : Nat × Nat × (Nat → Int32))
def mm_call (d k pc : Nat) (k' : Nat) (al : List (Option Value)) (st : List Value) (M : mm_M) : Option (mm_Out × mm_M) :=
  if d = 0 ∨ st.length < mm_na k' ∨ 8 < mm_sum (st.drop (mm_na k')) ∨ (st.take (mm_na k')).all (fun v => v.category == 1) = false then none else
  match rec (d - 1) k' 0 (mm_arg k' (st.take (mm_na k')).reverse) [] M with
  | some (.inl v, M') => rec d k (pc + 3) al (v.toList ++ st.drop (mm_na k')) M'
  | some (.inr x, M') => if mm_kd k' = 2 then none else if mm_kd k = 3 then (mm_hnd k pc x).map (fun r => (.inl (some (.int (Int32.ofInt r))), M')) else if mm_kd k = 4 then none else some (.inr x, M')
  | none => none
def mm_heap (d k pc : Nat) (i : Instr) (len : Nat) (al : List (Option Value)) (st : List Value) (M : mm_M) : Option (mm_Out × mm_M) := match i, len, st with
  | .iinc n v, 3, st => match al[n]? with
    | some (some (.int x)) => rec d k (pc + 3) (mm_st al n (.int (x + Int32.ofInt v))) st M
    | _ => none
  | .getfield idx, 3, .ref a :: r => match mm_fld (mm_own k) idx, M.2.2 a with
    | some (ci, j), some (.inr (c, fs)) => if c = ci then (match fs[j]? with
      | some v => rec d k (pc + 3) al (v :: r) M
      | none => none) else none
    | _, _ => none
  | .putfield idx, 3, v :: .ref a :: r => match mm_fld (mm_own k) idx, M.2.2 a with
    | some (ci, j), some (.inr (c, fs)) => if c = ci ∧ j < fs.length ∧ mm_fits (mF ci j) v = true ∧ ((mT ci j).2.2.2 = false ∨ (mm_kd k = 2 ∧ ci = mm_own k)) then rec d k (pc + 3) al r (mm_set M a (.inr (c, fs.set j v))) else none
    | _, _ => none
  | .iaload, 1, .int j :: .ref a :: r => match M.2.2 a with
    | some (.inl (0, n, .inl f)) => if j < 0 ∨ n ≤ j.toNatClampNeg then none else rec d k (pc + 1) al (.int (f j.toNatClampNeg) :: r) M
    | some _ => none
    | none => if a = X.1 then (if j < 0 ∨ X.2.1 ≤ j.toNatClampNeg then none else rec d k (pc + 1) al (.int (X.2.2 j.toNatClampNeg) :: r) M) else none
  | .baload, 1, .int j :: .ref a :: r => match M.2.2 a with
    | some (.inl (1, n, .inl f)) => if j < 0 ∨ n ≤ j.toNatClampNeg then none else rec d k (pc + 1) al (.int (f j.toNatClampNeg) :: r) M
    | _ => none
  | .aaload, 1, .int j :: .ref a :: r => match M.2.2 a with
    | some (.inl (2, n, .inr (.inr (.inr (.inr f))))) => if j < 0 ∨ n ≤ j.toNatClampNeg then none else rec d k (pc + 1) al (va_rf (f j.toNatClampNeg) :: r) M
    | _ => none
  | .laload, 1, .int j :: .ref a :: r => match M.2.2 a with
    | some (.inl (3, n, .inr (.inl f))) => if j < 0 ∨ n ≤ j.toNatClampNeg then none else rec d k (pc + 1) al (.long (f j.toNatClampNeg) :: r) M
    | _ => none
  | .daload, 1, .int j :: .ref a :: r => match M.2.2 a with
    | some (.inl (4, n, .inr (.inr (.inr (.inl f))))) => if j < 0 ∨ n ≤ j.toNatClampNeg then none else rec d k (pc + 1) al (.double (f j.toNatClampNeg) :: r) M
    | _ => none
  | .iastore, 1, .int x :: .int j :: .ref a :: r => match M.2.2 a with
    | some (.inl (0, n, .inl f)) => if j < 0 ∨ n ≤ j.toNatClampNeg then none else rec d k (pc + 1) al r (mm_set M a (.inl (0, n, .inl (upd f j.toNatClampNeg x))))
    | _ => none
  | .bastore, 1, .int x :: .int j :: .ref a :: r => match M.2.2 a with
    | some (.inl (1, n, .inl f)) => if j < 0 ∨ n ≤ j.toNatClampNeg then none else rec d k (pc + 1) al r (mm_set M a (.inl (1, n, .inl (upd f j.toNatClampNeg (vp_nar .boolean x)))))
    | _ => none
  | .lastore, 1, .long x :: .int j :: .ref a :: r => match M.2.2 a with
    | some (.inl (3, n, .inr (.inl f))) => if j < 0 ∨ n ≤ j.toNatClampNeg then none else rec d k (pc + 1) al r (mm_set M a (.inl (3, n, .inr (.inl (vp_updL f j.toNatClampNeg x)))))
    | _ => none
  | .dastore, 1, .double x :: .int j :: .ref a :: r => match M.2.2 a with
    | some (.inl (4, n, .inr (.inr (.inr (.inl f))))) => if j < 0 ∨ n ≤ j.toNatClampNeg then none else rec d k (pc + 1) al r (mm_set M a (.inl (4, n, .inr (.inr (.inr (.inl (vf_upd f j.toNatClampNeg x)))))))
    | _ => none
  | .aastore, 1, .null :: .int j :: .ref a :: r => match M.2.2 a with
    | some (.inl (2, n, .inr (.inr (.inr (.inr f))))) => if j < 0 ∨ n ≤ j.toNatClampNeg then none else rec d k (pc + 1) al r (mm_set M a (.inl (2, n, .inr (.inr (.inr (.inr (va_up f j.toNatClampNeg none)))))))
    | _ => none
  | .aastore, 1, .ref v :: .int j :: .ref a :: r => match M.2.2 a, M.2.2 v with
    | some (.inl (2, n, .inr (.inr (.inr (.inr f))))), some (.inr (0, _)) => if j < 0 ∨ n ≤ j.toNatClampNeg then none else rec d k (pc + 1) al r (mm_set M a (.inl (2, n, .inr (.inr (.inr (.inr (va_up f j.toNatClampNeg (some v))))))))
    | _, _ => none
  | .arraylength, 1, .ref a :: r => match M.2.2 a with
    | some (.inl (t, n, _)) => if t < 5 then rec d k (pc + 1) al (.int (Int32.ofNat n) :: r) M else none
    | some _ => none
    | none => if a = X.1 then rec d k (pc + 1) al (.int (Int32.ofNat X.2.1) :: r) M else none
  | .new idx, 3, r => match mm_new (mm_own k) idx with
    | some ci => rec d k (pc + 3) al (.ref M.1 :: r) (mm_push M (mN ci) (.inr (ci, mm_dfl ci)))
    | none => match mm_thr (mm_own k) idx with
      | some (x, ic) => if 6 ≤ d ∧ mm_sum r ≤ 8 ∧ (mm_kd k < 2) ∧ decode (mm_b k) (pc + 3) = .ok (.dup, 1) ∧ decode (mm_b k) (pc + 4) = .ok (.invokespecial ic, 3) ∧ decode (mm_b k) (pc + 7) = .ok (.athrow, 1) then some (.inr x, mm_skip M 6) else none
      | none => none
  | .newarray t, 2, .int n :: r => match mm_aty t with
    | some (q, x, w) => if n < 0 ∨ 536870912 < n.toNatClampNeg * w then none else rec d k (pc + 2) al (.ref M.1 :: r) (mm_push M n.toNatClampNeg (.inl (q, n.toNatClampNeg, x.2)))
    | none => none
  | .anewarray idx, 3, .int n :: r => if n < 0 ∨ 536870912 < n.toNatClampNeg * 4 ∨ mm_new (mm_own k) idx ≠ some 0 then none else rec d k (pc + 3) al (.ref M.1 :: r) (mm_push M n.toNatClampNeg (.inl (2, n.toNatClampNeg, .inr (.inr (.inr (.inr (fun _ => none)))))))
  | .invokestatic idx, 3, st => match mm_mth (mm_own k) idx with
    | some k' => if mm_kd k' = 0 ∨ mm_kd k' = 3 then mm_call rec d k pc k' al st M else none
    | none => match st with
      | .int n :: .int dp :: .ref a :: .int sp :: .ref a0 :: r => if mm_isA (mm_own k) idx = true ∧ 1 ≤ d ∧ mm_sum r ≤ 8 then (match M.2.2 a0, M.2.2 a with
        | some (.inl (0, n0, .inl f)), some (.inl (0, n1, .inl g)) => if sp < 0 ∨ dp < 0 ∨ n < 0 ∨ n0 < sp.toNatClampNeg + n.toNatClampNeg ∨ n1 < dp.toNatClampNeg + n.toNatClampNeg then none else rec d k (pc + 3) al r (mm_set M a (.inl (0, n1, .inl (va_cpy f g sp.toNatClampNeg dp.toNatClampNeg n.toNatClampNeg))))
        | _, _ => none) else none
      | .int y :: .int x :: r => if mm_isX (mm_own k) idx = true ∧ 1 ≤ d ∧ mm_sum r ≤ 8 then rec d k (pc + 3) al (.int (if x < y then y else x) :: r) M else none
      | _ => none
  | .invokevirtual idx, 3, st => match mm_mth (mm_own k) idx with
    | some k' => match st[mm_na k' - 1]? with
      | some (.ref b) => match M.2.2 b with
        | some (.inr (c, _)) => if mm_kd k' = 1 ∧ c = mm_own k' then mm_call rec d k pc k' al st M else none
        | _ => none
      | _ => none
    | none => none
  | .invokespecial idx, 3, st => match mm_mth (mm_own k) idx with
    | some k' => match st[mm_na k' - 1]? with
      | some (.ref _) => if mm_kd k' = 2 then mm_call rec d k pc k' al st M else none
      | _ => none
    | none => match st with
      | .ref _ :: r => if mm_isO (mm_own k) idx = true ∧ 1 ≤ d ∧ mm_sum r ≤ 8 then rec d k (pc + 3) al r M else none
      | _ => none
  | .ireturn, 1, [.int v] => if mm_rt k = some .int ∨ (mm_rt k = some .boolean ∧ (v = 0 ∨ v = 1)) then some (.inl (some (.int v)), M) else none
  | .areturn, 1, [v] => if mm_rt k = some (.object (mR 0)) ∧ mm_vk v = 3 then some (.inl (some v), M) else none
  | .dreturn, 1, [.double v] => if mm_rt k = some .double then some (.inl (some (.double v)), M) else none
  | .return_, 1, [] => if mm_rt k = none then some (.inl none, M) else none
  | _, _, _ => none
def mm_step (d k pc : Nat) (i : Instr) (len : Nat) (al : List (Option Value)) (st : List Value) (M : mm_M) : Option (mm_Out × mm_M) :=
  match mm_pu i len st with
  | some st' => rec d k (pc + len) al st' M
  | none => match mm_br pc i len st with
    | some (st', t) => rec d k t al st' M
    | none => match mm_ld i len with
      | some (n, t) => (match al[n]? with
        | some (some v) => if mm_vk v = t then rec d k (pc + len) al (v :: st) M else none
        | _ => none)
      | none => match mm_so i len with
        | some (n, t) => (match st with
          | v :: r => if mm_vk v = t ∧ n + v.category ≤ al.length then rec d k (pc + len) (mm_st al n v) r M else none
          | [] => none)
        | none => mm_heap rec X d k pc i len al st M
end MM
def mm_run (X : Nat × Nat × (Nat → Int32)) : Nat → Nat → Nat → Nat → List (Option Value) → List Value → mm_M → Option (mm_Out × mm_M)
  | 0 => fun _ _ _ _ _ _ => none
  | n + 1 => fun d k pc al st M => match decode (mm_b k) pc with
    | .ok (i, len) => mm_step (mm_run X n) X d k pc i len al st M
    | .error _ => none
/-- from here the method ends, and so -/
def WP (X : Nat × Nat × (Nat → Int32)) (d k pc : Nat) (al : List (Option Value)) (st : List Value) (M : mm_M) (Q : mm_Out → mm_M → Prop) : Prop := ∃ n o M', mm_run X n d k pc al st M = some (o, M') ∧ Q o M'
