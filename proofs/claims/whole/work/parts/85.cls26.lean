/-! the class: the layout with a new node -/
def layN (Λ : Lay) (n A a : Nat) (g f : Nat → Nat) : Lay := (fun c m => if m = n ∧ 4 ≤ c then A + g c else Λ.1 c m, fun q => if A ≤ q ∧ q < A + a then some (f (q - A), n) else Λ.2 q)
def newB (β : CS) (n : Nat) (F : Nat → Nat → Int32) (x : Int32) : CS := (fun c m => if m = n ∧ 6 ≤ c then F c else β.1 c m, fun m => if m = n then x else β.2 m)
/-- the offsets fit the kind -/
def gfOK (k a : Nat) (g f : Nat → Nat) : Prop := (∀ j, j < a → 4 ≤ f j ∧ g (f j) = j ∧ (9 ≤ f j → kTwo k = true)) ∧ (g 4 < a ∧ f (g 4) = 4) ∧ (kS k = true → ∀ c, 5 ≤ c → c ≤ 8 → g c < a ∧ f (g c) = c) ∧ (kTwo k = true → ∀ c, c = 9 ∨ c = 10 → g c < a ∧ f (g c) = c)
section CL27
variable {T n A a k : Nat} {g f : Nat → Nat} {Λ : Lay} {σ σ' : Sg} {β : CS} {M : mm_M}
theorem lay_n {c : Nat} (h : 4 ≤ c) : (layN Λ n A a g f).1 c n = A + g c := if_pos ⟨rfl, h⟩
theorem lay_o {c m : Nat} (h : ¬ (m = n ∧ 4 ≤ c)) : (layN Λ n A a g f).1 c m = Λ.1 c m := if_neg h
theorem lay_2n {q : Nat} (h : A ≤ q ∧ q < A + a) : (layN Λ n A a g f).2 q = some (f (q - A), n) := if_pos h
theorem lay_2o {q : Nat} (h : ¬ (A ≤ q ∧ q < A + a)) : (layN Λ n A a g f).2 q = Λ.2 q := if_neg h
theorem LK_new (hL : LK Λ σ) (hlt : ∀ q t, Λ.2 q = some t → q < A) (hg : gfOK k a g f) (h1 : sN σ' = sN σ + 1) (h2 : sK σ' = ud (sK σ) (sN σ) k) : LK (layN Λ (sN σ) A a g f) σ' := by
  refine ⟨fun q t h => ?_, fun c hc => ?_, fun m hm => ?_⟩
  · by_cases z : A ≤ q ∧ q < A + a
    · rw [lay_2n z] at h
      obtain ⟨a1, a2, a3⟩ := hg.1 (q - A) (by omega)
      obtain ⟨t1, t2⟩ := t
      simp only [Option.some.injEq, Prod.mk.injEq] at h
      obtain ⟨rfl, rfl⟩ := h
      simp only
      refine ⟨?_, fun y => by omega, fun _ => by omega, fun y => by rw [h2, ud_at]; exact a3 y⟩
      rw [lay_n a1, a2]
      omega
    · rw [lay_2o z] at h
      obtain ⟨b1, b2, b3, b4⟩ := hL.1 q t h
      refine ⟨?_, b2, fun y => by have := b3 y; omega, fun y => ?_⟩
      · rw [lay_o]
        · exact b1
        · rintro ⟨y1, y2⟩
          have := b3 y2
          omega
      · have := b3 (by omega)
        rw [h2, ud_ne (by omega)]
        exact b4 y
  · have h := hL.2.1 c hc
    have l := hlt _ _ h
    rw [lay_o (by omega), lay_2o (by omega)]
    exact h
  · by_cases z : m = sN σ
    · subst z
      have key : ∀ c, 4 ≤ c → g c < a → f (g c) = c → (layN Λ (sN σ) A a g f).2 ((layN Λ (sN σ) A a g f).1 c (sN σ)) = some (c, sN σ) := by
        intro c h4 hga hfg
        rw [lay_n h4, lay_2n ⟨by omega, by omega⟩, Nat.add_sub_cancel_left, hfg]
      rw [h2, ud_at]
      exact ⟨key 4 (by omega) hg.2.1.1 hg.2.1.2, fun hk c c5 c8 => key c (by omega) (hg.2.2.1 hk c c5 c8).1 (hg.2.2.1 hk c c5 c8).2, fun hk c hc => key c (by omega) (hg.2.2.2 hk c hc).1 (hg.2.2.2 hk c hc).2⟩
    · have hm' : m < sN σ := by omega
      obtain ⟨b1, b2, b3⟩ := hL.2.2 m hm'
      rw [h2, ud_ne z]
      have key : ∀ c, Λ.2 (Λ.1 c m) = some (c, m) → (layN Λ (sN σ) A a g f).2 ((layN Λ (sN σ) A a g f).1 c m) = some (c, m) := by
        intro c h
        have := hlt _ _ h
        rw [lay_o (by omega), lay_2o (by omega)]
        exact h
      exact ⟨key 4 b1, fun hk c c5 c8 => key c (b2 hk c c5 c8), fun hk c hc => key c (b3 hk c hc)⟩
theorem addN_f {to k x y p dd lv gv : Nat} {v : Int32} {L : List Int32} : sN (addN σ to k x y v p dd lv gv L) = sN σ + 1 ∧ sH (addN σ to k x y v p dd lv gv L) = ud (sH σ) to (some (sN σ)) ∧ sK (addN σ to k x y v p dd lv gv L) = ud (sK σ) (sN σ) k ∧ sO (addN σ to k x y v p dd lv gv L) = ud (sO σ) (sN σ) x ∧ sT (addN σ to k x y v p dd lv gv L) = ud (sT σ) (sN σ) y ∧ sV (addN σ to k x y v p dd lv gv L) = ud (sV σ) (sN σ) v ∧ sP (addN σ to k x y v p dd lv gv L) = ud (sP σ) (sN σ) p ∧ sD (addN σ to k x y v p dd lv gv L) = ud (sD σ) (sN σ) dd ∧ sL (addN σ to k x y v p dd lv gv L) = ud (sL σ) (sN σ) lv ∧ sG (addN σ to k x y v p dd lv gv L) = ud (sG σ) (sN σ) gv ∧ sS (addN σ to k x y v p dd lv gv L) = ud (sS σ) (8 * sN σ) L ∧ sC (addN σ to k x y v p dd lv gv L) = sC σ ∧ sR (addN σ to k x y v p dd lv gv L) = sR σ := ⟨rfl, rfl, rfl, rfl, rfl, rfl, rfl, rfl, rfl, rfl, rfl, rfl, rfl⟩
theorem newB_n {F : Nat → Nat → Int32} {x : Int32} {c : Nat} (h : 6 ≤ c) : (newB β n F x).1 c n = F c := if_pos ⟨rfl, h⟩
theorem newB_o {F : Nat → Nat → Int32} {x : Int32} {c m : Nat} (h : ¬ (m = n ∧ 6 ≤ c)) : (newB β n F x).1 c m = β.1 c m := if_neg h
theorem newB_2n {F : Nat → Nat → Int32} {x : Int32} : (newB β n F x).2 n = x := if_pos rfl
theorem newB_2o {F : Nat → Nat → Int32} {x : Int32} {m : Nat} (h : m ≠ n) : (newB β n F x).2 m = β.2 m := if_neg h
theorem StRel_new (hW : WF T σ) (hS : StRel σ β) {L : List Int32} {F : Nat → Nat → Int32} {x : Int32} (g1 : sN σ' = sN σ + 1) (g2 : sK σ' = ud (sK σ) (sN σ) k) (g3 : sS σ' = ud (sS σ) (8 * sN σ) L) (g4 : sC σ' = sC σ) (g5 : sR σ' = sR σ) (h6 : k = 6 → L = []) (hF6 : kS k = true → ∀ i (h : i < L.length), F 6 i = L[i]) (hF7 : kS k = true → ∀ i, F 7 i = nI 0) (hF8 : kS k = true → ∀ i, F 8 i = nI 0) (hx : kS k = true → x = nI L.length) : StRel σ' (newB β (sN σ) F x) := by
  have hend := hW.2.2.2.2.2.2.2 (sN σ) (Nat.le_refl _)
  intro m hm hk
  by_cases z : m = sN σ
  · subst z
    have ek : sK σ' (sN σ) = k := by rw [g2, ud_at]
    rw [ek] at hk ⊢
    have hc : cat σ' (sN σ) = L.map (fun v => (0, v)) := by
      unfold cat ksO
      rw [ek, g5, g3]
      by_cases k6 : k = 6
      · rw [if_pos k6, hend.1, h6 k6]
        rfl
      · rw [if_neg k6]
        simp [ud_at]
    rw [hc]
    have e0 : sC σ (8 * sN σ) = 0 := (hend.2 0 (by decide)).2
    refine ⟨⟨?_, fun i hi => ?_⟩, fun _ => ?_, fun _ => ?_, fun k6 q hq => ?_⟩
    · rw [newB_2n, hx hk, List.length_map]
    · rw [List.length_map] at hi
      rw [newB_n (by decide), newB_n (by decide), List.getElem_map]
      exact ⟨hF6 hk i hi, hF7 hk i⟩
    · rw [newB_n (by decide)]; exact hF8 hk 0
    · rw [newB_n (by decide), g4, e0]; exact hF8 hk 0
    · rw [newB_n (by decide), g4, (hend.2 q hq).2]; exact hF8 hk q
  · have hm' : m < sN σ := by omega
    have ek : sK σ' m = sK σ m := by rw [g2, ud_ne z]
    rw [ek] at hk ⊢
    have hc : cat σ' m = cat σ m := by
      have eo : ksO σ' m = ksO σ m := by unfold ksO; rw [ek, g5]
      rw [cat_flat, cat_flat, eo, g3]
      apply flat_congr
      intro k hk
      have := ks_8 hW hm' k hk
      rw [ud_ne (by omega)]
    obtain ⟨a1, a2, a3, a4⟩ := hS m hm' hk
    rw [hc, g4, newB_o (fun y => z y.1)]
    refine ⟨?_, a2, a3, a4⟩
    unfold holds at a1 ⊢
    rw [newB_2o z, newB_o (fun y => z y.1), newB_o (fun y => z y.1)]
    exact a1
theorem cell_old (hW : WF T σ) {x y p dd lv gv to : Nat} {v x' : Int32} {L : List Int32} {F : Nat → Nat → Int32} {c m : Nat} (h0 : c ≠ 0) (h1 : c ≠ 1) (b2 : c < 4 → m = 0) (b3 : 4 ≤ c → m < sN σ) (b4 : 9 ≤ c → kTwo (sK σ m) = true) : c_cell (layN Λ (sN σ) A a g f) (addN σ to k x y v p dd lv gv L) (newB β (sN σ) F x') c m = c_cell Λ σ β c m := by
  obtain ⟨g1, g2, g3, g4, g5, g6, g7, g8, g9, g10, g11, g12, g13⟩ := addN_f (σ := σ) (to := to) (k := k) (x := x) (y := y) (v := v) (p := p) (dd := dd) (lv := lv) (gv := gv) (L := L)
  generalize addN σ to k x y v p dd lv gv L = σ' at *
  by_cases hc4 : c < 4
  · have e1 : c_cell (layN Λ (sN σ) A a g f) σ' (newB β (sN σ) F x') c m = .inl (0, 72, .inl ((newB β (sN σ) F x').1 c m)) := by
      unfold c_cell c_len
      rw [if_neg h0, if_neg h1, if_neg (by omega), if_neg (by omega), if_pos hc4]
    have e2 : c_cell Λ σ β c m = .inl (0, 72, .inl (β.1 c m)) := by
      unfold c_cell c_len
      rw [if_neg h0, if_neg h1, if_neg (by omega), if_neg (by omega), if_pos hc4]
    rw [e1, e2, newB_o (by omega)]
  · have hm := b3 (by omega)
    have hne : m ≠ sN σ := by omega
    have eK : sK σ' m = sK σ m := by rw [g3, ud_ne hne]
    have eO : sO σ' m = sO σ m := by rw [g4, ud_ne hne]
    have eT : sT σ' m = sT σ m := by rw [g5, ud_ne hne]
    have eV : sV σ' m = sV σ m := by rw [g6, ud_ne hne]
    have eP : sP σ' m = sP σ m := by rw [g7, ud_ne hne]
    have eD : sD σ' m = sD σ m := by rw [g8, ud_ne hne]
    have eL : sL σ' m = sL σ m := by rw [g9, ud_ne hne]
    have eG : sG σ' m = sG σ m := by rw [g10, ud_ne hne]
    have hl : ∀ c, (layN Λ (sN σ) A a g f).1 c m = Λ.1 c m := fun c => lay_o (fun z => hne z.1)
    by_cases hc : c = 4
    · subst hc
      show (.inr (0, c_node _ σ' m) : mm_O) = .inr (0, c_node Λ σ m)
      have p1 : vStore (layN Λ (sN σ) A a g f) σ' m = vStore Λ σ m := by
        unfold vStore
        rw [eK, eO, hl]
        by_cases z : kS (sK σ m) = true
        · rw [if_pos z, if_pos z]
        · rw [if_neg z, if_neg z]
          by_cases z2 : sK σ m = 7 ∨ sK σ m = 8
          · have := hW.o hm (by rcases z2 with q | q <;> rw [q] <;> rfl)
            rw [if_pos z2, if_pos z2, lay_o (by omega)]
          · rw [if_neg z2, if_neg z2]
      have p2 : vBase (layN Λ (sN σ) A a g f) σ' m = vBase Λ σ m := by
        unfold vBase
        rw [eK, eO]
        by_cases z : kBased (sK σ m) = true ∨ kTwo (sK σ m) = true
        · have := hW.o hm (by
            rcases z with q | q
            · exact kB_one q
            · simp [kTwo] at q; simp [kOne]; omega)
          rw [if_pos z, if_pos z, lay_o (by omega)]
        · rw [if_neg z, if_neg z]
      have p3 : vOther (layN Λ (sN σ) A a g f) σ' m = vOther Λ σ m := by
        unfold vOther
        rw [eK, eT]
        by_cases z : kTwo (sK σ m) = true
        · have := hW.t hm z
          rw [if_pos z, if_pos z, lay_o (by omega)]
        · rw [if_neg z, if_neg z]
      have p4 : ∀ c, vRow (layN Λ (sN σ) A a g f) σ' c m = vRow Λ σ c m := by
        intro c
        unfold vRow
        rw [eK, hl]
      unfold c_node
      rw [p1, p2, p3, p4, p4, eK, eL, eG]
      unfold vKey vStart vLen vNoted vBy sB
      rw [eK, eV, eP, eD]
    · by_cases hc5 : c = 5
      · subst hc5
        show (.inr (1, c_st _ _ m) : mm_O) = .inr (1, c_st Λ β m)
        unfold c_st
        rw [hl, hl, hl, newB_2o hne]
      · have elen : c_len σ' c m = c_len σ c m := by
          unfold c_len
          rw [eK, eO, eT]
          by_cases z9 : 9 ≤ c
          · have ht := b4 z9
            have o1 := hW.o hm (by simp [kTwo] at ht; simp [kOne]; omega)
            have o2 := hW.t hm ht
            rw [g9, ud_ne (by omega), ud_ne (by omega)]
          · rw [if_neg hc4, if_neg hc4, if_neg (show ¬ c = 9 by omega), if_neg (show ¬ c = 9 by omega), if_neg (show ¬ c = 10 by omega), if_neg (show ¬ c = 10 by omega)]
        unfold c_cell
        rw [if_neg h0, if_neg h1, if_neg hc, if_neg hc5, if_neg h0, if_neg h1, if_neg hc, if_neg hc5, elen, newB_o (fun z => hne z.1)]
theorem mm_newN (hW : WF T σ) (hL : LK Λ σ) (hlt : ∀ q t, Λ.2 q = some t → q < M.1) {N : mm_M} {x y p dd lv gv to : Nat} (hto : to < 10) {v x' : Int32} {L : List Int32} {F : Nat → Nat → Int32} (N1 : N.1 = M.1 + a) (Nold : ∀ q, ¬ (M.1 ≤ q ∧ q < M.1 + a) → N.2.2 q = (mm_C Λ σ β M).2.2 q) (Nnew : ∀ j, j < a → N.2.2 (M.1 + j) = some (c_cell (layN Λ (sN σ) M.1 a g f) (addN σ to k x y v p dd lv gv L) (newB β (sN σ) F x') (f j) (sN σ))) : mm_set (mm_set N (Λ.1 1 0) (.inl (2, 10, .inr (.inr (.inr (.inr (va_up (c_hand Λ σ) to (some (M.1 + g 4))))))))) (Λ.1 0 0) (.inr (2, (c_obj Λ σ).set 1 (.int (nI (sN σ + 1))))) = mm_C (layN Λ (sN σ) M.1 a g f) (addN σ to k x y v p dd lv gv L) (newB β (sN σ) F x') (M.1 + a, N.2.1, M.2.2) := by
  have k0 := hL.2.1 0 (by decide)
  have k1 := hL.2.1 1 (by decide)
  have l0 := hlt _ _ k0
  have l1 := hlt _ _ k1
  have hco : ∀ c m h0 h1 b2 b3 b4, c_cell (layN Λ (sN σ) M.1 a g f) (addN σ to k x y v p dd lv gv L) (newB β (sN σ) F x') c m = c_cell Λ σ β c m := fun c m h0 h1 b2 b3 b4 => cell_old (Λ := Λ) (A := M.1) (a := a) (g := g) (f := f) (β := β) (x := x) (y := y) (p := p) (dd := dd) (lv := lv) (gv := gv) (to := to) (v := v) (x' := x') (L := L) (F := F) (k := k) hW h0 h1 b2 b3 b4
  obtain ⟨g1, g2, -⟩ := addN_f (σ := σ) (to := to) (k := k) (x := x) (y := y) (v := v) (p := p) (dd := dd) (lv := lv) (gv := gv) (L := L)
  generalize addN σ to k x y v p dd lv gv L = σ' at *
  have e : ∀ q, (if q = Λ.1 0 0 then some (.inr (2, (c_obj Λ σ).set 1 (.int (nI (sN σ + 1))))) else if q = Λ.1 1 0 then some (.inl (2, 10, .inr (.inr (.inr (.inr (va_up (c_hand Λ σ) to (some (M.1 + g 4)))))))) else N.2.2 q) = (match (layN Λ (sN σ) M.1 a g f).2 q with
    | some t => some (c_cell (layN Λ (sN σ) M.1 a g f) σ' (newB β (sN σ) F x') t.1 t.2)
    | none => M.2.2 q) := by
    intro q
    by_cases hq : M.1 ≤ q ∧ q < M.1 + a
    · rw [if_neg (by omega), if_neg (by omega), lay_2n hq]
      have := Nnew (q - M.1) (by omega)
      rw [show M.1 + (q - M.1) = q by omega] at this
      exact this
    · rw [lay_2o hq]
      by_cases q0 : q = Λ.1 0 0
      · rw [if_pos q0, q0, k0]
        show _ = (some (.inr (2, c_obj (layN Λ (sN σ) M.1 a g f) σ')) : Option mm_O)
        unfold c_obj
        rw [lay_o (by omega), lay_o (by omega), lay_o (by omega), g1]
        rfl
      · rw [if_neg q0]
        by_cases q1 : q = Λ.1 1 0
        · rw [if_pos q1, q1, k1]
          show _ = (some (.inl (2, 10, .inr (.inr (.inr (.inr (c_hand (layN Λ (sN σ) M.1 a g f) σ')))))) : Option mm_O)
          have : c_hand (layN Λ (sN σ) M.1 a g f) σ' = va_up (c_hand Λ σ) to (some (M.1 + g 4)) := by
            funext h
            show (if h < 10 then (sH σ' h).map _ else none) = if h = to then some (M.1 + g 4) else (if h < 10 then (sH σ h).map (Λ.1 4) else none)
            rw [g2]
            by_cases z : h = to
            · rw [if_pos z, z, if_pos hto, ud_at, Option.map_some, lay_n (by decide)]
            · rw [if_neg z, ud_ne z]
              by_cases h10 : h < 10
              · rw [if_pos h10, if_pos h10]
                cases hs : sH σ h with
                | none => rfl
                | some m =>
                  have := hW.2.2.1 h m h10 hs
                  rw [Option.map_some, Option.map_some, lay_o (by omega)]
              · rw [if_neg h10, if_neg h10]
          rw [this]
        · rw [if_neg q1, Nold q hq]
          show (match Λ.2 q with
            | some t => some (c_cell Λ σ β t.1 t.2)
            | none => M.2.2 q) = _
          cases hA : Λ.2 q with
          | none => rfl
          | some t =>
            obtain ⟨b1, b2, b3, b4⟩ := hL.1 q t hA
            simp only
            rw [hco t.1 t.2 (fun z => q0 (by rw [b1, z, b2 (by omega)])) (fun z => q1 (by rw [b1, z, b2 (by omega)])) b2 b3 b4]
  show (N.1, N.2.1, fun q => if q = Λ.1 0 0 then some (.inr (2, (c_obj Λ σ).set 1 (.int (nI (sN σ + 1))))) else (if q = Λ.1 1 0 then some (.inl (2, 10, .inr (.inr (.inr (.inr (va_up (c_hand Λ σ) to (some (M.1 + g 4)))))))) else N.2.2 q)) = _
  rw [funext e, N1]
  rfl
end CL27
