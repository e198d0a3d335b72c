/-! a state that has grown is a state -/
/-- alike below N -/
def agr (N : Nat) (σ σ' : Sg) : Prop := ∀ n, n < N → sK σ' n = sK σ n ∧ sO σ' n = sO σ n ∧ sT σ' n = sT σ n ∧ sV σ' n = sV σ n ∧ sP σ' n = sP σ n ∧ sD σ' n = sD σ n ∧ sR σ' n = sR σ n ∧ ∀ k, k < 8 → sS σ' (8 * n + k) = sS σ (8 * n + k) ∧ sC σ' (8 * n + k) = sC σ (8 * n + k)
section WF1
variable {T n N to : Nat} {σ σ' : Sg}
theorem fm_congr {α β : Type} {f g : α → List β} : ∀ (L : List α), (∀ x, x ∈ L → f x = g x) → L.flatMap f = L.flatMap g
  | [], _ => rfl
  | x :: L, h => by
    rw [List.flatMap_cons, List.flatMap_cons, h x (by simp), fm_congr L (fun y hy => h y (by simp [hy]))]
theorem ElB_9 {A B : List Int32} : ElB σ 9 n A B = comb 9 A B := rfl
theorem ElB_10 {A B : List Int32} : ElB σ 10 n A B = comb 10 A B := rfl
theorem ElB_11 {A B : List Int32} : ElB σ 11 n A B = comb 11 A B := rfl
theorem ElB_ge {κ : Nat} {A B : List Int32} (h : 9 ≤ κ) (h2 : κ < 12) : ElB σ κ n A B = comb κ A B := by
  have hc : κ = 9 ∨ κ = 10 ∨ κ = 11 := by omega
  rcases hc with rfl | rfl | rfl
  · exact ElB_9
  · exact ElB_10
  · exact ElB_11
theorem ElB_0 {A B : List Int32} : ElB σ 0 n A B = sS σ (8 * n) := rfl
theorem ElB_1 {A B : List Int32} : ElB σ 1 n A B = sS σ (8 * n) := rfl
theorem ElB_2 {A B : List Int32} : ElB σ 2 n A B = sS σ (8 * n) := rfl
theorem ElB_3 {A B : List Int32} : ElB σ 3 n A B = A.reverse := rfl
theorem ElB_4 {A B : List Int32} : ElB σ 4 n A B = (A.drop (sB σ n)).take (sP σ n) := rfl
theorem ElB_5 {A B : List Int32} : ElB σ 5 n A B = A.map (· + sV σ n) := rfl
theorem ElB_6 {A B : List Int32} : ElB σ 6 n A B = (sR σ n).flatMap (fun k => sS σ (8 * n + k)) := rfl
theorem ElB_7 {A B : List Int32} : ElB σ 7 n A B = sS σ (8 * sO σ n + sB σ n) := rfl
theorem ElB_8 {A B : List Int32} : ElB σ 8 n A B = (sR σ (sO σ n)).map nI := rfl
theorem ElB_agr (hW : WF T σ) (ha : agr (sN σ) σ σ') (hn : n < sN σ) {A B : List Int32} : ElB σ' (sK σ n) n A B = ElB σ (sK σ n) n A B := by
  have h12 := hW.k12 hn
  obtain ⟨eK, eO, eT, eV, eP, eD, eR, eS⟩ := ha n hn
  have eB : sB σ' n = sB σ n := by unfold sB; rw [eV]
  have eS0 : sS σ' (8 * n) = sS σ (8 * n) := (eS 0 (by decide)).1
  have hc : sK σ n = 0 ∨ sK σ n = 1 ∨ sK σ n = 2 ∨ sK σ n = 3 ∨ sK σ n = 4 ∨ sK σ n = 5 ∨ sK σ n = 6 ∨ sK σ n = 7 ∨ sK σ n = 8 ∨ 9 ≤ sK σ n := by omega
  rcases hc with h | h | h | h | h | h | h | h | h | h
  · rw [h, ElB_0, ElB_0, eS0]
  · rw [h, ElB_1, ElB_1, eS0]
  · rw [h, ElB_2, ElB_2, eS0]
  · rw [h, ElB_3, ElB_3]
  · rw [h, ElB_4, ElB_4, eB, eP]
  · rw [h, ElB_5, ElB_5, eV]
  · rw [h, ElB_6, ElB_6, eR]
    exact fm_congr _ (fun k hk => (eS k (((hW.rk hn h).2.2 k).1 hk).1).1)
  · have := hW.o hn (by rw [h]; rfl)
    rw [h, ElB_7, ElB_7, eO, eB]
    exact ((ha (sO σ n) (by omega)).2.2.2.2.2.2.2 (sB σ n) (hW.k7 hn h).2).1
  · have := hW.o hn (by rw [h]; rfl)
    rw [h, ElB_8, ElB_8, eO, (ha (sO σ n) (by omega)).2.2.2.2.2.2.1]
  · rw [ElB_ge h h12, ElB_ge h h12]
theorem agr_El (hW : WF T σ) (hS : WS σ') (hN : sN σ ≤ sN σ') (ha : agr (sN σ) σ σ') : ∀ n, n < sN σ → El σ' n = El σ n := by
  intro n
  induction n using Nat.strongRecOn with
  | _ n ih =>
    intro hn
    obtain ⟨eK, eO, eT, -⟩ := ha n hn
    rw [El_at' hS (show n < sN σ' by omega), El_at hW hn, eK, eO, eT, ElB_agr hW ha hn]
    have e1 : ∀ B, ElB σ (sK σ n) n (El σ' (sO σ n)) B = ElB σ (sK σ n) n (El σ (sO σ n)) B := by
      intro B
      cases z : kOne (sK σ n) with
      | false => exact ElB_A z
      | true => rw [ih _ (hW.o hn z) (by have := hW.o hn z; omega)]
    have e2 : ∀ A, ElB σ (sK σ n) n A (El σ' (sT σ n)) = ElB σ (sK σ n) n A (El σ (sT σ n)) := by
      intro A
      cases z : kTwo (sK σ n) with
      | false => exact ElB_B z
      | true => rw [ih _ (hW.t hn z) (by have := hW.t hn z; omega)]
    rw [e1, e2]
theorem agr_lf (hW : WF T σ) (hS : WS σ') (hN : sN σ ≤ sN σ') (ha : agr (sN σ) σ σ') : ∀ n, n < sN σ → lf σ' n = lf σ n := by
  intro n
  induction n using Nat.strongRecOn with
  | _ n ih =>
    intro hn
    obtain ⟨eK, eO, eT, -⟩ := ha n hn
    rw [lf_at' hS (show n < sN σ' by omega), lf_at hW hn, eK, eO]
    cases z : kBased (sK σ n) with
    | false => rfl
    | true =>
      have := hW.o hn (kB_one z)
      rw [ih _ this (by omega)]
theorem agr_lo (hW : WF T σ) (hS : WS σ') (hN : sN σ ≤ sN σ') (ha : agr (sN σ) σ σ') (hn : n < sN σ) : lo σ' n = lo σ n := by
  have h1 := (lf_lt hW n hn).1
  obtain ⟨eK, eO, eT, eV, -⟩ := ha (lf σ n) (by omega)
  unfold lo
  rw [agr_lf hW hS hN ha n hn, eK, eO]
  unfold sB
  rw [eV]
theorem lo_N (hW : WF T σ) (hn : n < sN σ) {l : Nat} (h : lo σ n = some l) : l < 8 * sN σ := by
  have h1 := lf_lt hW n hn
  unfold lo at h
  split at h
  · cases h; omega
  · split at h
    · rename_i h7
      cases h
      have h2 := hW.o (n := lf σ n) (by omega) (by simp [kOne, h7])
      have h3 := (hW.k7 (n := lf σ n) (by omega) h7).2
      omega
    · cases h
theorem agr_ch (hW : WF T σ) (hS : WS σ') (hN : sN σ ≤ sN σ') (ha : agr (sN σ) σ σ') (hn : n < sN σ) : ch σ' n = ch σ n := by
  unfold ch
  rw [agr_lo hW hS hN ha hn]
  cases h : lo σ n with
  | none => rfl
  | some l =>
    have hl := lo_N hW hn h
    have := ((ha (l / 8) (by omega)).2.2.2.2.2.2.2 (l % 8) (Nat.mod_lt _ (by decide))).2
    rw [show 8 * (l / 8) + l % 8 = l by omega] at this
    exact this
theorem agr_stale (hW : WF T σ) (hS : WS σ') (hN : sN σ ≤ sN σ') (ha : agr (sN σ) σ σ') : ∀ n, n < sN σ → stale σ' n = stale σ n := by
  intro n
  induction n using Nat.strongRecOn with
  | _ n ih =>
    intro hn
    obtain ⟨eK, eO, eT, eV, eP, eD, -⟩ := ha n hn
    have e0 : lst1 σ' n = lst1 σ n := by
      unfold lst1
      by_cases h4 : sK σ n = 4
      · have := hW.o hn (by rw [h4]; rfl)
        rw [eK, eO, eD, agr_ch hW hS hN ha (by omega)]
      · simp [eK, h4]
    have e1 : (kOne (sK σ n) && stale σ' (sO σ n)) = (kOne (sK σ n) && stale σ (sO σ n)) := by
      cases z : kOne (sK σ n) with
      | false => rfl
      | true => rw [ih _ (hW.o hn z) (by have := hW.o hn z; omega)]
    have e2 : (kTwo (sK σ n) && stale σ' (sT σ n)) = (kTwo (sK σ n) && stale σ (sT σ n)) := by
      cases z : kTwo (sK σ n) with
      | false => rfl
      | true => rw [ih _ (hW.t hn z) (by have := hW.t hn z; omega)]
    rw [stale_at' hS (show n < sN σ' by omega), stale_at hW hn, eK, eO, eT, e0, e1, e2]
theorem agr_addN (hR : sN σ = N) {k a b : Nat} {v : Int32} {p dd l g : Nat} {L : List Int32} : agr N σ (addN σ to k a b v p dd l g L) := by
  subst hR
  intro n hn
  have h : n ≠ sN σ := by omega
  refine ⟨ud_ne h, ud_ne h, ud_ne h, ud_ne h, ud_ne h, ud_ne h, rfl, fun k hk => ⟨ud_ne (by omega), rfl⟩⟩
theorem WF_addN (hW : WF T σ) (hN : sN σ < 40) {k a b : Nat} {v : Int32} {p dd l g : Nat} {L : List Int32} (hk : k < 12) (ho : kOne k = true → a < sN σ) (ht : kTwo k = true → b < sN σ) (hb : kBased k = true → kRow (sK σ a) = true) (h78 : k = 7 ∨ k = 8 → sK σ a = 6) (h7 : k = 7 → v = nI v.toNatClampNeg ∧ v.toNatClampNeg < 8) (h4 : k = 4 → v = nI v.toNatClampNeg ∧ v.toNatClampNeg ≤ 72 ∧ p ≤ 72 ∧ dd ≤ ch σ a ∧ v.toNatClampNeg + p ≤ (El σ a).length) (hl : 1 ≤ l ∧ l ≤ 3) (hg : 1 ≤ g ∧ g ≤ 6) (hlb : kBased k = true → l = sL σ a ∧ g = sG σ a + 1) (hlt : kTwo k = true → l = sL σ a + sL σ b ∧ g = max (sG σ a) (sG σ b) + 1) (hl1 : kBased k = false → kTwo k = false → l = 1 ∧ g = 1) (hL0 : k = 0 → L.length ≤ 16) (hL : L.length ≤ 24) (hL6 : k = 6 → L = []) (hto : to < 10) : WF T (addN σ to k a b v p dd l g L) := by
  have ha : agr (sN σ) σ (addN σ to k a b v p dd l g L) := agr_addN rfl
  have hW0 := hW
  have hS : WS (addN σ to k a b v p dd l g L) := by
    intro n hn
    have hn' : n < sN σ + 1 := hn
    show ud (sK σ) (sN σ) k n < 12 ∧ (kOne (ud (sK σ) (sN σ) k n) = true → ud (sO σ) (sN σ) a n < n) ∧ (kTwo (ud (sK σ) (sN σ) k n) = true → ud (sT σ) (sN σ) b n < n)
    by_cases e : n = sN σ
    · subst e
      rw [ud_at, ud_at, ud_at]
      exact ⟨hk, ho, ht⟩
    · rw [ud_ne e, ud_ne e, ud_ne e]
      exact hW.ws n (by omega)
  have hNN : sN σ ≤ sN (addN σ to k a b v p dd l g L) := Nat.le_succ _
  have eEl := agr_El hW hS hNN ha
  have eSt := agr_stale hW hS hNN ha
  have eCh := fun n hn => agr_ch (n := n) hW hS hNN ha hn
  have hk0 : kOne k = false → k = 0 ∨ k = 1 ∨ k = 2 ∨ k = 6 := by intro z; simp [kOne] at z; omega
  obtain ⟨w1, w2, w3, w4, w5, w6, w7, w8⟩ := hW
  refine ⟨by show sN σ + 1 ≤ 40; omega, w2, fun h m hh hm => ?_, fun n hn => ?_, w5, fun q => ?_, w7, fun n hn => ?_⟩
  · have hm' : ud (sH σ) to (some (sN σ)) h = some m := hm
    show m < sN σ + 1
    by_cases e : h = to
    · rw [e, ud_at] at hm'
      cases hm'
      omega
    · rw [ud_ne e] at hm'
      have := w3 h m hh hm'
      omega
  · have hn' : n < sN σ + 1 := hn
    by_cases e : n = sN σ
    · subst e
      have eK : sK (addN σ to k a b v p dd l g L) (sN σ) = k := ud_at
      have eO : sO (addN σ to k a b v p dd l g L) (sN σ) = a := ud_at
      have eT : sT (addN σ to k a b v p dd l g L) (sN σ) = b := ud_at
      have eV : sV (addN σ to k a b v p dd l g L) (sN σ) = v := ud_at
      have eP : sP (addN σ to k a b v p dd l g L) (sN σ) = p := ud_at
      have eD : sD (addN σ to k a b v p dd l g L) (sN σ) = dd := ud_at
      have eL : sL (addN σ to k a b v p dd l g L) (sN σ) = l := ud_at
      have eG : sG (addN σ to k a b v p dd l g L) (sN σ) = g := ud_at
      have eB : sB (addN σ to k a b v p dd l g L) (sN σ) = v.toNatClampNeg := by unfold sB; rw [eV]
      have eR : sR (addN σ to k a b v p dd l g L) (sN σ) = [] := (w8 (sN σ) (Nat.le_refl _)).1
      have eS : sS (addN σ to k a b v p dd l g L) (8 * sN σ) = L := ud_at
      have oa : ∀ f : Nat → Nat, kOne k = true → ∀ x, ud f (sN σ) x a = f a := fun f z x => ud_ne (by have := ho z; omega)
      have ob : ∀ f : Nat → Nat, kTwo k = true → ∀ x, ud f (sN σ) x b = f b := fun f z x => ud_ne (by have := ht z; omega)
      rw [eK, eO, eT, eV, eP, eD, eL, eG, eB, eR, eS]
      refine ⟨hk, ho, ht, fun z => ?_, fun z => ?_, h7, fun z => ?_, hl.1, hl.2, hg.1, hg.2, fun z => ?_, fun z => ?_, hl1, hL0, fun _ => hL, fun z => ?_⟩
      · show kRow (ud (sK σ) (sN σ) k a) = true
        rw [oa _ (kB_one z)]; exact hb z
      · show ud (sK σ) (sN σ) k a = 6
        rw [oa _ (by rcases z with z | z <;> rw [z] <;> rfl)]; exact h78 z
      · have hk1 : kOne k = true := by rw [z]; rfl
        obtain ⟨c1, c2, c3, c4, c5⟩ := h4 z
        refine ⟨c1, c2, c3, ?_, fun _ => ?_⟩
        · rw [eCh a (ho hk1)]; exact c4
        · rw [eEl a (ho hk1)]; exact c5
      · show l = ud (sL σ) (sN σ) l a ∧ g = ud (sG σ) (sN σ) g a + 1
        rw [oa _ (kB_one z), oa _ (kB_one z)]; exact hlb z
      · have z1 : kOne k = true := by simp [kTwo] at z; simp [kOne]; omega
        show l = ud (sL σ) (sN σ) l a + ud (sL σ) (sN σ) l b ∧ g = max (ud (sG σ) (sN σ) g a) (ud (sG σ) (sN σ) g b) + 1
        rw [oa _ z1, oa _ z1, ob _ z, ob _ z]; exact hlt z
      · refine ⟨by simp, List.nodup_nil, fun q => ⟨fun h => (by cases h), fun h => ?_⟩⟩
        obtain ⟨q8, qne⟩ := h
        exfalso
        apply qne
        show ud (sS σ) (8 * sN σ) L (8 * sN σ + q) = []
        by_cases z0 : q = 0
        · subst z0
          rw [Nat.add_zero, ud_at]; exact hL6 z
        · rw [ud_ne (by omega)]; exact ((w8 (sN σ) (Nat.le_refl _)).2 q q8).1
    · have hn2 : n < sN σ := by omega
      obtain ⟨eK, eO, eT, eV, eP, eD, eR, eS⟩ := ha n hn2
      have eL : sL (addN σ to k a b v p dd l g L) n = sL σ n := ud_ne e
      have eG : sG (addN σ to k a b v p dd l g L) n = sG σ n := ud_ne e
      have eB : sB (addN σ to k a b v p dd l g L) n = sB σ n := by unfold sB; rw [eV]
      have eS0 : sS (addN σ to k a b v p dd l g L) (8 * n) = sS σ (8 * n) := (eS 0 (by decide)).1
      obtain ⟨c1, c2, c3, c4, c5, c6, c7, c8, c9, c10, c11, c12, c13, c14, c15, c16, c17⟩ := w4 n hn2
      have oa : kOne (sK σ n) = true → agr (sN σ) σ (addN σ to k a b v p dd l g L) → sO σ n < sN σ := fun z _ => by have := c2 z; omega
      have fK : ∀ m, m < sN σ → sK (addN σ to k a b v p dd l g L) m = sK σ m := fun m hm => (ha m hm).1
      have fL : ∀ m, m < sN σ → sL (addN σ to k a b v p dd l g L) m = sL σ m := fun m hm => ud_ne (by omega)
      have fG : ∀ m, m < sN σ → sG (addN σ to k a b v p dd l g L) m = sG σ m := fun m hm => ud_ne (by omega)
      rw [eK, eO, eT, eV, eP, eD, eL, eG, eB, eR, eS0, eSt n hn2]
      refine ⟨c1, c2, c3, fun z => ?_, fun z => ?_, c6, fun z => ?_, c8, c9, c10, c11, fun z => ?_, fun z => ?_, c14, c15, c16, fun z => ?_⟩
      · rw [fK _ (oa (kB_one z) ha)]; exact c4 z
      · rw [fK _ (oa (by rcases z with z | z <;> rw [z] <;> rfl) ha)]; exact c5 z
      · have := oa (by rw [z]; rfl) ha
        rw [eCh _ this, eEl _ this]; exact c7 z
      · have := oa (kB_one z) ha
        rw [fL _ this, fG _ this]; exact c12 z
      · have z1 : kOne (sK σ n) = true := by simp [kTwo] at z; simp [kOne]; omega
        have := oa z1 ha
        have h2 : sT σ n < sN σ := by have := c3 z; omega
        rw [fL _ this, fG _ this, fL _ h2, fG _ h2]; exact c13 z
      · obtain ⟨d1, d2, d3⟩ := c17 z
        have ef : (sR σ n).flatMap (fun k' => sS (addN σ to k a b v p dd l g L) (8 * n + k')) = (sR σ n).flatMap (fun k' => sS σ (8 * n + k')) := fm_congr _ (fun q hq => (eS q ((d3 q).1 hq).1).1)
        refine ⟨by rw [ef]; exact d1, d2, fun q => ?_⟩
        rw [d3 q]
        constructor
        · rintro ⟨q8, h⟩
          exact ⟨q8, by rw [(eS q q8).1]; exact h⟩
        · rintro ⟨q8, h⟩
          exact ⟨q8, by rw [(eS q q8).1] at h; exact h⟩
  · show (ud (sS σ) (8 * sN σ) L q).length ≤ 24
    by_cases e : q = 8 * sN σ
    · rw [e, ud_at]; exact hL
    · rw [ud_ne e]; exact w6 q
  · have hn' : sN σ + 1 ≤ n := hn
    obtain ⟨a1, a2⟩ := w8 n (by omega)
    refine ⟨a1, fun q hq => ⟨?_, (a2 q hq).2⟩⟩
    show ud (sS σ) (8 * sN σ) L (8 * n + q) = []
    rw [ud_ne (by omega)]
    exact (a2 q hq).1
end WF1
