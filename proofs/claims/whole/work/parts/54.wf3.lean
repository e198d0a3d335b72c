/-! the states after insertions and takings -/
theorem smN_lt {f f' : Nat → Nat} : ∀ m, (∀ k, k < m → f' k = f k) → smN f' m = smN f m
  | 0, _ => rfl
  | m + 1, h => by
    unfold smN
    rw [smN_lt m (fun k hk => h k (by omega)), h m (by omega)]
theorem smN_ch {f f' : Nat → Nat} {key : Nat} (h : ∀ k, k ≠ key → f' k = f k) : ∀ m, key < m → smN f' m + f key = smN f m + f' key := by
  intro m
  induction m with
  | zero => intro z; omega
  | succ m ih =>
    intro hm
    show smN f' m + f' m + f key = smN f m + f m + f' key
    by_cases e : key = m
    · subst e
      rw [smN_lt key (fun k hk => h k (by omega))]
      omega
    · have := ih (by omega)
      rw [h m (by omega)]
      omega
theorem ordR_ok {R : List Nat} {key : Nat} {L : List Int32} (hn : R.Nodup) : (ordR R key L).Nodup ∧ ∀ k, k ∈ ordR R key L ↔ (k ≠ key ∧ k ∈ R) ∨ (k = key ∧ L ≠ []) := by
  unfold ordR
  by_cases hL : L = []
  · rw [if_pos hL]
    refine ⟨hn.erase key, fun k => ?_⟩
    rw [hn.mem_erase_iff]
    simp [hL]
  · rw [if_neg hL]
    by_cases hk : key ∈ R
    · rw [if_pos hk]
      refine ⟨hn, fun k => ?_⟩
      by_cases e : k = key
      · rw [e]; simp [hk, hL]
      · simp [e]
    · rw [if_neg hk]
      refine ⟨?_, fun k => ?_⟩
      · rw [List.nodup_append]
        refine ⟨hn, by simp, fun a ha b hb => ?_⟩
        rw [List.mem_singleton] at hb
        intro z
        rw [z, hb] at ha
        exact hk ha
      · rw [List.mem_append, List.mem_singleton]
        by_cases e : k = key
        · simp [e, hL]
        · simp [e]
section WF3
variable {T n N to l : Nat} {σ σ' : Sg}
/-- the order of the keys after a change -/
theorem ord_6 (hW : WF T σ) {L : List Int32} (hl8 : l < 8 * sN σ) (h : sK σ (l / 8) = 6) (h6 : smN (fun k => (ud (sS σ) l L (8 * (l / 8) + k)).length) 8 ≤ 24) : ((ordR (sR σ (l / 8)) (l % 8) L).flatMap (fun k => ud (sS σ) l L (8 * (l / 8) + k))).length ≤ 24 ∧ (ordR (sR σ (l / 8)) (l % 8) L).Nodup ∧ ∀ k, k ∈ ordR (sR σ (l / 8)) (l % 8) L ↔ k < 8 ∧ ud (sS σ) l L (8 * (l / 8) + k) ≠ [] := by
  obtain ⟨d1, d2, d3⟩ := hW.rk (show l / 8 < sN σ by omega) h
  obtain ⟨o1, o2⟩ := ordR_ok (key := l % 8) (L := L) d2
  have hmem : ∀ k, k ∈ ordR (sR σ (l / 8)) (l % 8) L ↔ k < 8 ∧ ud (sS σ) l L (8 * (l / 8) + k) ≠ [] := by
    intro k
    rw [o2 k, d3 k]
    by_cases e : k = l % 8
    · subst e
      rw [show 8 * (l / 8) + l % 8 = l by omega, ud_at]
      have : l % 8 < 8 := Nat.mod_lt _ (by decide)
      simp [this]
    · by_cases e2 : k < 8
      · rw [ud_ne (by omega)]
        simp [e, e2]
      · simp [e, e2]
  refine ⟨?_, o1, hmem⟩
  rw [List.length_flatMap]
  refine Nat.le_trans (Nat.le_of_eq (smN_R 8 _ o1 (fun k hk => ((hmem k).1 hk).1) (fun k hk hk2 => ?_))) h6
  by_cases z : ud (sS σ) l L (8 * (l / 8) + k) = []
  · rw [z]; rfl
  · exact absurd ((hmem k).2 ⟨hk, z⟩) hk2
theorem offL_setL {L : List Int32} {c : Nat} : offL l σ (setL σ l L c) := ⟨rfl, rfl, rfl, rfl, rfl, fun q hq => ⟨ud_ne hq, ud_ne hq⟩, fun p _ _ => ⟨rfl, rfl⟩⟩
theorem setL_R {L : List Int32} {c : Nat} : ∀ m, m ≠ l / 8 ∨ sK σ (l / 8) = 0 → sR (setL σ l L c) m = sR σ m := by
  intro m hm
  show (if sK σ (l / 8) = 6 then ud (sR σ) (l / 8) (ordR (sR σ (l / 8)) (l % 8) L) else sR σ) m = _
  by_cases z : sK σ (l / 8) = 6
  · rw [if_pos z]
    rcases hm with h | h
    · exact ud_ne h
    · rw [h] at z; cases z
  · rw [if_neg z]
theorem setL_R6 {L : List Int32} {c : Nat} (z : sK σ (l / 8) = 6) : sR (setL σ l L c) (l / 8) = ordR (sR σ (l / 8)) (l % 8) L := by
  show (if sK σ (l / 8) = 6 then ud (sR σ) (l / 8) (ordR (sR σ (l / 8)) (l % 8) L) else sR σ) (l / 8) = _
  rw [if_pos z, ud_at]
theorem setL_S {L : List Int32} {c : Nat} : sS (setL σ l L c) = ud (sS σ) l L := rfl
theorem setL_C {L : List Int32} {c : Nat} : sC (setL σ l L c) l = sC σ l + c := ud_at
theorem WF_setL {L : List Int32} {c : Nat} (hW : WF T σ) (hl8 : l < 8 * sN σ) (hk : sK σ (l / 8) = 0 ∨ sK σ (l / 8) = 6) (hc : 1 ≤ c) (hT : T + c < 1000000) (h24 : L.length ≤ 24) (h16 : sK σ (l / 8) = 0 → L.length ≤ 16) (h6 : sK σ (l / 8) = 6 → smN (fun k => (ud (sS σ) l L (8 * (l / 8) + k)).length) 8 ≤ 24) : WF (T + c) (setL σ l L c) := by
  have hS : WS (setL σ l L c) := offL.ws hW offL_setL
  refine WF_off hW (offL_setL (L := L) (c := c)) hk hl8 rfl rfl rfl (by omega) hT ?_ (fun p hp h4 hlo => ?_) ?_ (fun z => ?_) setL_R (fun z => ?_)
  · rw [setL_C]
    have := (hW.c l).1
    omega
  · have hb : kBased (sK σ p) = true := by rw [h4]; rfl
    obtain ⟨a1, a2, a3, a4, a5⟩ := hW.e0 hp h4
    have e1 : ch σ (sO σ p) = sC σ l := ch_lo (by rw [← lo_o hW hp hb]; exact hlo)
    rw [e1] at a4
    refine ⟨?_, a3, fun hs => ?_⟩
    · rw [setL_C]
      show sD σ p ≤ _
      omega
    · exfalso
      have e2 : ch (setL σ l L c) (sO σ p) = sC σ l + c := by
        rw [← setL_C (L := L)]
        exact ch_lo ((lo_same (σ := σ) (σ' := setL σ l L c) rfl rfl rfl _).trans ((lo_o hW hp hb).symm.trans hlo))
      rw [stale_at' hS hp] at hs
      simp only [Bool.or_eq_false_iff] at hs
      have := hs.1.1
      unfold lst1 at this
      have h4' : sK (setL σ l L c) p = 4 := h4
      have e3 : sO (setL σ l L c) p = sO σ p := rfl
      have e4 : sD (setL σ l L c) p = sD σ p := rfl
      rw [e3, e4, e2] at this
      simp [h4'] at this
      omega
  · rw [setL_S, ud_at]; exact h24
  · rw [setL_S, ud_at]; exact h16 z
  · rw [setL_S, setL_R6 z]
    exact ord_6 hW hl8 z (h6 z)
/-- what is said of rows on the way down -/
theorem on_leaf (hW : WF T σ) {q : Nat} (hq : q < sN σ) (hb : kBased (sK σ q) = false) (hlo : lo σ q = some l) : El σ q = sS σ l ∧ ((sK σ q = 0 ∧ l = 8 * q) ∨ (sK σ q = 7 ∧ l = 8 * sO σ q + sB σ q)) := by
  have h1 : lf σ q = q := by rw [lf_at hW hq, hb]; rfl
  unfold lo at hlo
  rw [h1] at hlo
  by_cases h0 : sK σ q = 0
  · rw [if_pos h0] at hlo
    cases hlo
    refine ⟨?_, Or.inl ⟨h0, rfl⟩⟩
    rw [El_at hW hq, h0, ElB_0]
  · rw [if_neg h0] at hlo
    by_cases h7 : sK σ q = 7
    · rw [if_pos h7] at hlo
      cases hlo
      refine ⟨?_, Or.inr ⟨h7, rfl⟩⟩
      rw [El_at hW hq, h7, ElB_7]
    · rw [if_neg h7] at hlo
      cases hlo
theorem kB_cases {k : Nat} (h : kBased k = true) : k = 3 ∨ k = 4 ∨ k = 5 := by simp [kBased] at h; omega
theorem lo_len (hW : WF T σ) : ∀ q, q < sN σ → lo σ q = some l → stale σ q = false → (El σ q).length ≤ (sS σ l).length := by
  intro q
  induction q using Nat.strongRecOn with
  | _ q ih =>
    intro hq hlo hs
    cases hb : kBased (sK σ q) with
    | false => rw [(on_leaf hW hq hb hlo).1]; exact Nat.le_refl _
    | true =>
      have ho := hW.o hq (kB_one hb)
      have := ih _ ho (by omega) (by rw [← lo_o hW hq hb]; exact hlo) (stale_o hW hq hs (kB_one hb))
      rcases kB_cases hb with h | h | h
      · rw [len_3 hW hq h]; exact this
      · have := len_4 hW hq h hs; omega
      · rw [len_5 hW hq h]; exact this
/-- the state after an insertion or a taking, its PARTs noted -/
def chN (σ : Sg) (l : Nat) (L : List Int32) (n : Nat) (up : Bool) : Sg := noteP (setL σ l L 1) n up
theorem chN_on {L : List Int32} {up : Bool} (k : Nat) : onP (setL σ l L 1) n k = onP σ n k := on_same (σ := σ) (σ' := setL σ l L 1) rfl rfl n k
theorem chN_P {L : List Int32} {up : Bool} (k : Nat) : sP (chN σ l L n up) k = if onP σ n k = true ∧ sK σ k = 4 then (if up = true then sP σ k + 1 else sP σ k - 1) else sP σ k := by
  show (if onP (setL σ l L 1) n k = true ∧ sK σ k = 4 then (if up = true then sP σ k + 1 else sP σ k - 1) else sP σ k) = _
  rw [chN_on (up := up)]
theorem chN_D {L : List Int32} {up : Bool} (k : Nat) : sD (chN σ l L n up) k = if onP σ n k = true ∧ sK σ k = 4 then ch (setL σ l L 1) (sO σ k) else sD σ k := by
  show (if onP (setL σ l L 1) n k = true ∧ sK σ k = 4 then ch (setL σ l L 1) (sO σ k) else sD σ k) = _
  rw [chN_on (up := up)]
theorem chN_C {L : List Int32} {up : Bool} : sC (chN σ l L n up) l = sC σ l + 1 := ud_at
theorem chN_off (hW : WF T σ) (hn : n < sN σ) (hlo : lo σ n = some l) {L : List Int32} {up : Bool} : offL l σ (chN σ l L n up) := by
  refine ⟨rfl, rfl, rfl, rfl, rfl, fun q hq => ⟨ud_ne hq, ud_ne hq⟩, fun p h4 hp => ?_⟩
  have hon : ¬ (onP σ n p = true ∧ sK σ p = 4) := by
    rintro ⟨z, -⟩
    exact hp ((on_lo hW n hn z).1.trans hlo)
  rw [chN_P, chN_D, if_neg hon, if_neg hon]
  exact ⟨rfl, rfl⟩
theorem chN_len (hW : WF T σ) (hn : n < sN σ) (hlo : lo σ n = some l) (hs : stale σ n = false) {L : List Int32} {up : Bool} (hL : L.length + (if up = true then 0 else 1) = (sS σ l).length + (if up = true then 1 else 0)) (hpos : up = false → ∀ q, onP σ n q = true → 1 ≤ (El σ q).length) : ∀ q, q < sN σ → onP σ n q = true → (El (chN σ l L n up) q).length + (if up = true then 0 else 1) = (El σ q).length + (if up = true then 1 else 0) := by
  have hS : WS (chN σ l L n up) := offL.ws hW (chN_off hW hn hlo)
  intro q
  induction q using Nat.strongRecOn with
  | _ q ih =>
    intro hq hon
    have hq' : q < sN (chN σ l L n up) := hq
    obtain ⟨hloq, hsq⟩ := on_lo hW n hn hon
    have hsq := hsq hs
    have eK : sK (chN σ l L n up) = sK σ := rfl
    have eO : sO (chN σ l L n up) = sO σ := rfl
    have eB : sB (chN σ l L n up) q = sB σ q := rfl
    rw [El_at' hS hq', eK, eO]
    cases hb : kBased (sK σ q) with
    | false =>
      obtain ⟨e1, e2⟩ := on_leaf hW hq hb (hloq.trans hlo)
      rw [e1]
      rcases e2 with ⟨k0, rfl⟩ | ⟨k7, e2⟩
      · rw [k0, ElB_0]
        show (ud (sS σ) (8 * q) L (8 * q)).length + _ = _
        rw [ud_at]; exact hL
      · rw [k7, ElB_7, eB, eO, ← e2]
        show (ud (sS σ) l L l).length + _ = _
        rw [ud_at]; exact hL
    | true =>
      have ho := hW.o hq (kB_one hb)
      have hono := on_o hW n hn hon hb
      have hi := ih _ ho (by omega) hono
      rcases kB_cases hb with h | h | h
      · rw [h, ElB_3, len_3 hW hq h, List.length_reverse]; exact hi
      · obtain ⟨l4, s4⟩ := len_4 hW hq h hsq
        have eP := chN_P (σ := σ) (l := l) (n := n) (L := L) (up := up) q
        rw [if_pos ⟨hon, h⟩] at eP
        rw [h, ElB_4, eB, eP]
        simp only [List.length_take, List.length_drop]
        cases up with
        | true =>
          simp only [if_true] at hi ⊢
          omega
        | false =>
          have := hpos rfl q hon
          simp only [Bool.false_eq_true, if_false] at hi ⊢
          omega
      · rw [h, ElB_5, len_5 hW hq h, List.length_map]; exact hi
theorem WF_chN (hW : WF T σ) (hn : n < sN σ) (hlo : lo σ n = some l) (hs : stale σ n = false) {L : List Int32} {up : Bool} (hL : L.length + (if up = true then 0 else 1) = (sS σ l).length + (if up = true then 1 else 0)) (hpos : up = false → ∀ q, onP σ n q = true → 1 ≤ (El σ q).length) (hk : sK σ (l / 8) = 0 ∨ sK σ (l / 8) = 6) (hT : T + 1 < 1000000) (h24 : L.length ≤ 24) (h16 : sK σ (l / 8) = 0 → L.length ≤ 16) (h6 : sK σ (l / 8) = 6 → smN (fun k => (ud (sS σ) l L (8 * (l / 8) + k)).length) 8 ≤ 24) : WF (T + 1) (chN σ l L n up) := by
  have hl8 := lo_N hW hn hlo
  have hoff := chN_off hW hn hlo (L := L) (up := up)
  have hS : WS (chN σ l L n up) := offL.ws hW hoff
  have hlen := chN_len hW hn hlo hs hL hpos
  refine WF_off hW hoff hk hl8 rfl rfl rfl (by omega) hT ?_ (fun p hp h4 hlop => ?_) ?_ (fun z => ?_) setL_R (fun z => ?_)
  · rw [chN_C]
    have := (hW.c l).1
    omega
  · have hb : kBased (sK σ p) = true := by rw [h4]; rfl
    have ho := hW.o hp (kB_one hb)
    obtain ⟨a1, a2, a3, a4, a5⟩ := hW.e0 hp h4
    have hloo : lo σ (sO σ p) = some l := by rw [← lo_o hW hp hb]; exact hlop
    have e1 : ch σ (sO σ p) = sC σ l := ch_lo hloo
    have e2 : ch (setL σ l L 1) (sO σ p) = sC σ l + 1 := by
      rw [← setL_C (L := L)]
      exact ch_lo ((lo_same (σ := σ) (σ' := setL σ l L 1) rfl rfl rfl _).trans hloo)
    have e3 : ch (chN σ l L n up) (sO σ p) = sC σ l + 1 := by
      rw [← chN_C (L := L) (n := n) (up := up)]
      exact ch_lo ((lo_same (σ := σ) (σ' := chN σ l L n up) rfl rfl rfl _).trans hloo)
    rw [e1] at a4
    rw [chN_C]
    by_cases hon : onP σ n p = true
    · have eP := chN_P (σ := σ) (l := l) (n := n) (L := L) (up := up) p
      rw [if_pos ⟨hon, h4⟩] at eP
      have eD := chN_D (σ := σ) (l := l) (n := n) (L := L) (up := up) p
      rw [if_pos ⟨hon, h4⟩, e2] at eD
      rw [eP, eD]
      have hsp := (on_lo hW n hn hon).2 hs
      obtain ⟨l4, s4⟩ := len_4 hW hp h4 hsp
      have hlb := lo_len hW (sO σ p) (by omega) hloo (stale_o hW hp hsp (kB_one hb))
      have h24' := hW.s24 l
      have hi := hlen (sO σ p) (by omega) (on_o hW n hn hon hb)
      refine ⟨Nat.le_refl _, ?_, fun _ => ?_⟩
      · cases up with
        | true => simp only [if_true]; omega
        | false => simp only [Bool.false_eq_true, if_false]; omega
      · cases up with
        | true => simp only [if_true] at hi ⊢; omega
        | false =>
          have := hpos rfl p hon
          simp only [Bool.false_eq_true, if_false] at hi ⊢
          omega
    · have hon2 : ¬ (onP σ n p = true ∧ sK σ p = 4) := fun z => hon z.1
      have eP := chN_P (σ := σ) (l := l) (n := n) (L := L) (up := up) p
      rw [if_neg hon2] at eP
      have eD := chN_D (σ := σ) (l := l) (n := n) (L := L) (up := up) p
      rw [if_neg hon2] at eD
      rw [eP, eD]
      refine ⟨by omega, a3, fun hst => ?_⟩
      exfalso
      rw [stale_at' hS hp] at hst
      simp only [Bool.or_eq_false_iff] at hst
      have := hst.1.1
      unfold lst1 at this
      have h4' : sK (chN σ l L n up) p = 4 := h4
      have e5 : sO (chN σ l L n up) p = sO σ p := rfl
      rw [e5, eD, e3] at this
      simp [h4'] at this
      omega
  · show (ud (sS σ) l L l).length ≤ 24
    rw [ud_at]; exact h24
  · show (ud (sS σ) l L l).length ≤ 16
    rw [ud_at]; exact h16 z
  · have e : sR (chN σ l L n up) (l / 8) = ordR (sR σ (l / 8)) (l % 8) L := setL_R6 z
    rw [e]
    exact ord_6 hW hl8 z (h6 z)
theorem WF_setH (hW : WF T σ) {o : Option Nat} (ho : ∀ n, o = some n → n < sN σ) : WF T (setH σ to o) := by
  have ha : agr (sN σ) σ (setH σ to o) := fun n hn => ⟨rfl, rfl, rfl, rfl, rfl, rfl, rfl, fun k hk => ⟨rfl, rfl⟩⟩
  have hS : WS (setH σ to o) := hW.ws
  have eE := agr_El hW hS (Nat.le_refl _) ha
  have eS := agr_stale hW hS (Nat.le_refl _) ha
  have eC := fun n hn => agr_ch (n := n) hW hS (Nat.le_refl _) ha hn
  obtain ⟨w1, w2, w3, w4, w5, w6, w7, w8⟩ := hW
  refine ⟨w1, w2, fun h n hh hn => ?_, fun n hn => ?_, w5, w6, w7, w8⟩
  rotate_left
  · have hn2 : n < sN σ := hn
    obtain ⟨c1, c2, c3, c4, c5, c6, c7, c8⟩ := w4 n hn2
    refine ⟨c1, c2, c3, c4, c5, c6, fun z => ?_, c8⟩
    have hlt : sO σ n < sN σ := by have := c2 (by rw [show sK σ n = 4 from z]; rfl); omega
    rw [eS n hn2]
    show _ ∧ _ ∧ _ ∧ sD σ n ≤ ch (setH σ to o) (sO σ n) ∧ (_ → _ ≤ (El (setH σ to o) (sO σ n)).length)
    rw [eC _ hlt, eE _ hlt]
    exact c7 z
  have hn' : ud (sH σ) to o h = some n := hn
  by_cases e : h = to
  · rw [e, ud_at] at hn'
    exact ho n hn'
  · rw [ud_ne e] at hn'
    exact w3 h n hh hn'
end WF3
