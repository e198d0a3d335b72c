/-! a state whose list l has changed is a state -/
def offL (l : Nat) (σ σ' : Sg) : Prop := sN σ' = sN σ ∧ sK σ' = sK σ ∧ sO σ' = sO σ ∧ sT σ' = sT σ ∧ sV σ' = sV σ ∧ (∀ q, q ≠ l → sS σ' q = sS σ q ∧ sC σ' q = sC σ q) ∧ (∀ p, sK σ p = 4 → lo σ p ≠ some l → sP σ' p = sP σ p ∧ sD σ' p = sD σ p)
section WF2
variable {T n N to l : Nat} {σ σ' : Sg}
theorem lfF_same (hK : sK σ' = sK σ) (hO : sO σ' = sO σ) : ∀ f n, lfF σ' f n = lfF σ f n
  | 0, _ => rfl
  | f + 1, n => by
    unfold lfF
    rw [hK, hO, lfF_same hK hO f]
theorem lo_same (hK : sK σ' = sK σ) (hO : sO σ' = sO σ) (hV : sV σ' = sV σ) (n : Nat) : lo σ' n = lo σ n := by
  have : lf σ' n = lf σ n := lfF_same hK hO _ _
  unfold lo sB
  rw [this, hK, hO, hV]
theorem onF_same (hK : sK σ' = sK σ) (hO : sO σ' = sO σ) : ∀ f n k, onF σ' f n k = onF σ f n k
  | 0, _, _ => rfl
  | f + 1, n, k => by
    unfold onF
    rw [hK, hO, onF_same hK hO f]
theorem on_same (hK : sK σ' = sK σ) (hO : sO σ' = sO σ) (n k : Nat) : onP σ' n k = onP σ n k := onF_same hK hO _ _ _
theorem lo_o (hW : WF T σ) (hn : n < sN σ) (hb : kBased (sK σ n) = true) : lo σ n = lo σ (sO σ n) := by
  have h1 := lf_at hW hn
  rw [if_pos hb] at h1
  unfold lo
  rw [h1]
theorem on_o (hW : WF T σ) : ∀ (n : Nat) {k : Nat}, n < sN σ → onP σ n k = true → kBased (sK σ k) = true → onP σ n (sO σ k) = true := by
  intro n
  induction n using Nat.strongRecOn with
  | _ n ih =>
    intro k hn h hb
    rw [on_at hW hn] at h ⊢
    simp only [Bool.or_eq_true, Bool.and_eq_true, decide_eq_true_eq] at h ⊢
    rcases h with h | ⟨z, h⟩
    · subst h
      have := hW.o hn (kB_one hb)
      right
      refine ⟨hb, ?_⟩
      rw [on_at hW (by omega)]
      simp
    · have := hW.o hn (kB_one z)
      exact Or.inr ⟨z, ih _ this (by omega) h hb⟩
theorem on_lo (hW : WF T σ) : ∀ (n : Nat) {k : Nat}, n < sN σ → onP σ n k = true → lo σ k = lo σ n ∧ (stale σ n = false → stale σ k = false) := by
  intro n
  induction n using Nat.strongRecOn with
  | _ n ih =>
    intro k hn h
    rw [on_at hW hn] at h
    simp only [Bool.or_eq_true, Bool.and_eq_true, decide_eq_true_eq] at h
    rcases h with h | ⟨z, h⟩
    · subst h; exact ⟨rfl, id⟩
    · have := hW.o hn (kB_one z)
      obtain ⟨a1, a2⟩ := ih _ this (by omega) h
      exact ⟨by rw [a1, lo_o hW hn z], fun hs => a2 (stale_o hW hn hs (kB_one z))⟩
theorem ch_lo {q : Nat} (h : lo σ q = some l) : ch σ q = sC σ l := by
  unfold ch
  rw [h]
theorem offL.ws (hW : WF T σ) (h : offL l σ σ') : WS σ' := by
  obtain ⟨h1, h2, h3, h4, -⟩ := h
  intro n hn
  rw [h2, h3, h4]
  exact hW.ws n (by omega)
theorem off_ch (h : offL l σ σ') {q : Nat} (hq : lo σ q ≠ some l) : ch σ' q = ch σ q := by
  obtain ⟨h1, h2, h3, h4, h5, h6, h7⟩ := h
  unfold ch
  rw [lo_same h2 h3 h5]
  cases z : lo σ q with
  | none => rfl
  | some l' => exact (h6 l' (fun y => hq (by rw [z, y]))).2
theorem off_row (hW : WF T σ) (h : offL l σ σ') (hl : sK σ (l / 8) = 0 ∨ sK σ (l / 8) = 6) : ∀ q, q < sN σ → kRow (sK σ q) = true → lo σ q ≠ some l → El σ' q = El σ q ∧ stale σ' q = stale σ q := by
  have hS := offL.ws hW h
  have h' := h
  obtain ⟨h1, h2, h3, h4, h5, h6, h7⟩ := h
  intro q
  induction q using Nat.strongRecOn with
  | _ q ih =>
    intro hq hr hlo
    have h12 := hW.k12 hq
    have eB : sB σ' q = sB σ q := by unfold sB; rw [h5]
    have hk : sK σ q = 0 ∨ sK σ q = 1 ∨ sK σ q = 2 ∨ sK σ q = 7 ∨ sK σ q = 3 ∨ sK σ q = 4 ∨ sK σ q = 5 := by simp [kRow] at hr; omega
    rw [El_at' hS (show q < sN σ' by omega), El_at hW hq, stale_at' hS (show q < sN σ' by omega), stale_at hW hq, h2, h3, h4]
    have hlst : sK σ q ≠ 4 → lst1 σ' q = lst1 σ q := by
      intro z
      unfold lst1
      rw [h2]
      simp [z]
    have leaf0 : sK σ q = 0 ∨ sK σ q = 1 ∨ sK σ q = 2 → 8 * q ≠ l := by
      rintro z y
      have y2 : l / 8 = q := by omega
      rw [y2] at hl
      rcases z with z | z | z
      · apply hlo
        have : lf σ q = q := by rw [lf_at hW hq, z]; rfl
        unfold lo
        rw [this, if_pos z, y]
      · rw [z] at hl; omega
      · rw [z] at hl; omega
    have based : kBased (sK σ q) = true → El σ' (sO σ q) = El σ (sO σ q) ∧ stale σ' (sO σ q) = stale σ (sO σ q) := by
      intro z
      have := hW.o hq (kB_one z)
      exact ih _ this (by omega) (hW.row hq z) (by rw [← lo_o hW hq z]; exact hlo)
    rcases hk with k | k | k | k | k | k | k
    · have e := (h6 (8 * q) (leaf0 (by omega))).1
      have e2 := hlst (by omega)
      rw [k, ElB_0, ElB_0, e, e2]
      exact ⟨rfl, rfl⟩
    · have e := (h6 (8 * q) (leaf0 (by omega))).1
      have e2 := hlst (by omega)
      rw [k, ElB_1, ElB_1, e, e2]
      exact ⟨rfl, rfl⟩
    · have e := (h6 (8 * q) (leaf0 (by omega))).1
      have e2 := hlst (by omega)
      rw [k, ElB_2, ElB_2, e, e2]
      exact ⟨rfl, rfl⟩
    · have e2 := hlst (by omega)
      have hm := hW.map hq (Or.inl k)
      have hoq := hW.o hq (by rw [k]; rfl)
      have hlq : lf σ q = q := by rw [lf_at hW hq, k]; rfl
      have hne : 8 * sO σ q + sB σ q ≠ l := by
        intro y
        apply hlo
        unfold lo
        rw [hlq, if_neg (by omega), if_pos k, y]
      have hso : stale σ (sO σ q) = false := by
        rw [stale_at hW (by omega), hm]
        simp [lst1, hm, kOne, kTwo]
      have hso' : stale σ' (sO σ q) = false := by
        rw [stale_at' hS (by omega), h2, hm]
        simp [lst1, h2, hm, kOne, kTwo]
      rw [k, ElB_7, ElB_7, eB, h3, (h6 _ hne).1, e2, hso, hso']
      exact ⟨rfl, rfl⟩
    · have e2 := hlst (by omega)
      obtain ⟨b1, b2⟩ := based (by rw [k]; rfl)
      rw [k, ElB_3, ElB_3, b1, b2, e2]
      exact ⟨rfl, rfl⟩
    · obtain ⟨b1, b2⟩ := based (by rw [k]; rfl)
      have hko : lo σ (sO σ q) ≠ some l := by rw [← lo_o hW hq (by rw [k]; rfl)]; exact hlo
      obtain ⟨p1, p2⟩ := h7 q k hlo
      have e2 : lst1 σ' q = lst1 σ q := by
        unfold lst1
        rw [h2, h3, p2, off_ch h' hko]
      rw [k, ElB_4, ElB_4, b1, b2, e2, eB, p1]
      exact ⟨rfl, rfl⟩
    · have e2 := hlst (by omega)
      obtain ⟨b1, b2⟩ := based (by rw [k]; rfl)
      rw [k, ElB_5, ElB_5, b1, b2, e2, h5]
      exact ⟨rfl, rfl⟩
theorem WF_off {T' : Nat} (hW : WF T σ) (h : offL l σ σ') (hl : sK σ (l / 8) = 0 ∨ sK σ (l / 8) = 6) (hl8 : l < 8 * sN σ) (hH : sH σ' = sH σ) (hL : sL σ' = sL σ) (hG : sG σ' = sG σ) (hT : T ≤ T') (hT2 : T' < 1000000) (hC : sC σ' l ≤ T') (hp : ∀ p, p < sN σ → sK σ p = 4 → lo σ p = some l → sD σ' p ≤ sC σ' l ∧ sP σ' p ≤ 72 ∧ (stale σ' p = false → sB σ p + sP σ' p ≤ (El σ' (sO σ p)).length)) (h24 : (sS σ' l).length ≤ 24) (h16 : sK σ (l / 8) = 0 → (sS σ' l).length ≤ 16) (hR : ∀ m, m ≠ l / 8 ∨ sK σ (l / 8) = 0 → sR σ' m = sR σ m) (h6 : sK σ (l / 8) = 6 → ((sR σ' (l / 8)).flatMap (fun k => sS σ' (8 * (l / 8) + k))).length ≤ 24 ∧ (sR σ' (l / 8)).Nodup ∧ ∀ k, k ∈ sR σ' (l / 8) ↔ k < 8 ∧ sS σ' (8 * (l / 8) + k) ≠ []) : WF T' σ' := by
  have hS := offL.ws hW h
  have hoff := off_row hW h hl
  have hW0 := hW
  have h' := h
  obtain ⟨h1, h2, h3, h4, h5, hSS, hPD⟩ := h
  obtain ⟨w1, w2, w3, w4, w5, w6, w7, w8⟩ := hW
  have eB : ∀ q, sB σ' q = sB σ q := fun q => by unfold sB; rw [h5]
  have hr8 : ∀ m, (sR σ' m).length ≤ 8 := by
    intro m
    by_cases e : m ≠ l / 8 ∨ sK σ (l / 8) = 0
    · rw [hR m e]; exact w7 m
    · have e1 : m = l / 8 := by
        apply Classical.byContradiction
        intro z
        exact e (Or.inl z)
      have e2 : sK σ (l / 8) = 6 := by
        rcases hl with z | z
        · exact absurd (Or.inr z) e
        · exact z
      rw [e1]
      exact nodup_len 8 _ (h6 e2).2.1 (fun k hk => (((h6 e2).2.2 k).1 hk).1)
  refine ⟨by rw [h1]; exact w1, hT2, fun hh n hlt hn => ?_, fun n hn => ?_, fun q => ?_, fun q => ?_, hr8, fun n hn => ?_⟩
  · rw [h1]; rw [hH] at hn; exact w3 hh n hlt hn
  · rw [h1] at hn
    obtain ⟨c1, c2, c3, c4, c5, c6, c7, c8, c9, c10, c11, c12, c13, c14, c15, c16, c17⟩ := w4 n hn
    rw [h2, h3, h4, h5, hL, hG, eB]
    refine ⟨c1, c2, c3, c4, c5, c6, fun z => ?_, c8, c9, c10, c11, c12, c13, c14, fun z => ?_, fun z => ?_, fun z => ?_⟩
    · obtain ⟨a1, a2, a3, a4, a5⟩ := c7 z
      have hb : kBased (sK σ n) = true := by rw [z]; rfl
      have ho := c2 (kB_one hb)
      by_cases e : lo σ n = some l
      · obtain ⟨b1, b2, b3⟩ := hp n hn z e
        have e2 : ch σ' (sO σ n) = sC σ' l := ch_lo (by rw [lo_same h2 h3 h5, ← lo_o hW0 hn hb]; exact e)
        exact ⟨a1, a2, b2, by rw [e2]; exact b1, b3⟩
      · obtain ⟨p1, p2⟩ := hPD n z e
        have e2 : lo σ (sO σ n) ≠ some l := by rw [← lo_o hW0 hn hb]; exact e
        obtain ⟨o1, o2⟩ := hoff n hn (by rw [z]; rfl) e
        obtain ⟨o3, o4⟩ := hoff (sO σ n) (by omega) (c4 hb) e2
        rw [p1, p2, off_ch h' e2, o2, o3]
        exact c7 z
    · by_cases e : 8 * n = l
      · have : l / 8 = n := by omega
        rw [e]
        exact h16 (by rw [this]; exact z)
      · rw [(hSS _ e).1]; exact c15 z
    · by_cases e : 8 * n = l
      · rw [e]; exact h24
      · rw [(hSS _ e).1]; exact c16 z
    · by_cases e : n = l / 8
      · subst e
        exact h6 z
      · obtain ⟨d1, d2, d3⟩ := c17 z
        rw [hR n (Or.inl e)]
        have eS : ∀ k, k < 8 → sS σ' (8 * n + k) = sS σ (8 * n + k) := fun k hk => (hSS _ (by omega)).1
        have ef : (sR σ n).flatMap (fun k' => sS σ' (8 * n + k')) = (sR σ n).flatMap (fun k' => sS σ (8 * n + k')) := fm_congr _ (fun q hq => eS q ((d3 q).1 hq).1)
        refine ⟨by rw [ef]; exact d1, d2, fun q => ?_⟩
        rw [d3 q]
        constructor
        · rintro ⟨q8, y⟩
          exact ⟨q8, by rw [eS q q8]; exact y⟩
        · rintro ⟨q8, y⟩
          exact ⟨q8, by rw [eS q q8] at y; exact y⟩
  · by_cases e : q = l
    · rw [e]; exact hC
    · rw [(hSS q e).2]; have := w5 q; omega
  · by_cases e : q = l
    · rw [e]; exact h24
    · rw [(hSS q e).1]; exact w6 q
  · rw [h1] at hn
    obtain ⟨a1, a2⟩ := w8 n hn
    refine ⟨by rw [hR n (Or.inl (by omega))]; exact a1, fun k hk => ?_⟩
    have := hSS (8 * n + k) (by omega)
    rw [this.1, this.2]
    exact a2 k hk
end WF2
