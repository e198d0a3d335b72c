/-! every call leaves a state -/
section WF4
variable {T n N to l : Nat} {σ σ' : Sg}
theorem WF_crt (hW : WF T σ) {k a b : Nat} {v : Int32} {p dd lv g : Nat} {L : List Int32} (hk : k < 12) (ho : kOne k = true → a < sN σ) (ht : kTwo k = true → b < sN σ) (hb : kBased k = true → kRow (sK σ a) = true) (h78 : k = 7 ∨ k = 8 → sK σ a = 6) (h7 : k = 7 → v = nI v.toNatClampNeg ∧ v.toNatClampNeg < 8) (h4 : k = 4 → v = nI v.toNatClampNeg ∧ v.toNatClampNeg ≤ 72 ∧ p ≤ 72 ∧ dd ≤ ch σ a ∧ v.toNatClampNeg + p ≤ (El σ a).length) (hl : 1 ≤ lv) (hg : 1 ≤ g) (hlb : kBased k = true → lv = sL σ a ∧ g = sG σ a + 1) (hlt : kTwo k = true → lv = sL σ a + sL σ b ∧ g = max (sG σ a) (sG σ b) + 1) (hl1 : kBased k = false → kTwo k = false → lv = 1 ∧ g = 1) (hL0 : k = 0 → L.length ≤ 16) (hL : L.length ≤ 24) (hL6 : k = 6 → L = []) (hto : to < 10) : WF T (crt σ to k a b v p dd lv g L).2.2 := by
  unfold crt
  by_cases hc : sN σ = 40 ∨ 3 < lv ∨ 6 < g
  · rw [if_pos hc]; exact hW
  · rw [if_neg hc]
    have := hW.n40
    exact WF_addN hW (by omega) hk ho ht hb h78 h7 h4 ⟨hl, by omega⟩ ⟨hg, by omega⟩ hlb hlt hl1 hL0 hL hL6 hto
theorem ite_wf {c : Prop} [Decidable c] {a b : Out} (h1 : c → WF T a.2.2) (h2 : ¬ c → WF T b.2.2) : WF T (if c then a else b).2.2 := by
  by_cases h : c
  · rw [if_pos h]; exact h1 h
  · rw [if_neg h]; exact h2 h
theorem bad_ok {h : Int32} (hb : ¬ bad h = true) : h.toNatClampNeg < 10 := by
  rcases bad_cases h with z | ⟨z, j, hj, rfl⟩
  · exact absurd z hb
  · rw [nI_clamp (by omega)]; exact hj
theorem WF_make (hW : WF T σ) {t k : Int32} : WF T (sp_make σ t k).2.2 := by
  unfold sp_make
  refine ite_wf (fun _ => hW) (fun h => ?_)
  have ht := bad_ok (fun z => h (Or.inl z))
  have hk : k = nI 0 ∨ k = nI 6 := by
    apply Classical.byContradiction
    exact fun z => h (Or.inr z)
  rcases hk with rfl | rfl
  · have e : (nI 0).toNatClampNeg = 0 := rfl
    rw [e]
    exact WF_crt hW (by decide) (fun z => absurd z (by decide)) (fun z => absurd z (by decide)) (fun z => absurd z (by decide)) (fun z => by omega) (fun z => by omega) (fun z => by omega) (by decide) (by decide) (fun z => absurd z (by decide)) (fun z => absurd z (by decide)) (fun _ _ => ⟨rfl, rfl⟩) (fun _ => by simp) (by simp) (fun _ => rfl) ht
  · have e : (nI 6).toNatClampNeg = 6 := rfl
    rw [e]
    exact WF_crt hW (by decide) (fun z => absurd z (by decide)) (fun z => absurd z (by decide)) (fun z => absurd z (by decide)) (fun z => by omega) (fun z => by omega) (fun z => by omega) (by decide) (by decide) (fun z => absurd z (by decide)) (fun z => absurd z (by decide)) (fun _ _ => ⟨rfl, rfl⟩) (fun _ => by simp) (by simp) (fun _ => rfl) ht
theorem WF_copy (hW : WF T σ) {t k h : Int32} : WF T (sp_copy σ t k h).2.2 := by
  unfold sp_copy
  split
  · exact hW
  · refine ite_wf (fun _ => hW) (fun hb => ite_wf (fun _ => hW) (fun _ => ite_wf (fun _ => hW) (fun h24 => ?_)))
    have ht := bad_ok (fun z => hb (Or.inl z))
    have hk : k = nI 1 ∨ k = nI 2 := by
      apply Classical.byContradiction
      exact fun z => hb (Or.inr z)
    rcases hk with rfl | rfl
    · have e : (nI 1).toNatClampNeg = 1 := rfl
      rw [e]
      exact WF_crt hW (by decide) (fun z => absurd z (by decide)) (fun z => absurd z (by decide)) (fun z => absurd z (by decide)) (fun z => by omega) (fun z => by omega) (fun z => by omega) (by decide) (by decide) (fun z => absurd z (by decide)) (fun z => absurd z (by decide)) (fun _ _ => ⟨rfl, rfl⟩) (fun z => by omega) (by omega) (fun z => by omega) ht
    · have e : (nI 2).toNatClampNeg = 2 := rfl
      rw [e]
      exact WF_crt hW (by decide) (fun z => absurd z (by decide)) (fun z => absurd z (by decide)) (fun z => absurd z (by decide)) (fun z => by omega) (fun z => by omega) (fun z => by omega) (by decide) (by decide) (fun z => absurd z (by decide)) (fun z => absurd z (by decide)) (fun _ _ => ⟨rfl, rfl⟩) (fun z => by omega) (by omega) (fun z => by omega) ht
theorem row_of {a : Bool} {P : Prop} (h : ¬ (P ∨ a = false)) : a = true := by
  cases a
  · exact absurd (Or.inr rfl) h
  · rfl
theorem WF_over (hW : WF T σ) {t h v : Int32} {k : Nat} (hk : k = 3 ∨ k = 5) : WF T (sp_over σ t h k v).2.2 := by
  unfold sp_over
  split
  · exact hW
  · rename_i n hn
    have hlt := ndo_lt hW hn
    have hlg := hW.lg hlt
    refine ite_wf (fun _ => hW) (fun hb => ite_wf (fun _ => hW) (fun _ => ?_))
    have ht := bad_ok (fun z => hb (Or.inl z))
    have hr := row_of hb
    rcases hk with rfl | rfl
    · exact WF_crt hW (by decide) (fun _ => hlt) (fun z => absurd z (by decide)) (fun _ => hr) (fun z => by omega) (fun z => by omega) (fun z => by omega) hlg.1 (by omega) (fun _ => ⟨rfl, rfl⟩) (fun z => absurd z (by decide)) (fun z => absurd z (by decide)) (fun z => by omega) (by simp) (fun z => by omega) ht
    · exact WF_crt hW (by decide) (fun _ => hlt) (fun z => absurd z (by decide)) (fun _ => hr) (fun z => by omega) (fun z => by omega) (fun z => by omega) hlg.1 (by omega) (fun _ => ⟨rfl, rfl⟩) (fun z => absurd z (by decide)) (fun z => absurd z (by decide)) (fun z => by omega) (by simp) (fun z => by omega) ht
theorem WF_part (hW : WF T σ) {t h s e : Int32} : WF T (sp_part σ t h s e).2.2 := by
  unfold sp_part
  split
  · exact hW
  · rename_i n hn
    have hlt := ndo_lt hW hn
    have hlg := hW.lg hlt
    have h72 := El_72 hW hlt
    refine ite_wf (fun _ => hW) (fun hb => ite_wf (fun _ => hW) (fun _ => ite_wf (fun _ => hW) (fun hc => ?_)))
    have ht := bad_ok (fun z => hb (Or.inl z))
    have hr := row_of hb
    obtain ⟨s', hs', rfl⟩ := nI_of' (fun z => hc (Or.inl z))
    have c3 : e ≤ nI (El σ n).length := by
      apply Classical.byContradiction
      exact fun z => hc (Or.inr (Or.inr z))
    have c2 : ¬ e < nI s' := fun z => hc (Or.inr (Or.inl z))
    have c0 : ¬ e < nI 0 := fun z => c2 (Int32.lt_of_lt_of_le z (nI_le (Nat.zero_le s') hs'))
    obtain ⟨e', he', rfl⟩ := nI_of' c0
    have hee : e' ≤ (El σ n).length := (nI_leI he' (by omega)).1 c3
    have hse : s' ≤ e' := by
      refine Nat.le_of_not_lt fun z => c2 (nI_lt z hs')
    have hE1 : (nI s').toNatClampNeg = s' := nI_clamp hs'
    have hE2 : (nI e').toNatClampNeg = e' := nI_clamp he'
    refine WF_crt hW (by decide) (fun _ => hlt) (fun z => absurd z (by decide)) (fun _ => hr) (fun z => by omega) (fun z => by omega) (fun _ => ?_) hlg.1 (by omega) (fun _ => ⟨rfl, rfl⟩) (fun z => absurd z (by decide)) (fun z => absurd z (by decide)) (fun z => by omega) (by simp) (fun z => by omega) ht
    rw [hE1, hE2]
    exact ⟨rfl, by omega, by omega, Nat.le_refl _, by omega⟩
theorem WF_ofMap (hW : WF T σ) {t h w : Int32} : WF T (sp_ofMap σ t h w).2.2 := by
  unfold sp_ofMap
  split
  · exact hW
  · rename_i n hn
    have hlt := ndo_lt hW hn
    refine ite_wf (fun _ => hW) (fun hb => ?_)
    have ht := bad_ok (fun z => hb (Or.inl z))
    have h6 : sK σ n = 6 := by
      apply Classical.byContradiction
      exact fun z => hb (Or.inr (Or.inl z))
    obtain ⟨w', hw', rfl⟩ := nI_of' (fun z => hb (Or.inr (Or.inr (Or.inl z))))
    have hw9 : w' < 9 := by refine Nat.lt_of_not_le fun z => hb (Or.inr (Or.inr (Or.inr (nI_nlt z hw'))))
    have e : (nI w').toNatClampNeg = w' := nI_clamp hw'
    by_cases h8 : w' = 8
    · subst h8
      rw [if_pos rfl]
      exact WF_crt hW (by decide) (fun _ => hlt) (fun z => absurd z (by decide)) (fun z => absurd z (by decide)) (fun _ => h6) (fun z => by omega) (fun z => by omega) (by decide) (by decide) (fun z => absurd z (by decide)) (fun z => absurd z (by decide)) (fun _ _ => ⟨rfl, rfl⟩) (fun z => by omega) (by simp) (fun z => by omega) ht
    · rw [if_neg (fun z => h8 ((nI_eq hw' (by decide)).1 z))]
      exact WF_crt hW (by decide) (fun _ => hlt) (fun z => absurd z (by decide)) (fun z => absurd z (by decide)) (fun _ => h6) (fun _ => by rw [e]; exact ⟨rfl, by omega⟩) (fun z => by omega) (by decide) (by decide) (fun z => absurd z (by decide)) (fun z => absurd z (by decide)) (fun _ _ => ⟨rfl, rfl⟩) (fun z => by omega) (by simp) (fun z => by omega) ht
theorem WF_combine (hW : WF T σ) {t k h h' : Int32} : WF T (sp_combine σ t k h h').2.2 := by
  unfold sp_combine
  split
  · rename_i a b ha hb2
    have hla := ndo_lt hW ha
    have hlb := ndo_lt hW hb2
    have ga := hW.lg hla
    have gb := hW.lg hlb
    refine ite_wf (fun _ => hW) (fun hb => ite_wf (fun _ => hW) (fun _ => ?_))
    have ht := bad_ok (fun z => hb (Or.inl z))
    have hk1 : ¬ k < nI 9 := fun z => hb (Or.inr (Or.inl z))
    have hk2 : k ≤ nI 11 := by
      apply Classical.byContradiction
      exact fun z => hb (Or.inr (Or.inr z))
    obtain ⟨k', hk, rfl⟩ := nI_of' (x := k) (fun z => hk1 (Int32.lt_of_lt_of_le z (by decide)))
    have hk9 : 9 ≤ k' := by refine Nat.le_of_not_lt fun z => hk1 (nI_lt z (by decide))
    have hk11 : k' ≤ 11 := (nI_leI hk (by decide)).1 hk2
    have hcl : (nI k').toNatClampNeg = k' := nI_clamp hk
    have f1 : kBased k' = false := by simp [kBased]; omega
    rw [hcl]
    exact WF_crt hW (by omega) (fun _ => hla) (fun _ => hlb) (fun z => by rw [f1] at z; cases z) (fun z => by omega) (fun z => by omega) (fun z => by omega) (by omega) (by omega) (fun z => by rw [f1] at z; cases z) (fun _ => ⟨rfl, rfl⟩) (fun _ z => by simp [kTwo] at z; omega) (fun z => by omega) (by simp) (fun z => by omega) ht
  · exact hW
theorem WF_hold (hW : WF T σ) {t s : Int32} : WF T (sp_hold σ t s).2.2 := by
  unfold sp_hold
  refine ite_wf (fun _ => hW) (fun _ => ?_)
  split
  · exact WF_setH hW (fun n z => by cases z)
  · rename_i n hn
    exact WF_setH hW (fun m z => by cases z; exact ndo_lt hW hn)
theorem WF_putIn (hW : WF T σ) (hT : T + 1 < 1000000) (hn : n < sN σ) (hs : stale σ n = false) (hsup : sup σ 0 n = true) {i : Nat} {v : Int32} (hi : i ≤ (El σ n).length) : WF (T + 1) (sp_putIn σ n i v).2.2 := by
  obtain ⟨l, hlo⟩ := sup_lo hW (by decide) n hn hsup
  have hl8 := lo_N hW hn hlo
  have hlk := lo_k hW hn hlo
  have hlz := lo_z hW hn hlo
  simp only [sp_putIn, hlo]
  refine ite_wf (fun _ => WF_mono hW (by omega) hT) (fun hf => ?_)
  have hf' : fulB σ l = false := by simpa using hf
  obtain ⟨f24, f16, f6⟩ := ful_no hW hl8 hlk hlz hf'
  have hd := dn_lt hW (ins := true) n hn hlo hs i (by rw [if_pos rfl]; omega)
  rw [if_pos rfl] at hd
  have hil := insAt_len (L := sS σ l) (i := dn σ true n i) (v := v) (by omega)
  have hud := smN_ud (σ := σ) (l := l) (L := insAt (sS σ l) (dn σ true n i) v)
  exact WF_chN (n := n) (up := true) (L := insAt (sS σ l) (dn σ true n i) v) hW hn hlo hs (by rw [if_pos rfl, if_pos rfl]; omega) (fun z => by cases z) hlk hT (by omega) (fun z => by have := f16 z; omega) (fun z => by have := f6 z; omega)
theorem WF_add (hW : WF T σ) (hT : T + 1 < 1000000) {h v : Int32} : WF (T + 1) (sp_add σ h v).2.2 := by
  have hW1 := WF_mono hW (show T ≤ T + 1 by omega) hT
  unfold sp_add
  split
  · exact hW1
  · rename_i n hn
    have hlt := ndo_lt hW hn
    refine ite_wf (fun _ => hW1) (fun h1 => ite_wf (fun _ => hW1) (fun h2 => ?_))
    exact WF_putIn hW hT hlt (by simpa using h2) (by simpa using h1) (Nat.le_refl _)
theorem WF_insert (hW : WF T σ) (hT : T + 1 < 1000000) {h i v : Int32} : WF (T + 1) (sp_insert σ h i v).2.2 := by
  have hW1 := WF_mono hW (show T ≤ T + 1 by omega) hT
  unfold sp_insert
  split
  · exact hW1
  · rename_i n hn
    have hlt := ndo_lt hW hn
    have h72 := El_72 hW hlt
    refine ite_wf (fun _ => hW1) (fun h1 => ite_wf (fun _ => hW1) (fun h2 => ite_wf (fun _ => hW1) (fun hi => ?_)))
    refine WF_putIn hW hT hlt (by simpa using h2) (by simpa using h1) ?_
    obtain ⟨j, hj, rfl⟩ := nI_of' (fun z => hi (Or.inl z))
    rw [nI_clamp hj]
    refine (nI_leI hj (by omega)).1 ?_
    apply Classical.byContradiction
    exact fun z => hi (Or.inr z)
theorem setS_row (hW : WF T σ) {L : List Int32} (hL : L.length = (sS σ l).length) : ∀ q, q < sN σ → kRow (sK σ q) = true → (El (setS σ l L) q).length = (El σ q).length ∧ stale (setS σ l L) q = stale σ q := by
  have hS : WS (setS σ l L) := hW.ws
  have hlen : ∀ x, (ud (sS σ) l L x).length = (sS σ x).length := by
    intro x
    by_cases e : x = l
    · rw [e, ud_at]; exact hL
    · rw [ud_ne e]
  have hch : ∀ x, ch (setS σ l L) x = ch σ x := by
    intro x
    unfold ch
    rw [lo_same (σ := σ) (σ' := setS σ l L) rfl rfl rfl]
    rfl
  intro q
  induction q using Nat.strongRecOn with
  | _ q ih =>
    intro hq hr
    have h12 := hW.k12 hq
    have eB : sB (setS σ l L) q = sB σ q := rfl
    have eK : sK (setS σ l L) = sK σ := rfl
    have eO : sO (setS σ l L) = sO σ := rfl
    have eT : sT (setS σ l L) = sT σ := rfl
    have hk : sK σ q = 0 ∨ sK σ q = 1 ∨ sK σ q = 2 ∨ sK σ q = 7 ∨ sK σ q = 3 ∨ sK σ q = 4 ∨ sK σ q = 5 := by simp [kRow] at hr; omega
    have hlst : lst1 (setS σ l L) q = lst1 σ q := by
      show decide (sK σ q = 4 ∧ sD σ q ≠ ch (setS σ l L) (sO σ q)) = _
      rw [hch]
      rfl
    rw [El_at' hS (show q < sN (setS σ l L) from hq), El_at hW hq, stale_at' hS (show q < sN (setS σ l L) from hq), stale_at hW hq, eK, eO, eT, hlst]
    have based : kBased (sK σ q) = true → (El (setS σ l L) (sO σ q)).length = (El σ (sO σ q)).length ∧ stale (setS σ l L) (sO σ q) = stale σ (sO σ q) := by
      intro z
      have := hW.o hq (kB_one z)
      exact ih _ this (by omega) (hW.row hq z)
    rcases hk with k | k | k | k | k | k | k
    · rw [k, ElB_0, ElB_0]; exact ⟨hlen _, rfl⟩
    · rw [k, ElB_1, ElB_1]; exact ⟨hlen _, rfl⟩
    · rw [k, ElB_2, ElB_2]; exact ⟨hlen _, rfl⟩
    · have hm := hW.map hq (Or.inl k)
      have hoq := hW.o hq (by rw [k]; rfl)
      have hso : stale σ (sO σ q) = false := by
        rw [stale_at hW (by omega), hm]
        simp [lst1, hm, kOne, kTwo]
      have hso' : stale (setS σ l L) (sO σ q) = false := by
        rw [stale_at' hS (show sO σ q < sN σ by omega), eK, hm]
        simp [lst1, eK, hm, kOne, kTwo]
      rw [k, ElB_7, ElB_7, hso, hso']
      exact ⟨hlen _, rfl⟩
    · obtain ⟨b1, b2⟩ := based (by rw [k]; rfl)
      rw [k, ElB_3, ElB_3, b2, List.length_reverse, List.length_reverse]
      exact ⟨b1, rfl⟩
    · obtain ⟨b1, b2⟩ := based (by rw [k]; rfl)
      have eP : sP (setS σ l L) q = sP σ q := rfl
      rw [k, ElB_4, ElB_4, b2, eB, eP]
      refine ⟨?_, rfl⟩
      simp only [List.length_take, List.length_drop]
      rw [b1]
    · obtain ⟨b1, b2⟩ := based (by rw [k]; rfl)
      rw [k, ElB_5, ElB_5, b2, List.length_map, List.length_map]
      exact ⟨b1, rfl⟩
theorem WF_setS (hW : WF T σ) (hl8 : l < 8 * sN σ) (hk : sK σ (l / 8) = 0 ∨ sK σ (l / 8) = 6) (hz : sK σ (l / 8) = 0 → l = 8 * (l / 8)) {L : List Int32} (hL : L.length = (sS σ l).length) : WF T (setS σ l L) := by
  have hoff : offL l σ (setS σ l L) := ⟨rfl, rfl, rfl, rfl, rfl, fun q hq => ⟨ud_ne hq, rfl⟩, fun p _ _ => ⟨rfl, rfl⟩⟩
  have hrow := setS_row hW hL
  have hlen : ∀ x, (ud (sS σ) l L x).length = (sS σ x).length := by
    intro x
    by_cases e : x = l
    · rw [e, ud_at]; exact hL
    · rw [ud_ne e]
  refine WF_off hW hoff hk hl8 rfl rfl rfl (Nat.le_refl _) hW.2.1 (hW.c l).1 (fun p hp h4 hlo => ?_) ?_ (fun z => ?_) (fun m _ => rfl) (fun z => ?_)
  · have hb : kBased (sK σ p) = true := by rw [h4]; rfl
    have ho := hW.o hp (kB_one hb)
    obtain ⟨a1, a2, a3, a4, a5⟩ := hW.e0 hp h4
    have e1 : ch σ (sO σ p) = sC σ l := ch_lo (by rw [← lo_o hW hp hb]; exact hlo)
    rw [e1] at a4
    refine ⟨a4, a3, fun hs => ?_⟩
    rw [(hrow p hp (by rw [h4]; rfl)).2] at hs
    show sB σ p + sP σ p ≤ (El (setS σ l L) (sO σ p)).length
    rw [(hrow (sO σ p) (by omega) (hW.row hp hb)).1]
    exact a5 hs
  · show (ud (sS σ) l L l).length ≤ 24
    rw [hlen]; exact hW.s24 l
  · show (ud (sS σ) l L l).length ≤ 16
    rw [hlen]
    have := (hW.2.2.2.1 (l / 8) (by omega)).2.2.2.2.2.2.2.2.2.2.2.2.2.2.1 z
    rw [← hz z] at this
    exact this
  · obtain ⟨d1, d2, d3⟩ := hW.rk (show l / 8 < sN σ by omega) z
    refine ⟨?_, d2, fun k => ?_⟩
    · show ((sR σ (l / 8)).flatMap (fun k => ud (sS σ) l L (8 * (l / 8) + k))).length ≤ 24
      rw [List.length_flatMap] at d1 ⊢
      have : (sR σ (l / 8)).map (fun k => (ud (sS σ) l L (8 * (l / 8) + k)).length) = (sR σ (l / 8)).map (fun k => (sS σ (8 * (l / 8) + k)).length) := by
        apply List.map_congr_left
        exact fun k _ => hlen _
      rw [this]
      exact d1
    · show k ∈ sR σ (l / 8) ↔ k < 8 ∧ ud (sS σ) l L (8 * (l / 8) + k) ≠ []
      rw [d3 k]
      have h0 := hlen (8 * (l / 8) + k)
      constructor
      · rintro ⟨k8, y⟩
        refine ⟨k8, fun z => y ?_⟩
        rw [z] at h0
        exact List.eq_nil_of_length_eq_zero h0.symm
      · rintro ⟨k8, y⟩
        refine ⟨k8, fun z => y ?_⟩
        rw [z] at h0
        exact List.eq_nil_of_length_eq_zero h0
theorem WF_put (hW : WF T σ) {h i v : Int32} : WF T (sp_put σ h i v).2.2 := by
  unfold sp_put
  split
  · exact hW
  · rename_i n hn
    have hlt := ndo_lt hW hn
    have h72 := El_72 hW hlt
    refine ite_wf (fun _ => hW) (fun h1 => ite_wf (fun _ => hW) (fun h2 => ite_wf (fun _ => hW) (fun hi => ?_)))
    split
    · exact hW
    · rename_i l hlo
      obtain ⟨j, hj, rfl⟩ := nI_of' (fun z => hi (Or.inl z))
      have hjl : j < (El σ n).length := by
        refine Nat.lt_of_not_le fun z => hi (Or.inr (nI_nlt z hj))
      have hd := dn_lt hW (ins := false) n hlt hlo (by simpa using h2) j (by rw [if_neg (by decide)]; omega)
      rw [if_neg (by decide), Nat.add_zero] at hd
      rw [nI_clamp hj]
      exact WF_setS hW (lo_N hW hlt hlo) (lo_k hW hlt hlo) (lo_z hW hlt hlo) (setAt_len hd)
end WF4
