/-! the class: putIn, replace -/
def setP (σ : Sg) (n p : Nat) : Sg := (sN σ, sH σ, sK σ, sO σ, sT σ, sV σ, ud (sP σ) n p, sD σ, sL σ, sG σ, sS σ, sC σ, sR σ)
def setD (σ : Sg) (n q : Nat) : Sg := (sN σ, sH σ, sK σ, sO σ, sT σ, sV σ, sP σ, ud (sD σ) n q, sL σ, sG σ, sS σ, sC σ, sR σ)
theorem sg_ext {σ σ' : Sg} (h1 : sN σ' = sN σ) (h2 : sH σ' = sH σ) (h3 : sK σ' = sK σ) (h4 : sO σ' = sO σ) (h5 : sT σ' = sT σ) (h6 : sV σ' = sV σ) (h7 : sP σ' = sP σ) (h8 : sD σ' = sD σ) (h9 : sL σ' = sL σ) (h10 : sG σ' = sG σ) (h11 : sS σ' = sS σ) (h12 : sC σ' = sC σ) (h13 : sR σ' = sR σ) : σ' = σ := by
  show (sN σ', sH σ', sK σ', sO σ', sT σ', sV σ', sP σ', sD σ', sL σ', sG σ', sS σ', sC σ', sR σ') = (sN σ, sH σ, sK σ, sO σ, sT σ, sV σ, sP σ, sD σ, sL σ, sG σ, sS σ, sC σ, sR σ)
  rw [h1, h2, h3, h4, h5, h6, h7, h8, h9, h10, h11, h12, h13]
section CL16
variable {X : Nat × Nat × (Nat → Int32)} {d T n c m l : Nat} {Λ : Lay} {σ : Sg} {β : CS} {M : mm_M} {Q : mm_Out → mm_M → Prop}
theorem c_node_ne {σ' : Sg} {n' : Nat} (h3 : sK σ' = sK σ) (h4 : sO σ' = sO σ) (h5 : sT σ' = sT σ) (h6 : sV σ' = sV σ) (h7 : sP σ' n' = sP σ n') (h8 : sD σ' n' = sD σ n') (h9 : sL σ' = sL σ) (h10 : sG σ' = sG σ) : c_node Λ σ' n' = c_node Λ σ n' := by
  unfold c_node vStore vKey vBase vOther vRow vStart vLen vNoted vBy sB
  rw [h3, h4, h5, h6, h7, h8, h9, h10]
theorem set_len (hL : LK Λ σ) (hn : n < sN σ) (h4 : sK σ n = 4) {p : Nat} : mm_set (mm_C Λ σ β M) (Λ.1 4 n) (.inr (0, (c_node Λ σ n).set 10 (.int (nI p)))) = mm_C Λ (setP σ n p) β M := by
  refine c_set hL (hL.2.2 n hn).1 ?_ fun c' n' hne => ?_
  · show (.inr (0, c_node Λ (setP σ n p) n) : mm_O) = _
    have e : vLen (setP σ n p) n = p := by
      show (if sK σ n = 4 then ud (sP σ) n p n else 0) = p
      rw [if_pos h4, ud_at]
    congr 2
    show [_, _, _, _, _, _, _, _, _, _, Value.int (nI (vLen (setP σ n p) n)), _, _] = _
    rw [e]
    rfl
  · by_cases h : c' = 4
    · subst h
      have hn' : n' ≠ n := fun z => hne (by rw [z])
      show (.inr (0, c_node Λ (setP σ n p) n') : mm_O) = .inr (0, c_node Λ σ n')
      rw [c_node_ne (σ := σ) (σ' := setP σ n p) rfl rfl rfl rfl (ud_ne hn') rfl rfl rfl]
    · unfold c_cell
      simp only [h, if_false]
      rfl
theorem set_noted (hL : LK Λ σ) (hn : n < sN σ) (h4 : sK σ n = 4) {p : Nat} : mm_set (mm_C Λ σ β M) (Λ.1 4 n) (.inr (0, (c_node Λ σ n).set 11 (.int (nI p)))) = mm_C Λ (setD σ n p) β M := by
  refine c_set hL (hL.2.2 n hn).1 ?_ fun c' n' hne => ?_
  · show (.inr (0, c_node Λ (setD σ n p) n) : mm_O) = _
    have e : vNoted (setD σ n p) n = p := by
      show (if sK σ n = 4 then ud (sD σ) n p n else 0) = p
      rw [if_pos h4, ud_at]
    congr 2
    show [_, _, _, _, _, _, _, _, _, _, _, Value.int (nI (vNoted (setD σ n p) n)), _] = _
    rw [e]
    rfl
  · by_cases h : c' = 4
    · subst h
      have hn' : n' ≠ n := fun z => hne (by rw [z])
      show (.inr (0, c_node Λ (setD σ n p) n') : mm_O) = .inr (0, c_node Λ σ n')
      rw [c_node_ne (σ := σ) (σ' := setD σ n p) rfl rfl rfl rfl rfl (ud_ne hn') rfl rfl]
    · unfold c_cell
      simp only [h, if_false]
      rfl
/-- the notes of a row are those of its base and its own -/
theorem chN_4P (hW : WF T σ) (hn : n < sN σ) (h4 : sK σ n = 4) {L : List Int32} {up : Bool} (k : Nat) : sP (chN σ l L n up) k = ud (sP (chN σ l L (sO σ n) up)) n (if up = true then sP σ n + 1 else sP σ n - 1) k := by
  have hb : kBased (sK σ n) = true := by rw [h4]; rfl
  rw [chN_P]
  by_cases e : k = n
  · subst e
    rw [ud_at, if_pos ⟨by rw [on_at hW hn]; simp, h4⟩]
  · rw [ud_ne e, chN_P, on_at hW hn, hb]
    simp [e]
theorem chN_4D (hW : WF T σ) (hn : n < sN σ) (h4 : sK σ n = 4) (hlo : lo σ n = some l) {L : List Int32} {up : Bool} (k : Nat) : sD (chN σ l L n up) k = ud (sD (chN σ l L (sO σ n) up)) n (sC σ l + 1) k := by
  have hb : kBased (sK σ n) = true := by rw [h4]; rfl
  have hch : ch (setL σ l L 1) (sO σ n) = sC σ l + 1 := by
    rw [← setL_C (L := L)]
    exact ch_lo ((lo_same (σ := σ) (σ' := setL σ l L 1) rfl rfl rfl _).trans ((lo_o hW hn hb).symm.trans hlo))
  rw [chN_D]
  by_cases e : k = n
  · subst e
    rw [ud_at, if_pos ⟨by rw [on_at hW hn]; simp, h4⟩, hch]
  · rw [ud_ne e, chN_D, on_at hW hn, hb]
    simp [e]
theorem chN_o (hW : WF T σ) (hn : n < sN σ) (hb : kBased (sK σ n) = true) (h4 : sK σ n ≠ 4) {L : List Int32} {up : Bool} : chN σ l L n up = chN σ l L (sO σ n) up := by
  refine sg_ext rfl rfl rfl rfl rfl rfl ?_ ?_ rfl rfl rfl rfl rfl
  · funext k
    rw [chN_P, chN_P, on_at hW hn, hb]
    by_cases e : k = n
    · subst e
      rw [if_neg (fun z => h4 z.2), if_neg (fun z => h4 z.2)]
    · simp [e]
  · funext k
    rw [chN_D, chN_D, on_at hW hn, hb]
    by_cases e : k = n
    · subst e
      rw [if_neg (fun z => h4 z.2), if_neg (fun z => h4 z.2)]
    · simp [e]
theorem chN_0 (hW : WF T σ) (hn : n < sN σ) (hb : kBased (sK σ n) = false) {L : List Int32} {up : Bool} : chN σ l L n up = setL σ l L 1 := by
  have h4 : sK σ n ≠ 4 := fun z => by rw [z] at hb; cases hb
  refine sg_ext rfl rfl rfl rfl rfl rfl ?_ ?_ rfl rfl rfl rfl rfl
  · funext k
    rw [chN_P, on_at hW hn, hb]
    by_cases e : k = n
    · subst e
      rw [if_neg (fun z => h4 z.2)]
      rfl
    · rw [if_neg (by simp [e])]
      rfl
  · funext k
    rw [chN_D, on_at hW hn, hb]
    by_cases e : k = n
    · subst e
      rw [if_neg (fun z => h4 z.2)]
      rfl
    · rw [if_neg (by simp [e])]
      rfl
theorem mm_C_setL {L : List Int32} {c : Nat} : mm_C Λ (setL σ l L c) β M = mm_C Λ σ β M := mm_C_same (σ := σ) (σ' := setL σ l L c) rfl rfl rfl rfl rfl rfl rfl rfl rfl rfl
end CL16
