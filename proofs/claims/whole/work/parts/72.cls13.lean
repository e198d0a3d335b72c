/-! the class: what the stores hold after a change -/
theorem insG_app_r {α : Type} {A B : List α} {j : Nat} {p : α} : insG (A ++ B) (A.length + j) p = A ++ insG B j p := by
  unfold insG
  rw [List.take_append, List.drop_append, List.take_of_length_le (show A.length ≤ A.length + j by omega), List.drop_eq_nil_of_le (show A.length ≤ A.length + j by omega)]
  simp
theorem insG_app_l {α : Type} {A B : List α} {i : Nat} {p : α} (h : i ≤ A.length) : insG (A ++ B) i p = insG A i p ++ B := by
  unfold insG
  rw [List.take_append_of_le_length h, List.drop_append_of_le_length h]
  simp
theorem delG_app_r {α : Type} {A B : List α} {j : Nat} : delG (A ++ B) (A.length + j) = A ++ delG B j := by
  unfold delG
  rw [List.take_append, List.drop_append, List.take_of_length_le (show A.length ≤ A.length + j by omega), List.drop_eq_nil_of_le (show A.length ≤ A.length + j + 1 by omega), show A.length + j + 1 - A.length = j + 1 by omega]
  simp
theorem delG_app_l {α : Type} {A B : List α} {i : Nat} (h : i < A.length) : delG (A ++ B) i = delG A i ++ B := by
  unfold delG
  rw [List.take_append_of_le_length (by omega), List.drop_append_of_le_length (by omega)]
  simp
theorem insG_map {x : Nat} {L : List Int32} {i : Nat} {v : Int32} : insG (L.map (fun v => (x, v))) i (x, v) = (insAt L i v).map (fun v => (x, v)) := by
  unfold insG insAt
  simp
theorem delG_map {x : Nat} {L : List Int32} {i : Nat} : delG (L.map (fun v => (x, v))) i = (delAt L i).map (fun v => (x, v)) := by
  unfold delG delAt
  simp
theorem flat_congr {f g : Nat → List Int32} (R : List Nat) (h : ∀ k, k ∈ R → f k = g k) : flat f R = flat g R := by
  unfold flat
  exact fm_congr R (fun k hk => by rw [h k hk])
theorem fsK_map0 {key : Nat} {L : List Int32} {B : List (Nat × Int32)} (h : L ≠ []) : fsK key (L.map (fun v => (key, v)) ++ B) = 0 := by
  cases L with
  | nil => exact absurd rfl h
  | cons v L => simp [fsK]
theorem fsK_mapne {x key : Nat} {L : List Int32} {B : List (Nat × Int32)} (h : x ≠ key) : fsK key (L.map (fun v => (x, v)) ++ B) = L.length + fsK key B := by
  rw [fsK_app _ _ (fun p hp => by
    rw [List.mem_map] at hp
    obtain ⟨v, -, rfl⟩ := hp
    exact h), List.length_map]
theorem flat_ins {f f' : Nat → List Int32} {key i : Nat} {v : Int32} (h' : f' key = insAt (f key) i v) (hf : ∀ k, k ≠ key → f' k = f k) (hi : i ≤ (f key).length) (hne : f key ≠ []) : ∀ (R : List Nat), R.Nodup → key ∈ R → flat f' R = insG (flat f R) (fsK key (flat f R) + i) (key, v)
  | [], _, h => by cases h
  | x :: R, hn, hk => by
    obtain ⟨h1, h2⟩ := List.nodup_cons.1 hn
    rw [flat_cons, flat_cons]
    by_cases e : x = key
    · subst e
      rw [fsK_map0 hne, Nat.zero_add, insG_app_l (by simpa using hi), insG_map, ← h', flat_congr R (fun k hk2 => hf k (fun z => h1 (by rw [← z]; exact hk2)))]
    · have hk2 : key ∈ R := by
        rcases List.mem_cons.1 hk with z | z
        · exact absurd z.symm e
        · exact z
      rw [fsK_mapne e, hf x e, flat_ins h' hf hi hne R h2 hk2]
      have := insG_app_r (A := (f x).map (fun v => (x, v))) (B := flat f R) (j := fsK key (flat f R) + i) (p := (key, v))
      rw [List.length_map] at this
      rw [Nat.add_assoc, this]
theorem fsK_none {key : Nat} : ∀ (P : List (Nat × Int32)), (∀ p, p ∈ P → p.1 ≠ key) → fsK key P = P.length
  | [], _ => rfl
  | p :: P, h => by
    unfold fsK
    rw [if_neg (h p (by simp)), fsK_none P (fun q hq => h q (by simp [hq])), List.length_cons]
theorem flat_snoc {f : Nat → List Int32} {R : List Nat} {x : Nat} : flat f (R ++ [x]) = flat f R ++ (f x).map (fun v => (x, v)) := by
  simp [flat]
theorem flat_del {f f' : Nat → List Int32} {key i : Nat} (h' : f' key = delAt (f key) i) (hf : ∀ k, k ≠ key → f' k = f k) (hi : i < (f key).length) : ∀ (R : List Nat), R.Nodup → key ∈ R → flat f' R = delG (flat f R) (fsK key (flat f R) + i)
  | [], _, h => by cases h
  | x :: R, hn, hk => by
    obtain ⟨h1, h2⟩ := List.nodup_cons.1 hn
    have hne : f key ≠ [] := fun z => by rw [z] at hi; simp at hi
    rw [flat_cons, flat_cons]
    by_cases e : x = key
    · subst e
      rw [fsK_map0 hne, Nat.zero_add, delG_app_l (by simpa using hi), delG_map, ← h', flat_congr R (fun k hk2 => hf k (fun z => h1 (by rw [← z]; exact hk2)))]
    · have hk2 : key ∈ R := by
        rcases List.mem_cons.1 hk with z | z
        · exact absurd z.symm e
        · exact z
      rw [fsK_mapne e, hf x e, flat_del h' hf hi R h2 hk2]
      have := delG_app_r (A := (f x).map (fun v => (x, v))) (B := flat f R) (j := fsK key (flat f R) + i)
      rw [List.length_map] at this
      rw [Nat.add_assoc, this]
theorem flat_erase {f : Nat → List Int32} {key : Nat} (h : f key = []) : ∀ (R : List Nat), flat f (R.erase key) = flat f R
  | [] => rfl
  | x :: R => by
    by_cases e : x = key
    · subst e
      rw [List.erase_cons_head, flat_cons, h]
      rfl
    · rw [List.erase_cons_tail (by simpa using e), flat_cons, flat_cons, flat_erase h R]
section CL14
variable {T n l : Nat} {σ : Sg}
theorem ks_setL {L : List Int32} {c : Nat} : ksO (setL σ l L c) (l / 8) = if sK σ (l / 8) = 6 then ordR (sR σ (l / 8)) (l % 8) L else [0] := by
  show (if sK σ (l / 8) = 6 then sR (setL σ l L c) (l / 8) else [0]) = _
  by_cases z : sK σ (l / 8) = 6
  · rw [if_pos z, if_pos z, setL_R6 z]
  · rw [if_neg z, if_neg z]
theorem cat_other {L : List Int32} {c : Nat} (hW : WF T σ) {q : Nat} (hq : q < sN σ) (hne : q ≠ l / 8) : cat (setL σ l L c) q = cat σ q := by
  have e : ksO (setL σ l L c) q = ksO σ q := by
    show (if sK σ q = 6 then sR (setL σ l L c) q else [0]) = _
    rw [setL_R q (Or.inl hne)]
    rfl
  rw [cat_flat, cat_flat, e]
  apply flat_congr
  intro k hk
  have := ks_8 hW hq k hk
  show ud (sS σ) l L (8 * q + k) = _
  rw [ud_ne (by omega)]
theorem cat_ins (hW : WF T σ) (hl8 : l < 8 * sN σ) (hk : sK σ (l / 8) = 0 ∨ sK σ (l / 8) = 6) (hz : sK σ (l / 8) = 0 → l = 8 * (l / 8)) {i : Nat} {v : Int32} (hi : i ≤ (sS σ l).length) : cat (setL σ l (insAt (sS σ l) i v) 1) (l / 8) = insG (cat σ (l / 8)) (fsK (l % 8) (cat σ (l / 8)) + i) (l % 8, v) := by
  have hn : l / 8 < sN σ := by omega
  have hl : 8 * (l / 8) + l % 8 = l := by omega
  have hne : insAt (sS σ l) i v ≠ [] := by
    intro z
    have := insAt_len (v := v) hi
    rw [z] at this
    simp at this
  have hf : ∀ k, k ≠ l % 8 → k < 8 → ud (sS σ) l (insAt (sS σ l) i v) (8 * (l / 8) + k) = sS σ (8 * (l / 8) + k) := fun k hk hk8 => ud_ne (by omega)
  have hfk : ud (sS σ) l (insAt (sS σ l) i v) (8 * (l / 8) + l % 8) = insAt (sS σ (8 * (l / 8) + l % 8)) i v := by rw [hl, ud_at]
  rw [cat_flat, cat_flat, ks_setL]
  rcases hk with h0 | h6
  · have hm : l % 8 = 0 := by have := hz h0; omega
    have e : ksO σ (l / 8) = [0] := by unfold ksO; rw [if_neg (by omega)]
    rw [if_neg (by omega), e, hm]
    rw [hm] at hfk
    show flat (fun k => ud (sS σ) l (insAt (sS σ l) i v) (8 * (l / 8) + k)) [0] = _
    rw [flat_cons, flat_cons]
    have hi0 : i ≤ (sS σ (8 * (l / 8) + 0)).length := by rw [← hm, hl]; exact hi
    have ef : fsK 0 ((sS σ (8 * (l / 8) + 0)).map (fun v => (0, v)) ++ flat (fun k => sS σ (8 * (l / 8) + k)) []) = 0 := by
      cases z : sS σ (8 * (l / 8) + 0) with
      | nil => rfl
      | cons y ys => simp [fsK]
    rw [ef, Nat.zero_add, insG_app_l (by simpa using hi0), insG_map]
    rw [hfk]
    rfl
  · have e : ksO σ (l / 8) = sR σ (l / 8) := if_pos h6
    obtain ⟨d1, d2, d3⟩ := hW.rk hn h6
    rw [if_pos h6, e, ordR, if_neg hne]
    show flat (fun k => ud (sS σ) l (insAt (sS σ l) i v) (8 * (l / 8) + k)) _ = _
    by_cases hin : l % 8 ∈ sR σ (l / 8)
    · rw [if_pos hin]
      have g1 : flat (fun k => ud (sS σ) l (insAt (sS σ l) i v) (8 * (l / 8) + k)) (sR σ (l / 8)) = flat (fun k => if k = l % 8 then insAt (sS σ (8 * (l / 8) + l % 8)) i v else sS σ (8 * (l / 8) + k)) (sR σ (l / 8)) := by
        apply flat_congr
        intro k hk
        by_cases z : k = l % 8
        · rw [if_pos z, z]; exact hfk
        · rw [if_neg z]; exact hf k z ((d3 k).1 hk).1
      rw [g1]
      exact flat_ins (f := fun k => sS σ (8 * (l / 8) + k)) (if_pos rfl) (fun k hk => if_neg hk) (by rw [hl]; exact hi) ((d3 _).1 hin).2 _ d2 hin
    · rw [if_neg hin, flat_snoc]
      have hS : sS σ l = [] := by
        apply Classical.byContradiction
        intro z
        exact hin ((d3 _).2 ⟨Nat.mod_lt _ (by decide), by rw [hl]; exact z⟩)
      have hi0 : i = 0 := by rw [hS] at hi; simpa using hi
      have g1 : flat (fun k => ud (sS σ) l (insAt (sS σ l) i v) (8 * (l / 8) + k)) (sR σ (l / 8)) = flat (fun k => sS σ (8 * (l / 8) + k)) (sR σ (l / 8)) := by
        apply flat_congr
        intro k hk
        exact hf k (fun z => hin (by rw [← z]; exact hk)) ((d3 k).1 hk).1
      rw [g1, fsK_none _ (fun p hp z => hin (by rw [← z]; exact flat_keys hp)), hi0]
      rw [hl, ud_at, hS]
      simp [insG, insAt]
theorem cat_del (hW : WF T σ) (hl8 : l < 8 * sN σ) (hk : sK σ (l / 8) = 0 ∨ sK σ (l / 8) = 6) (hz : sK σ (l / 8) = 0 → l = 8 * (l / 8)) {i : Nat} (hi : i < (sS σ l).length) : cat (setL σ l (delAt (sS σ l) i) 1) (l / 8) = delG (cat σ (l / 8)) (fsK (l % 8) (cat σ (l / 8)) + i) := by
  have hn : l / 8 < sN σ := by omega
  have hl : 8 * (l / 8) + l % 8 = l := by omega
  have hf : ∀ k, k ≠ l % 8 → k < 8 → ud (sS σ) l (delAt (sS σ l) i) (8 * (l / 8) + k) = sS σ (8 * (l / 8) + k) := fun k hk hk8 => ud_ne (by omega)
  have hfk : ud (sS σ) l (delAt (sS σ l) i) (8 * (l / 8) + l % 8) = delAt (sS σ (8 * (l / 8) + l % 8)) i := by rw [hl, ud_at]
  have hnd := ks_nodup hW hn
  have hin : l % 8 ∈ ksO σ (l / 8) := by
    unfold ksO
    rcases hk with h0 | h6
    · rw [if_neg (by omega)]
      have := hz h0
      simp
      omega
    · rw [if_pos h6]
      exact take_all hW hl8 h6 (by omega)
  have main : flat (fun k => ud (sS σ) l (delAt (sS σ l) i) (8 * (l / 8) + k)) (ksO σ (l / 8)) = delG (cat σ (l / 8)) (fsK (l % 8) (cat σ (l / 8)) + i) := by
    have g1 : flat (fun k => ud (sS σ) l (delAt (sS σ l) i) (8 * (l / 8) + k)) (ksO σ (l / 8)) = flat (fun k => if k = l % 8 then delAt (sS σ (8 * (l / 8) + l % 8)) i else sS σ (8 * (l / 8) + k)) (ksO σ (l / 8)) := by
      apply flat_congr
      intro k hk
      by_cases z : k = l % 8
      · rw [if_pos z, z]; exact hfk
      · rw [if_neg z]; exact hf k z (ks_8 hW hn k hk)
    rw [g1, cat_flat]
    exact flat_del (f := fun k => sS σ (8 * (l / 8) + k)) (if_pos rfl) (fun k hk => if_neg hk) (by rw [hl]; exact hi) _ hnd hin
  rw [cat_flat, ks_setL, ← main]
  show flat (fun k => ud (sS σ) l (delAt (sS σ l) i) (8 * (l / 8) + k)) _ = _
  rcases hk with h0 | h6
  · rw [if_neg (by omega)]
    have e : ksO σ (l / 8) = [0] := by unfold ksO; rw [if_neg (by omega)]
    rw [e]
  · have e : ksO σ (l / 8) = sR σ (l / 8) := if_pos h6
    rw [if_pos h6, e]
    rw [e] at hin
    unfold ordR
    by_cases hd : delAt (sS σ l) i = []
    · rw [if_pos hd]
      exact flat_erase (by rw [hl, ud_at]; exact hd) _
    · rw [if_neg hd, if_pos hin]
end CL14
