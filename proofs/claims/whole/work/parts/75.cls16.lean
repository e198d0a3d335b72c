/-! the class: a PART notes -/
section CL17
variable {T n l : Nat} {σ : Sg}
theorem chN_c {L : List Int32} {up : Bool} : sS (chN σ l L n up) = ud (sS σ) l L ∧ sC (chN σ l L n up) = ud (sC σ) l (sC σ l + 1) ∧ sR (chN σ l L n up) = sR (setL σ l L 1) := ⟨rfl, rfl, rfl⟩
theorem setDP_c {p q : Nat} : sP (setD (setP σ n p) n q) = ud (sP σ) n p ∧ sD (setD (setP σ n p) n q) = ud (sD σ) n q ∧ sS (setD (setP σ n p) n q) = sS σ ∧ sC (setD (setP σ n p) n q) = sC σ ∧ sR (setD (setP σ n p) n q) = sR σ := ⟨rfl, rfl, rfl, rfl, rfl⟩
theorem chN_f {L : List Int32} {up : Bool} : sN (chN σ l L n up) = sN σ ∧ sH (chN σ l L n up) = sH σ ∧ sK (chN σ l L n up) = sK σ ∧ sO (chN σ l L n up) = sO σ ∧ sT (chN σ l L n up) = sT σ ∧ sV (chN σ l L n up) = sV σ ∧ sL (chN σ l L n up) = sL σ ∧ sG (chN σ l L n up) = sG σ := ⟨rfl, rfl, rfl, rfl, rfl, rfl, rfl, rfl⟩
theorem setDP_f {p q : Nat} : sN (setD (setP σ n p) n q) = sN σ ∧ sH (setD (setP σ n p) n q) = sH σ ∧ sK (setD (setP σ n p) n q) = sK σ ∧ sO (setD (setP σ n p) n q) = sO σ ∧ sT (setD (setP σ n p) n q) = sT σ ∧ sV (setD (setP σ n p) n q) = sV σ ∧ sL (setD (setP σ n p) n q) = sL σ ∧ sG (setD (setP σ n p) n q) = sG σ := ⟨rfl, rfl, rfl, rfl, rfl, rfl, rfl, rfl⟩
theorem chN_4 (hW : WF T σ) (hn : n < sN σ) (h4 : sK σ n = 4) (hlo : lo σ n = some l) {L : List Int32} {up : Bool} {p q : Nat} (hp : p = if up = true then sP σ n + 1 else sP σ n - 1) (hq : q = sC σ l + 1) : chN σ l L n up = setD (setP (chN σ l L (sO σ n) up) n p) n q := by
  obtain ⟨d1, d2, d3, d4, d5⟩ := setDP_c (σ := chN σ l L (sO σ n) up) (n := n) (p := p) (q := q)
  obtain ⟨a1, a2, a3⟩ := chN_c (σ := σ) (l := l) (n := n) (L := L) (up := up)
  obtain ⟨b1, b2, b3⟩ := chN_c (σ := σ) (l := l) (n := sO σ n) (L := L) (up := up)
  obtain ⟨x1, x2, x3, x4, x5, x6, x7, x8⟩ := setDP_f (σ := chN σ l L (sO σ n) up) (n := n) (p := p) (q := q)
  obtain ⟨y1, y2, y3, y4, y5, y6, y7, y8⟩ := chN_f (σ := σ) (l := l) (n := n) (L := L) (up := up)
  obtain ⟨z1, z2, z3, z4, z5, z6, z7, z8⟩ := chN_f (σ := σ) (l := l) (n := sO σ n) (L := L) (up := up)
  refine sg_ext (y1.trans (x1.trans z1).symm) (y2.trans (x2.trans z2).symm) (y3.trans (x3.trans z3).symm) (y4.trans (x4.trans z4).symm) (y5.trans (x5.trans z5).symm) (y6.trans (x6.trans z6).symm) ?_ ?_ (y7.trans (x7.trans z7).symm) (y8.trans (x8.trans z8).symm) ?_ ?_ ?_
  · rw [d1, hp]
    funext k
    exact chN_4P hW hn h4 k
  · rw [d2, hq]
    funext k
    exact chN_4D hW hn h4 hlo k
  · rw [d3, a1, b1]
  · rw [d4, a2, b2]
  · rw [d5, a3, b3]
end CL17
