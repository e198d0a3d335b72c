/-! the law: both sides' memory -/
def gM (Λ : Lay) (σ : Sg) (β : CS) (rm : Nat) (ρ : RS) (B : mm_M) : mm_M := mm_C Λ σ β (mm_R rm ρ B)
def lw_D (Λ : Lay) (rm ao ad sa : Nat) (B : mm_M) : Prop := ∀ q t, Λ.2 q = some t → q < B.1 ∧ (q < rm ∨ rm + 18 ≤ q) ∧ q ≠ ao ∧ q ≠ ad ∧ q ≠ sa
def lw_B (rm ao ad sa : Nat) (B : mm_M) : Prop := rm + 18 ≤ ao ∧ ao < ad ∧ ad < B.1 ∧ sa < rm ∧ B.2.2 sa = none ∧ (∃ fo, B.2.2 ao = some (.inl (3, 1, .inr (.inl fo)))) ∧ ∃ fd, B.2.2 ad = some (.inl (4, 1, .inr (.inr (.inr (.inl fd)))))
/-- a code of the range, and nothing changed where it isn't 0 -/
def okO (σ : Sg) (m : Nat) (o : Out) : Prop := o.1 ≤ m ∧ (o.1 ≠ 0 → o.2.2 = σ)
theorem okO_b {σ : Sg} {m c : Nat} (h : c ≤ m) : okO σ m (bade σ c) := ⟨h, fun _ => rfl⟩
theorem okO_0 {σ σ' : Sg} {m : Nat} {b : Int32} : okO σ m (0, b, σ') := ⟨Nat.zero_le _, fun h => absurd rfl h⟩
section LW1
variable {X : Nat × Nat × (Nat → Int32)} {d rm ao ad sa : Nat} {Λ : Lay} {σ : Sg} {β : CS} {ρ : RS} {B : mm_M} {Q : mm_Out → mm_M → Prop}
theorem lw_no (hD : lw_D Λ rm ao ad sa B) {q : Nat} (h : q = ao ∨ q = ad ∨ q = sa ∨ (rm ≤ q ∧ q < rm + 18)) : Λ.2 q = none := by
  cases hA : Λ.2 q with
  | none => rfl
  | some t =>
    obtain ⟨h1, h2, h3, h4, h5⟩ := hD q t hA
    omega
theorem gM_at {q : Nat} (h : Λ.2 q = none) (h2 : q < rm ∨ rm + 18 ≤ q) : (gM Λ σ β rm ρ B).2.2 q = B.2.2 q := by
  show (match Λ.2 q with
    | some t => some (c_cell Λ σ β t.1 t.2)
    | none => if rm ≤ q ∧ q < rm + 18 then some (r_cell rm ρ (q - rm)) else B.2.2 q) = _
  rw [h]
  exact if_neg (by omega)
theorem gM_rm (h : Λ.2 rm = none) : (gM Λ σ β rm ρ B).2.2 rm = some (.inr (3, r_obj rm ρ)) := by
  show (match Λ.2 rm with
    | some t => some (c_cell Λ σ β t.1 t.2)
    | none => (mm_R rm ρ B).2.2 rm) = _
  rw [h]
  exact r_at
theorem gM_ob (hL : LK Λ σ) : (gM Λ σ β rm ρ B).2.2 (Λ.1 0 0) = some (.inr (2, c_obj Λ σ)) := c_obj_at hL
theorem gM_set {q : Nat} {o : mm_O} (h : Λ.2 q = none) (h2 : q < rm ∨ rm + 18 ≤ q) : mm_set (gM Λ σ β rm ρ B) q o = gM Λ σ β rm ρ (mm_set B q o) := by
  have e : ∀ r, (if r = q then some o else (match Λ.2 r with
    | some t => some (c_cell Λ σ β t.1 t.2)
    | none => if rm ≤ r ∧ r < rm + 18 then some (r_cell rm ρ (r - rm)) else B.2.2 r)) = (match Λ.2 r with
    | some t => some (c_cell Λ σ β t.1 t.2)
    | none => if rm ≤ r ∧ r < rm + 18 then some (r_cell rm ρ (r - rm)) else if r = q then some o else B.2.2 r) := by
    intro r
    by_cases z : r = q
    · subst z
      rw [if_pos rfl, h]
      simp only
      rw [if_neg (by omega), if_pos trivial]
    · rw [if_neg z]
      cases Λ.2 r with
      | some t => rfl
      | none =>
        simp only
        by_cases y : rm ≤ r ∧ r < rm + 18
        · rw [if_pos y, if_pos y]
        · rw [if_neg y, if_neg y, if_neg z]
  show (B.1, B.2.1, fun r => if r = q then some o else (match Λ.2 r with
    | some t => some (c_cell Λ σ β t.1 t.2)
    | none => if rm ≤ r ∧ r < rm + 18 then some (r_cell rm ρ (r - rm)) else B.2.2 r)) = _
  rw [funext e]
  rfl
theorem gM_swap (hD : lw_D Λ rm ao ad sa B) : gM Λ σ β rm ρ B = mm_R rm ρ (mm_C Λ σ β B) := by
  have e : ∀ r, (match Λ.2 r with
    | some t => some (c_cell Λ σ β t.1 t.2)
    | none => if rm ≤ r ∧ r < rm + 18 then some (r_cell rm ρ (r - rm)) else B.2.2 r) = (if rm ≤ r ∧ r < rm + 18 then some (r_cell rm ρ (r - rm)) else (match Λ.2 r with
    | some t => some (c_cell Λ σ β t.1 t.2)
    | none => B.2.2 r)) := by
    intro r
    by_cases y : rm ≤ r ∧ r < rm + 18
    · rw [lw_no hD (Or.inr (Or.inr (Or.inr y)))]

    · cases Λ.2 r with
      | some t => simp only [if_neg y]
      | none => rfl
  show (B.1, B.2.1, fun r => (match Λ.2 r with
    | some t => some (c_cell Λ σ β t.1 t.2)
    | none => if rm ≤ r ∧ r < rm + 18 then some (r_cell rm ρ (r - rm)) else B.2.2 r)) = _
  rw [funext e]
  rfl
theorem gR (hD : lw_D Λ rm ao ad sa B) {k : Nat} {args : List Value} {o : Out} (h : opR X d rm ρ (mm_C Λ σ β B) k args o) : ∃ ρ', RRel o.2.2 ρ' ∧ ρ'.1 = nI o.1 ∧ ∀ Q, WPC X d k (.ref rm :: args) (gM Λ σ β rm ρ B) Q = Q (.inl (some (.int o.2.1))) (gM Λ σ β rm ρ' B) := by
  obtain ⟨ρ', h1, h2, q⟩ := h
  refine ⟨ρ', h1, h2, fun Q => ?_⟩
  rw [gM_swap hD, gM_swap hD]
  exact q Q
theorem gT (hD : lw_D Λ rm ao ad sa B) : WPC X d 64 [.ref rm] (gM Λ σ β rm ρ B) Q = Q (.inl (some (.int ρ.1))) (gM Λ σ β rm ρ B) := by
  rw [gM_swap hD]
  exact Rf_thrown_eq
theorem mm_sl_ok {n : Nat} {f : Nat → Int64} {j : Int32} {x : Int64} {K : mm_O → Prop} : mm_sl (some (.inl (3, n, .inr (.inl f)))) j x K = (mm_in j n ∧ K (.inl (3, n, .inr (.inl (vp_updL f j.toNatClampNeg x))))) := rfl
theorem mm_sd_ok {n : Nat} {f : Nat → UInt64} {j : Int32} {x : UInt64} {K : mm_O → Prop} : mm_sd (some (.inl (4, n, .inr (.inr (.inr (.inl f)))))) j x K = (mm_in j n ∧ K (.inl (4, n, .inr (.inr (.inr (.inl (vf_upd f j.toNatClampNeg x))))))) := rfl
theorem mm_al_ok {n : Nat} {f : Nat → Int64} {j : Int32} {K : Int64 → Prop} : mm_al (some (.inl (3, n, .inr (.inl f)))) j K = (mm_in j n ∧ K (f j.toNatClampNeg)) := rfl
theorem mm_ad_ok {n : Nat} {f : Nat → UInt64} {j : Int32} {K : UInt64 → Prop} : mm_ad (some (.inl (4, n, .inr (.inr (.inr (.inl f)))))) j K = (mm_in j n ∧ K (f j.toNatClampNeg)) := rfl
theorem mm_ai_s {j : Int32} {K : Int32 → Prop} : mm_ai X X.1 none j K = (mm_in j X.2.1 ∧ K (X.2.2 j.toNatClampNeg)) := by
  show (X.1 = X.1 ∧ mm_in j X.2.1 ∧ K (X.2.2 j.toNatClampNeg)) = _
  simp
theorem lg_self {x : Int64} : lg_cmp x x = nI 0 := (lg_cmp_eq x x).2 rfl
/-- a call of the class, as the law makes it -/
theorem lw_help {k pc kc m : Nat} {args : List Value} {o : Out} {ex : Nat → Nat} (hD : lw_D Λ rm ao ad sa B) (hB : lw_B rm ao ad sa B) (hL : LK Λ σ) (hop : opC X (d + 16) Λ σ β (mm_R rm ρ B) kc args o ex) (ho : okO σ m o) (hx : o.1 ≠ 0 → ∃ r, mm_hnd k pc (ex o.1) = some r ∧ Int32.ofInt r = nI o.1) (hk : mm_kd k = 3) (hkc : mm_kd kc ≠ 2) {post : Option Value → mm_M → (mm_Out → mm_M → Prop) → Prop} (hun : ∀ Q, WPC X (d + 17) k (.ref (Λ.1 0 0) :: args ++ [.ref ao]) (gM Λ σ β rm ρ B) Q = WPC X (d + 16) kc (.ref (Λ.1 0 0) :: args) (gM Λ σ β rm ρ B) (mm_K (fun v M => post v M Q) (mm_G k pc kc Q))) (hpost : o.1 = 0 → ∀ (M : mm_M) Q fo, M.2.2 ao = some (.inl (3, 1, .inr (.inl fo))) → post (some (.int o.2.1)) M Q = Q (.inl (some (.int (nI 0)))) (mm_set M ao (.inl (3, 1, .inr (.inl (vp_updL fo 0 o.2.1.toInt64)))))) : ∃ Λ' β' B', LK Λ' o.2.2 ∧ StRel o.2.2 β' ∧ Λ'.1 0 0 = Λ.1 0 0 ∧ lw_D Λ' rm ao ad sa B' ∧ lw_B rm ao ad sa B' ∧ (B.1 ≤ B'.1 ∧ B'.1 ≤ B.1 + 10 ∧ B.2.1 ≤ B'.2.1 ∧ B'.2.1 ≤ B.2.1 + 400) ∧ (o.1 = 0 → ∃ fo, B'.2.2 ao = some (.inl (3, 1, .inr (.inl fo))) ∧ fo 0 = o.2.1.toInt64) ∧ ∀ Q, WPC X (d + 17) k (.ref (Λ.1 0 0) :: args ++ [.ref ao]) (gM Λ σ β rm ρ B) Q = Q (.inl (some (.int (nI o.1)))) (gM Λ' o.2.2 β' rm ρ B') := by
  obtain ⟨b1, b2, b3, b4, b5, ⟨fo, b6⟩, ⟨fd, b7⟩⟩ := hB
  by_cases h0 : o.1 = 0
  · obtain ⟨Λ', β', a, s, h1, h2, h3, h4, h5, h6, q⟩ := hop.1 h0
    have hD1 : ∀ q t, Λ'.2 q = some t → q < B.1 + a ∧ (q < rm ∨ rm + 18 ≤ q) ∧ q ≠ ao ∧ q ≠ ad ∧ q ≠ sa := by
      intro q t h
      rcases h4 q t h with z | z
      · obtain ⟨y1, y2, y3, y4, y5⟩ := hD q t z
        exact ⟨by omega, y2, y3, y4, y5⟩
      · have z1 : B.1 ≤ q := z.1
        have z2 : q < B.1 + a := z.2
        exact ⟨z2, Or.inr (by omega), by omega, by omega, by omega⟩
    have hD' : lw_D Λ' rm ao ad sa (mm_set (B.1 + a, B.2.1 + s, B.2.2) ao (.inl (3, 1, .inr (.inl (vp_updL fo 0 o.2.1.toInt64))))) := hD1
    have hno : Λ'.2 ao = none := lw_no hD' (Or.inl rfl)
    refine ⟨Λ', β', mm_set (B.1 + a, B.2.1 + s, B.2.2) ao (.inl (3, 1, .inr (.inl (vp_updL fo 0 o.2.1.toInt64)))), h1, h2, h3, hD', ⟨b1, b2, ?_, b4, ?_, ⟨_, mm_set_at⟩, ⟨fd, ?_⟩⟩, ⟨?_, ?_, ?_, ?_⟩, fun _ => ⟨_, mm_set_at, if_pos rfl⟩, fun Q => ?_⟩
    · show ad < B.1 + a
      omega
    · rw [mm_set_ne (by omega)]
      exact b5
    · rw [mm_set_ne (by omega)]
      exact b7
    · show B.1 ≤ B.1 + a
      omega
    · show B.1 + a ≤ B.1 + 10
      omega
    · show B.2.1 ≤ B.2.1 + s
      omega
    · show B.2.1 + s ≤ B.2.1 + 400
      omega
    · rw [hun]
      refine (q _).trans ?_
      have em : mm_C Λ' o.2.2 β' ((mm_R rm ρ B).1 + a, (mm_R rm ρ B).2.1 + s, (mm_R rm ρ B).2.2) = gM Λ' o.2.2 β' rm ρ (B.1 + a, B.2.1 + s, B.2.2) := rfl
      rw [em, mm_K_inl, hpost h0 _ Q fo ((gM_at (B := (B.1 + a, B.2.1 + s, B.2.2)) hno (by omega)).trans b6), gM_set hno (by omega), h0]
  · obtain ⟨β', h1, q⟩ := hop.2 h0
    have e := ho.2 h0
    obtain ⟨r, hr, hr2⟩ := hx h0
    rw [e]
    refine ⟨Λ, β', mm_skip B 6, hL, h1, rfl, fun q t h => ?_, ⟨b1, b2, ?_, b4, b5, ⟨fo, b6⟩, ⟨fd, b7⟩⟩, ⟨?_, ?_, ?_, ?_⟩, fun z => absurd z h0, fun Q => ?_⟩
    · obtain ⟨y1, y2⟩ := hD q t h
      exact ⟨Nat.lt_succ_of_lt y1, y2⟩
    · show ad < B.1 + 1
      omega
    · show B.1 ≤ B.1 + 1
      omega
    · show B.1 + 1 ≤ B.1 + 10
      omega
    · show B.2.1 ≤ B.2.1 + 6
      omega
    · show B.2.1 + 6 ≤ B.2.1 + 400
      omega
    · rw [hun]
      refine (q _).trans ?_
      rw [mm_K_inr]
      unfold mm_G
      rw [if_neg hkc, if_pos hk, hr]
      show Q (.inl (some (.int (Int32.ofInt r)))) _ = _
      rw [hr2]
      rfl
end LW1
