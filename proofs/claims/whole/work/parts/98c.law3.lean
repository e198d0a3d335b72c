/-! the law: codes of the calls (printed by wip/whole/gen/p99.py) -/
section LW3
variable {σ : Sg}
theorem ok_make {p0 p1 : Int32} : okO σ 2 (sp_make σ p0 p1) := by
  unfold sp_make crt
  (repeat' split) <;> first | exact okO_b (by decide) | exact okO_0
theorem ok_copy {p0 p1 p2 : Int32} : okO σ 2 (sp_copy σ p0 p1 p2) := by
  unfold sp_copy crt
  (repeat' split) <;> first | exact okO_b (by decide) | exact okO_0
theorem ok_over {t h v : Int32} {k : Nat} : okO σ 2 (sp_over σ t h k v) := by
  unfold sp_over crt
  (repeat' split) <;> first | exact okO_b (by decide) | exact okO_0
theorem ok_part {p0 p1 p2 p3 : Int32} : okO σ 3 (sp_part σ p0 p1 p2 p3) := by
  unfold sp_part crt
  (repeat' split) <;> first | exact okO_b (by decide) | exact okO_0
theorem ok_ofMap {p0 p1 p2 : Int32} : okO σ 2 (sp_ofMap σ p0 p1 p2) := by
  unfold sp_ofMap crt
  (repeat' split) <;> first | exact okO_b (by decide) | exact okO_0
theorem ok_combine {p0 p1 p2 p3 : Int32} : okO σ 2 (sp_combine σ p0 p1 p2 p3) := by
  unfold sp_combine crt
  (repeat' split) <;> first | exact okO_b (by decide) | exact okO_0
theorem ok_hold {p0 p1 : Int32} : okO σ 1 (sp_hold σ p0 p1) := by
  unfold sp_hold
  (repeat' split) <;> first | exact okO_b (by decide) | exact okO_0
theorem ok_size {p0 : Int32} : okO σ 2 (sp_size σ p0) := by
  unfold sp_size
  (repeat' split) <;> first | exact okO_b (by decide) | exact okO_0
theorem ok_at {p0 p1 : Int32} : okO σ 3 (sp_at σ p0 p1) := by
  unfold sp_at
  (repeat' split) <;> first | exact okO_b (by decide) | exact okO_0
theorem ok_find {p0 p1 : Int32} : okO σ 3 (sp_find σ p0 p1) := by
  unfold sp_find
  (repeat' split) <;> first | exact okO_b (by decide) | exact okO_0
theorem ok_add {p0 p1 : Int32} : okO σ 3 (sp_add σ p0 p1) := by
  unfold sp_add sp_putIn
  (repeat' split) <;> first | exact okO_b (by decide) | exact okO_0
theorem ok_insert {p0 p1 p2 : Int32} : okO σ 4 (sp_insert σ p0 p1 p2) := by
  unfold sp_insert sp_putIn
  (repeat' split) <;> first | exact okO_b (by decide) | exact okO_0
theorem ok_put {p0 p1 p2 : Int32} : okO σ 4 (sp_put σ p0 p1 p2) := by
  unfold sp_put
  (repeat' split) <;> first | exact okO_b (by decide) | exact okO_0
theorem ok_take {p0 p1 : Int32} : okO σ 4 (sp_take σ p0 p1) := by
  unfold sp_take
  (repeat' split) <;> first | exact okO_b (by decide) | exact okO_0
theorem ok_remove {p0 p1 : Int32} : okO σ 4 (sp_remove σ p0 p1) := by
  unfold sp_remove
  (repeat' split) <;> first | exact okO_b (by decide) | exact okO_0
theorem ok_alike {p0 p1 : Int32} : okO σ 2 (sp_alike σ p0 p1) := by
  unfold sp_alike
  (repeat' split) <;> first | exact okO_b (by decide) | exact okO_0
theorem ok_about {p0 p1 : Int32} : okO σ 1 (sp_about σ p0 p1) := by
  unfold sp_about
  (repeat' split) <;> first | exact okO_b (by decide) | exact okO_0
theorem st_size {p0 : Int32} : (sp_size σ p0).2.2 = σ := by
  unfold sp_size
  (repeat' split) <;> rfl
theorem st_at {p0 p1 : Int32} : (sp_at σ p0 p1).2.2 = σ := by
  unfold sp_at
  (repeat' split) <;> rfl
theorem st_find {p0 p1 : Int32} : (sp_find σ p0 p1).2.2 = σ := by
  unfold sp_find
  (repeat' split) <;> rfl
theorem st_alike {p0 p1 : Int32} : (sp_alike σ p0 p1).2.2 = σ := by
  unfold sp_alike
  (repeat' split) <;> rfl
theorem st_about {p0 p1 : Int32} : (sp_about σ p0 p1).2.2 = σ := by
  unfold sp_about
  (repeat' split) <;> rfl
theorem bo_alike {p0 p1 : Int32} : (sp_alike σ p0 p1).1 = 0 → (sp_alike σ p0 p1).2.1 = nI 0 ∨ (sp_alike σ p0 p1).2.1 = nI 1 := by
  unfold sp_alike
  (repeat' split) <;> intro h
  · cases h
  · cases hb : decide (El σ _ = El σ _)
    · exact Or.inl rfl
    · exact Or.inr rfl
  · cases h
end LW3
