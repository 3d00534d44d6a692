/-! A turn of the seeker's loop. -/
theorem pq_hc {K lv lv' w w' t x : Int} (hx : x = K) (d : (K = 1 ∧ lv < 20 ∧ lv' = lv + 1) ∨ (K = 2 ∧ w = 0 ∧ 0 < lv ∧ lv' = lv - 1) ∨ ((K = 3 ∨ K = 4) ∧ w = 0 ∧ t ≠ 0 ∧ lv' = lv) ∨ (K = 5 ∧ lv' = lv) ∨ (K = 6 ∧ lv' = lv)) (hw : (w' = 1 ∧ x ≠ 6 ∧ x ≠ 2) ∨ (w' = 0 ∧ (x = 6 ∨ x = 2))) : (K = 1 ∧ lv < 20 ∧ lv' = lv + 1 ∧ w' = 1) ∨ (K = 2 ∧ w = 0 ∧ 0 < lv ∧ lv' = lv - 1 ∧ w' = 0) ∨ ((K = 3 ∨ K = 4) ∧ w = 0 ∧ t ≠ 0 ∧ lv' = lv ∧ w' = 1) ∨ (K = 5 ∧ lv' = lv ∧ w' = 1) ∨ (K = 6 ∧ lv' = lv ∧ w' = 0) := by
  subst hx
  rcases d with ⟨a, b, c⟩ | ⟨a, b, c, d⟩ | ⟨a, b, c, d⟩ | ⟨a, b⟩ | ⟨a, b⟩
  · exact Or.inl ⟨a, b, c, by omega⟩
  · exact Or.inr (Or.inl ⟨a, b, c, d, by omega⟩)
  · exact Or.inr (Or.inr (Or.inl ⟨a, b, c, d, by omega⟩))
  · exact Or.inr (Or.inr (Or.inr (Or.inl ⟨a, b, by omega⟩)))
  · exact Or.inr (Or.inr (Or.inr (Or.inr ⟨a, b, by omega⟩)))
