/-! What a call of the class comes to. -/
theorem tr_cases {x y : Int32} {nz : Nat} (hnz : nz ≤ 8) : (x = 0 ∨ isMv x = 0 ∨ isMv y = 0) ∨ ((¬ x = 0 ∧ ¬ isMv x = 0 ∧ ¬ isMv y = 0) ∧ nz = 8) ∨ ((¬ x = 0 ∧ ¬ isMv x = 0 ∧ ¬ isMv y = 0) ∧ nz < 8) := by
  by_cases h1 : x = 0
  · exact Or.inl (Or.inl h1)
  by_cases h2 : isMv x = 0
  · exact Or.inl (Or.inr (Or.inl h2))
  by_cases h3 : isMv y = 0
  · exact Or.inl (Or.inr (Or.inr h3))
  by_cases h4 : nz = 8
  · exact Or.inr (Or.inl ⟨⟨h1, h2, h3⟩, h4⟩)
  · exact Or.inr (Or.inr ⟨⟨h1, h2, h3⟩, by omega⟩)
theorem re_cases {x w : Int32} : isMv x = 0 ∨ (¬ isMv x = 0 ∧ w = 0) ∨ (¬ isMv x = 0 ∧ ¬ w = 0) := by
  by_cases h1 : isMv x = 0
  · exact Or.inl h1
  by_cases h2 : w = 0
  · exact Or.inr (Or.inl ⟨h1, h2⟩)
  · exact Or.inr (Or.inr ⟨h1, h2⟩)
