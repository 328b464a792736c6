/-! the reference: the rest of what only reads -/
theorem lkF_rg (m : Int → Int) (rank : Int) : lkF m rank = -5 ∨ (0 ≤ lkF m rank ∧ lkF m rank < 64) := by
  rcases fstF_rg (p := fun w => lkM m w ∧ ahdM m w = rank) 64 0 with h | ⟨h1, h2, h3⟩
  · exact Or.inl h
  · exact Or.inr ⟨h1, h2⟩

theorem p4_rg {z : Int} : p4 z = 4 ∨ p4 z = 8 ∨ p4 z = 16 := by
  unfold p4
  split
  · exact Or.inl rfl
  · split
    · exact Or.inr (Or.inl rfl)
    · exact Or.inr (Or.inr rfl)