theorem askFM_c (m : Int → Int) (t words : Int) : askFM m t words = -1 ∨ askFM m t words = -2 ∨ askFM m t words = -3 ∨ askFM m t words = -6 ∨ (askFM m t words = 0 ∧ 0 ≤ t ∧ t < 6 ∧ 1 ≤ words ∧ words ≤ 14 ∧ m 471 ≠ 300 ∧ ¬ 0 < whyM m t words) := by
  unfold askFM
  split
  · exact Or.inl rfl
  · split
    · exact Or.inr (Or.inl rfl)
    · split
      · exact Or.inr (Or.inr (Or.inl rfl))
      · split
        · exact Or.inr (Or.inr (Or.inr (Or.inl rfl)))
        · exact Or.inr (Or.inr (Or.inr (Or.inr ⟨rfl, by omega, by omega, by omega, by omega, by omega, by omega⟩)))
theorem askFM_6 {m : Int → Int} {t words : Int} (h : askFM m t words = -6) : 0 ≤ t ∧ t < 6 ∧ 0 < whyM m t words := by
  unfold askFM at h
  split at h
  · omega
  · split at h
    · omega
    · split at h
      · omega
      · split at h
        · exact ⟨by omega, by omega, by assumption⟩
        · omega
theorem whyM_rg (m : Int → Int) (t words : Int) : whyM m t words = 0 ∨ whyM m t words = 1 ∨ whyM m t words = 2 ∨ whyM m t words = 3 := by
  unfold whyM
  split
  · exact Or.inr (Or.inl rfl)
  · split
    · exact Or.inr (Or.inr (Or.inl rfl))
    · split
      · exact Or.inr (Or.inr (Or.inr rfl))
      · exact Or.inl rfl
theorem bkFM_c (m : Int → Int) (t b : Int) : bkFM m t b = -1 ∨ bkFM m t b = -4 ∨ (bkFM m t b = 0 ∧ 0 ≤ t ∧ t < 6 ∧ begOf m b ≠ -5 ∧ m (256 + begOf m b) = t) := by
  unfold bkFM
  split
  · exact Or.inl rfl
  · split
    · exact Or.inr (Or.inl rfl)
    · exact Or.inr (Or.inr ⟨rfl, by omega, by omega, by omega, by omega⟩)
theorem psFM_c (m : Int → Int) (t : Int) : psFM m t = -2 ∨ psFM m t = -3 ∨ (psFM m t = 0 ∧ 1 ≤ t ∧ t ≤ 500 ∧ m 466 + t ≤ 9999) := by
  unfold psFM
  split
  · exact Or.inl rfl
  · split
    · exact Or.inr (Or.inl rfl)
    · exact Or.inr (Or.inr ⟨rfl, by omega, by omega, by omega⟩)
theorem wr_room {m : Int → Int} {t words : Int} (h : askFM m t words = 0) : whyM m t words = 0 ∧ m 471 ≠ 300 := by
  have h1 := askFM_c m t words
  have h2 := whyM_rg m t words
  omega
