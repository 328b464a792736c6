theorem reas_why {m : Int → Int} {t words : Int} (h : askFM m t words = -6) : reasS m t words = whyM m t words ∧ 1 ≤ whyM m t words ∧ whyM m t words ≤ 3 := by
  have h1 := whyM_rg m t words
  unfold askFM at h
  unfold reasS
  split at h
  · omega
  · split at h
    · omega
    · split at h
      · omega
      · split at h
        · rw [if_neg (by omega), if_neg (by omega)]
          omega
        · omega