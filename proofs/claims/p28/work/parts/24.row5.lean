theorem upM_uu {μ : Int → Int → Int} {o k v v' : Int} : upM (upM μ o k v) o k v' = upM μ o k v' := by
  funext o' k'
  unfold upM
  by_cases h : o' = o ∧ k' = k
  · rw [if_pos h, if_pos h]
  · rw [if_neg h, if_neg h, if_neg h]
theorem cpy_out {g f : Int → Int} {off j k : Int} (h : ¬ (off ≤ k ∧ k < off + j)) : cpy g f off j k = f k := if_neg h