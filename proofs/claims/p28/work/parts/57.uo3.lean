theorem recM_o {F : Int → Int → Int} {o k : Int} (hn : 0 ≤ F 79 1 ∧ F 79 1 < 4) (h : o < 79 ∨ 185 ≤ o) : recM F o k = F o k := by
  unfold recM
  rw [upM_ne (by omega), upM_ne (by omega), cS_o (by omega)]
theorem lks_up {K : Int} {m : Int → Int} {v : Int} (hW : MW K m) (h : m 466 ≤ v) : lksM m 6 ≤ lksM (up1 m 466 v) 6 := by
  have key : ∀ (n : Nat) (k : Int), 0 ≤ k → k + n = 64 → sumF n k (fun w => if lkM m w ∧ ((6 : Int) = 6 ∨ m (256 + w) = 6) then 1 else 0) ≤ sumF n k (fun w => if lkM (up1 m 466 v) w ∧ ((6 : Int) = 6 ∨ up1 m 466 v (256 + w) = 6) then 1 else 0) := by
    intro n
    induction n with
    | zero => exact fun _ _ _ => Int.le_refl _
    | succ n ih =>
      intro k k0 k1
      rw [sumF_s, sumF_s]
      have a := ih (k + 1) (by omega) (by omega)
      have b : (if lkM m k ∧ ((6 : Int) = 6 ∨ m (256 + k) = 6) then (1 : Int) else 0) ≤ (if lkM (up1 m 466 v) k ∧ ((6 : Int) = 6 ∨ up1 m 466 v (256 + k) = 6) then (1 : Int) else 0) := by
        by_cases q : lkM m k
        · have q2 : lkM (up1 m 466 v) k := by
            unfold lkM owd at q ⊢
            rw [up1_ne (show 128 + k ≠ 466 by omega), up1_ne (show 192 + k ≠ 466 by omega), up1_ne (show 384 + k ≠ 466 by omega), up1_ne (show 256 + k ≠ 466 by omega), up1_ne (show (467 : Int) ≠ 466 by decide), up1_at]
            refine ⟨q.1, ?_⟩
            rcases q.2 with z | z
            · have e := (hW.1 k k0 (by omega)).2.2.2.1
              left
              rw [up1_ne (by omega)]
              exact z
            · right
              omega
          rw [if_pos ⟨q, Or.inl rfl⟩, if_pos ⟨q2, Or.inl rfl⟩]
          exact Int.le_refl _
        · rw [if_neg (fun z => q z.1)]
          split <;> decide
      omega
  exact key 64 0 (Int.le_refl _) rfl

