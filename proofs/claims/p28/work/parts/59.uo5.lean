/-! the steps: write -/
theorem bgF_ext {m m' : Int → Int} (hz : m 128 ≠ 0) (e : ∀ u, 0 ≤ u → u < 64 → m' (128 + u) = m (128 + u)) : ∀ (n : Nat) (w : Int), 0 ≤ w → w < 64 → bgF m' n w = bgF m n w
  | 0, _ => fun _ _ => rfl
  | n + 1, w => fun w0 w1 => by
    show (if m' (128 + w) = 0 then bgF m' n (w - 1) else w) = (if m (128 + w) = 0 then bgF m n (w - 1) else w)
    rw [e w w0 w1]
    by_cases q : m (128 + w) = 0
    · rw [if_pos q, if_pos q]
      have : w ≠ 0 := fun z => by
        rw [z] at q
        exact hz q
      exact bgF_ext hz e n (w - 1) (by omega) (by omega)
    · rw [if_neg q, if_neg q]
theorem up1_cm {f : Int → Int} {a b x y : Int} (h : a ≠ b) : up1 (up1 f a x) b y = up1 (up1 f b y) a x := by
  funext k
  by_cases q : k = b
  · rw [q, up1_at, up1_ne (Ne.symm h), up1_at]
  · rw [up1_ne q]
    by_cases z : k = a
    · rw [z, up1_at, up1_at]
    · rw [up1_ne z, up1_ne z, up1_ne q]
theorem up1_id {f : Int → Int} {a : Int} : up1 f a (f a) = f := by
  funext k
  by_cases q : k = a
  · rw [q, up1_at]
  · rw [up1_ne q]