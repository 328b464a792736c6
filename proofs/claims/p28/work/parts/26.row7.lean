/-! the reference: blocks given back, leaks swept -/
def clrM (m : Int → Int) (b j : Int) : Int → Int := fun k => if (b ≤ k ∧ k < b + j) ∨ (64 + b ≤ k ∧ k < 64 + b + j) then 0 else m k
theorem clr_0 {m : Int → Int} {b : Int} : clrM m b 0 = m := by
  funext k
  exact if_neg (by omega)
theorem clr_s {m : Int → Int} {b j : Int} (h : 0 ≤ j) : up1 (up1 (clrM m b j) (0 + (b + j)) 0) (64 + (b + j)) 0 = clrM m b (j + 1) := by
  funext k
  unfold up1 clrM
  by_cases h1 : k = 64 + (b + j)
  · rw [if_pos h1, if_pos (by omega)]
  · rw [if_neg h1]
    by_cases h2 : k = 0 + (b + j)
    · rw [if_pos h2, if_pos (by omega)]
    · rw [if_neg h2]
      by_cases h3 : (b ≤ k ∧ k < b + j) ∨ (64 + b ≤ k ∧ k < 64 + b + j)
      · rw [if_pos h3, if_pos (by omega)]
      · rw [if_neg h3, if_neg (by omega)]
theorem clr_ne {m : Int → Int} {b j k : Int} (h : ¬ ((b ≤ k ∧ k < b + j) ∨ (64 + b ≤ k ∧ k < 64 + b + j))) : clrM m b j k = m k := if_neg h
/-- where the lower of two twins begins -/
def lwM (m : Int → Int) (w : Int) : Int := w - w % (2 * m (128 + w))
abbrev jcM (m : Int → Int) (w : Int) : Prop := fre m (lwM m w) ∧ fre m (lwM m w + m (128 + w)) ∧ m (128 + lwM m w) = m (128 + w) ∧ m (128 + (lwM m w + m (128 + w))) = m (128 + w)
def jsM (m : Int → Int) (w : Int) : Int → Int := up1 (up1 (up1 m (128 + lwM m w) (2 * m (128 + w))) (128 + (lwM m w + m (128 + w))) 0) 469 (m 469 + 1)

/-- twins joined, as far as it goes -/
def jn8 (m : Int → Int) (w : Int) : Int → Int := if jcM m w then jsM m w else m
def jn4 (m : Int → Int) (w : Int) : Int → Int := if jcM m w then jn8 (jsM m w) (lwM m w) else m
def jnM (m : Int → Int) (w : Int) : Int → Int := if m (128 + w) = 4 then jn4 m w else if m (128 + w) = 8 then jn8 m w else m
def fr0M (m : Int → Int) (b : Int) : Int → Int := up1 (clrM (up1 m 470 (m 470 + brkM m b)) b (m (128 + b))) (192 + b) (-5)
def frM (m : Int → Int) (b : Int) : Int → Int := jnM (fr0M m b) b
theorem js_eq {m : Int → Int} {low hi z : Int} (hl : 0 ≤ low ∧ low < 64) (hh : 0 ≤ hi ∧ hi < 64) : up1 (up1 (up1 m (128 + low) z) (128 + hi) 0) 469 (up1 (up1 m (128 + low) z) (128 + hi) 0 469 + 1) = up1 (up1 (up1 m (128 + low) z) (128 + hi) 0) 469 (m 469 + 1) := by
  rw [up1_ne (show (469 : Int) ≠ 128 + hi by omega), up1_ne (show (469 : Int) ≠ 128 + low by omega)]
theorem lw_rg {m : Int → Int} {w z : Int} (h0 : 0 ≤ w) (h1 : w < 64) (hz : z = 4 ∨ z = 8) (hm : m (128 + w) = z) : 0 ≤ lwM m w ∧ lwM m w ≤ w ∧ lwM m w + 2 * z ≤ 64 ∧ lwM m w = w - w % (2 * z) := by
  unfold lwM
  rw [hm]
  rcases hz with rfl | rfl <;> omega
theorem jc_iff {m : Int → Int} {w z : Int} (hm : m (128 + w) = z) : jcM m w ↔ (fre m (lwM m w) ∧ fre m (lwM m w + z) ∧ m (128 + lwM m w) = z ∧ m (128 + (lwM m w + z)) = z) := by
  unfold jcM
  rw [hm]
theorem js_lw {m : Int → Int} {w z : Int} (h0 : 0 ≤ w) (h1 : w < 64) (hz : z = 4 ∨ z = 8) (hm : m (128 + w) = z) : jsM m w (128 + lwM m w) = 2 * z := by
  have h := lw_rg h0 h1 hz hm
  unfold jsM
  rw [up1_ne (by omega), up1_ne (by omega), up1_at, hm]

theorem fr0_469 {m : Int → Int} {b : Int} (h0 : 0 ≤ b) (h1 : b + m (128 + b) ≤ 64) (h2 : 0 ≤ m (128 + b)) : fr0M m b 469 = m 469 := by
  unfold fr0M
  rw [up1_ne (by omega), clr_ne (by omega), up1_ne (by omega)]
theorem fr0_sz {m : Int → Int} {b : Int} (h0 : 0 ≤ b) (h1 : b + m (128 + b) ≤ 64) (h2 : 0 < m (128 + b)) : fr0M m b (128 + b) = m (128 + b) := by
  unfold fr0M
  rw [up1_ne (by omega), clr_ne (by omega), up1_ne (by omega)]
