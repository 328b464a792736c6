/-! more of the reference that only reads -/
theorem begOf_rg (m : Int → Int) (b : Int) : begOf m b = -5 ∨ (0 ≤ begOf m b ∧ begOf m b < 64 ∧ owd m (begOf m b) ∧ m (192 + begOf m b) = b) := by
  rcases fstF_rg (p := fun w => owd m w ∧ m (192 + w) = b) 64 0 with h | ⟨h1, h2, h3⟩
  · exact Or.inl h
  · exact Or.inr ⟨h1, h2, h3.1, h3.2⟩
theorem lowF_rg (m : Int → Int) (z : Int) : lowF m z = -5 ∨ (0 ≤ lowF m z ∧ lowF m z < 64 ∧ fre m (lowF m z) ∧ m (128 + lowF m z) = z) := by
  rcases fstF_rg (p := fun w => fre m w ∧ m (128 + w) = z) 64 0 with h | ⟨h1, h2, h3⟩
  · exact Or.inl h
  · exact Or.inr ⟨h1, h2, h3.1, h3.2⟩
theorem szM_rg (words : Int) : szM words = 4 ∨ szM words = 8 ∨ szM words = 16 := by
  unfold szM
  split
  · exact Or.inl rfl
  · split
    · exact Or.inr (Or.inl rfl)
    · exact Or.inr (Or.inr rfl)
theorem wdsM_bd {K : Int} {m : Int → Int} (hW : MW K m) (t : Int) : 0 ≤ wdsM m t ∧ wdsM m t ≤ 1024 := by
  have h := sumF_bd (c := 16) (f := fun w => if owd m w ∧ m (256 + w) = t then m (128 + w) else 0) 64 0 (fun j h1 h2 => by
    have hb := hW.1 j h1 (by omega)
    split <;> omega)
  unfold wdsM
  omega
theorem sum1_bd (p : Int → Prop) [DecidablePred p] : 0 ≤ sumF 64 0 (fun w => if p w then 1 else 0) ∧ sumF 64 0 (fun w => if p w then 1 else 0) ≤ 64 := by
  have h := sumF_bd (c := 1) (f := fun w => if p w then 1 else 0) 64 0 (fun j h1 h2 => by
    split <;> omega)
  omega
theorem lksM_bd (m : Int → Int) (t : Int) : 0 ≤ lksM m t ∧ lksM m t ≤ 64 := sum1_bd _
theorem frwM_bd {K : Int} {m : Int → Int} (hW : MW K m) : 0 ≤ frwM m ∧ frwM m ≤ 1024 := by
  have h := sumF_bd (c := 16) (f := fun w => if fre m w then m (128 + w) else 0) 64 0 (fun j h1 h2 => by
    have hb := hW.1 j h1 (by omega)
    split <;> omega)
  unfold frwM
  omega
theorem askdM_bd {K : Int} {m : Int → Int} (hW : MW K m) (t : Int) : 0 ≤ askdM m t ∧ askdM m t ≤ 896 := by
  have h := sumF_bd (c := 14) (f := fun w => if owd m w ∧ (t = 6 ∨ m (256 + w) = t) then m (320 + w) else 0) 64 0 (fun j h1 h2 => by
    have hb := hW.1 j h1 (by omega)
    split <;> omega)
  unfold askdM
  omega
theorem brk_bd {K : Int} {m : Int → Int} (hW : MW K m) {w : Int} (h0 : 0 ≤ w) (h1 : w < 64) : 0 ≤ m (64 + w + m (320 + w) + 1) ∧ m (64 + w + m (320 + w) + 1) ≤ 16 := by
  have hb := hW.1 w h0 h1
  by_cases h : w + m (320 + w) + 1 < 64
  · have h2 := (hW.1 (w + m (320 + w) + 1) (by omega) h).1
    rw [show 64 + w + m (320 + w) + 1 = 64 + (w + m (320 + w) + 1) by omega]
    omega
  · have h2 := (hW.1 (w + m (320 + w) + 1 - 64) (by omega) (by omega)).2.1
    rw [show 64 + w + m (320 + w) + 1 = 128 + (w + m (320 + w) + 1 - 64) by omega]
    exact h2
theorem bgF_y {m : Int → Int} {n : Nat} {w : Int} (h : m (128 + w) ≠ 0) : bgF m (n + 1) w = w := if_neg h
theorem bgF_n {m : Int → Int} {n : Nat} {w : Int} (h : m (128 + w) = 0) : bgF m (n + 1) w = bgF m n (w + -1) := if_pos h
theorem bgF_rg {m : Int → Int} (hz : m 128 ≠ 0) : ∀ (n : Nat) (w : Int), 0 ≤ w → w < n → 0 ≤ bgF m n w ∧ bgF m n w ≤ w ∧ m (128 + bgF m n w) ≠ 0
  | 0, w, h0, h1 => by omega
  | n + 1, w, h0, h1 => by
    by_cases h : m (128 + w) = 0
    · rw [bgF_n h]
      have hw : w ≠ 0 := fun e => by subst e; exact hz h
      have := bgF_rg hz n (w + -1) (by omega) (by omega)
      omega
    · rw [bgF_y h]
      exact ⟨h0, Int.le_refl _, h⟩
theorem bgn_rg {m : Int → Int} (hz : m 128 ≠ 0) {w : Int} (h0 : 0 ≤ w) (h1 : w < 64) : 0 ≤ bgn m w ∧ bgn m w ≤ w ∧ m (128 + bgn m w) ≠ 0 := bgF_rg hz 64 w h0 h1
def askFM (m : Int → Int) (t words : Int) : Int := if t < 0 ∨ 5 < t then -1 else if words < 1 ∨ 14 < words then -2 else if m 471 = 300 then -3 else if 0 < whyM m t words then -6 else 0
def bkFM (m : Int → Int) (t b : Int) : Int := if (t < 0 ∨ 5 < t) ∨ begOf m b = -5 then -1 else if m (256 + begOf m b) ≠ t then -4 else 0
def psFM (m : Int → Int) (ticks : Int) : Int := if ticks < 1 ∨ 500 < ticks then -2 else if 9999 < m 466 + ticks then -3 else 0
def snM (z : Int) : Int := if z = 4 then 0 else if z = 8 then 1 else 2
def blockS (m : Int → Int) (b what : Int) : Int :=
  if begOf m b = -5 then -1 else if what = 0 then begOf m b else if what = 1 then snM (m (128 + begOf m b)) else if what = 2 then m (256 + begOf m b) else if what = 3 then m (320 + begOf m b)
  else if what = 4 then brkM m (begOf m b) else if what = 5 then m 466 - m (384 + begOf m b) else if what = 6 then b2 (lkM m (begOf m b)) else -2
def wordS (m : Int → Int) (w what : Int) : Int :=
  if w < 0 ∨ 63 < w then -1 else if what = 0 then m (0 + w) else if what = 1 then m (192 + bgn m w) else if what = 2 then b2 (grdM m w) else if what = 3 then snM (m (128 + bgn m w)) else -2
def taskS (m : Int → Int) (t what : Int) : Int :=
  if t < 0 ∨ 5 < t then -1 else if what = 0 then 1 - m (448 + t) else if what = 1 then blksM m t else if what = 2 then wdsM m t else if what = 3 then askdM m t else if what = 4 then m (454 + t) else if what = 5 then lksM m t else if what = 6 then m (460 + t) else -2
def reasS (m : Int → Int) (t words : Int) : Int := if t < 0 ∨ 5 < t then -1 else if words < 1 ∨ 14 < words then -2 else whyM m t words
def grF (m : Int → Int) (t : Int) : Nat → Int
  | 0 => -5
  | n + 1 => if whyM m t ((n + 1 : Nat) : Int) = 0 then ((n + 1 : Nat) : Int) else grF m t n
def greaS (m : Int → Int) (t : Int) : Int := if t < 0 ∨ 5 < t then -1 else grF m t 14
def lkF (m : Int → Int) (rank : Int) : Int := fstF (fun w => lkM m w ∧ ahdM m w = rank) 64 0
def leakS (m : Int → Int) (rank : Int) : Int := if rank < 0 then -2 else if lkF m rank = -5 then -5 else m (192 + lkF m rank)
def szcM (m : Int → Int) (z what : Int) : Int := sumF 64 0 (fun w => if m (128 + w) = z ∧ ((what = 0 ∧ fre m w) ∨ (what ≠ 0 ∧ owd m w)) then 1 else 0)
def sizeS (m : Int → Int) (z what : Int) : Int := if z < 0 ∨ 2 < z then -1 else if what = 2 then lowF m (p4 z) else if what = 0 ∨ what = 1 then szcM m (p4 z) what else -2
