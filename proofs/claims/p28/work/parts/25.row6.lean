/-! the reference: blocks taken, given back, swept -/
def hvM (m : Int → Int) (z : Int) : Int := if lowF m z ≠ -5 then z else if lowF m (2 * z) ≠ -5 then 2 * z else 4 * z
def spl1 (m : Int → Int) (w h : Int) : Int → Int := up1 (up1 (up1 (up1 m (128 + w) h) (128 + w + h) h) (192 + w + h) (-5)) 468 (m 468 + 1)
def takM (m : Int → Int) (z : Int) : Int → Int := if hvM m z = z then m else if hvM m z = 2 * z then spl1 m (lowF m (2 * z)) z else spl1 (spl1 m (lowF m (4 * z)) (2 * z)) (lowF m (4 * z)) z
def roomM (m : Int → Int) (z : Int) : Prop := lowF m z ≠ -5 ∨ (z < 16 ∧ lowF m (2 * z) ≠ -5) ∨ (z < 8 ∧ lowF m (4 * z) ≠ -5)
theorem hv_1 {m : Int → Int} {z : Int} (h : lowF m z ≠ -5) : hvM m z = z := if_pos h
theorem hv_2 {m : Int → Int} {z : Int} (h : lowF m z = -5) (h2 : lowF m (2 * z) ≠ -5) : hvM m z = 2 * z := by
  unfold hvM
  rw [if_neg (fun q => q h), if_pos h2]
theorem hv_3 {m : Int → Int} {z : Int} (h : lowF m z = -5) (h2 : lowF m (2 * z) = -5) : hvM m z = 4 * z := by
  unfold hvM
  rw [if_neg (fun q => q h), if_neg (fun q => q h2)]
theorem tak_1 {m : Int → Int} {z : Int} (h : hvM m z = z) : takM m z = m := if_pos h
theorem tak_2 {m : Int → Int} {z : Int} (hz : 0 < z) (h : hvM m z = 2 * z) : takM m z = spl1 m (lowF m (2 * z)) z := by
  unfold takM
  rw [if_neg (by omega), if_pos h]
theorem tak_3 {m : Int → Int} {z : Int} (hz : 0 < z) (h : hvM m z = 4 * z) : takM m z = spl1 (spl1 m (lowF m (4 * z)) (2 * z)) (lowF m (4 * z)) z := by
  unfold takM
  rw [if_neg (by omega), if_neg (by omega)]

def askW (m : Int → Int) (words : Int) : Int := lowF m (hvM m (szM words))
def askM (m : Int → Int) (t words : Int) : Int → Int :=
  up1 (up1 (up1 (up1 (up1 (takM m (szM words)) (192 + askW m words) (m 471)) (256 + askW m words) t) (320 + askW m words) words) (384 + askW m words) (m 466)) 471 (m 471 + 1)
theorem spl1_hi {m : Int → Int} {w h k : Int} (h0 : 0 ≤ w) (h1 : 0 < h) (h2 : w + 2 * h ≤ 64) (hk : 256 ≤ k ∧ k ≠ 468) : spl1 m w h k = m k := by
  unfold spl1
  rw [up1_ne (by omega), up1_ne (by omega), up1_ne (by omega), up1_ne (by omega)]
theorem room_rg {K : Int} {m : Int → Int} {z : Int} (hW : MW K m) (hz : z = 4 ∨ z = 8 ∨ z = 16) (hr : roomM m z) : (hvM m z = z ∨ (hvM m z = 2 * z ∧ z < 16) ∨ (hvM m z = 4 * z ∧ z < 8)) ∧ 0 ≤ lowF m (hvM m z) ∧ lowF m (hvM m z) + hvM m z ≤ 64 ∧ fre m (lowF m (hvM m z)) ∧ m (128 + lowF m (hvM m z)) = hvM m z := by
  have key : ∀ q : Int, lowF m q ≠ -5 → 0 ≤ lowF m q ∧ lowF m q + q ≤ 64 ∧ fre m (lowF m q) ∧ m (128 + lowF m q) = q := by
    intro q hq
    rcases lowF_rg m q with h | ⟨h1, h2, h3, h4⟩
    · exact absurd h hq
    · have hb := (hW.1 _ h1 h2).2.2.2.2.2.2.2
      exact ⟨h1, by omega, h3, h4⟩
  unfold roomM at hr
  by_cases a1 : lowF m z = -5
  · by_cases a2 : lowF m (2 * z) = -5
    · rw [hv_3 a1 a2]
      exact ⟨Or.inr (Or.inr ⟨rfl, by omega⟩), key _ (by omega)⟩
    · rw [hv_2 a1 a2]
      exact ⟨Or.inr (Or.inl ⟨rfl, by omega⟩), key _ a2⟩
  · rw [hv_1 a1]
    exact ⟨Or.inl rfl, key _ a1⟩
theorem takM_hi {K : Int} {m : Int → Int} {z k : Int} (hW : MW K m) (hz : z = 4 ∨ z = 8 ∨ z = 16) (hr : roomM m z) (hk : 256 ≤ k ∧ k ≠ 468) : takM m z k = m k := by
  obtain ⟨h1, h2, h3, -⟩ := room_rg hW hz hr
  rcases h1 with e | ⟨e, -⟩ | ⟨e, -⟩
  · rw [tak_1 e]
  · rw [tak_2 (by omega) e]
    rw [e] at h2 h3
    exact spl1_hi h2 (by omega) (by omega) hk
  · rw [tak_3 (by omega) e]
    rw [e] at h2 h3
    rw [spl1_hi h2 (by omega) (by omega) hk, spl1_hi h2 (by omega) (by omega) hk]
theorem why_room {m : Int → Int} {t words : Int} (h : whyM m t words = 0) : roomM m (szM words) := by
  unfold whyM at h
  unfold roomM
  have hs := szM_rg words
  split at h
  · omega
  · split at h
    · omega
    · split at h
      · omega
      · rename_i h3
        rcases hs with e | e | e <;> rw [e] at h3 ⊢ <;> simp only [Int.reduceMul] <;> omega
