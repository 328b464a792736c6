def wrFM (m : Int → Int) (t b i v : Int) : Int :=
  if (t < 0 ∨ 5 < t) ∨ begOf m b = -5 then -1 else if (i < -64 ∨ 64 < i) ∨ (v < 1 ∨ 99 < v) then -2
  else if m (256 + begOf m b) ≠ t ∨ m (448 + t) = 1 ∨ (begOf m b + 1 + i < 0 ∨ 63 < begOf m b + 1 + i) then -4 else 0
theorem wrFM_c (m : Int → Int) (t b i v : Int) : (wrFM m t b i v = -1 ∨ wrFM m t b i v = -2 ∨ wrFM m t b i v = -4) ∨ (wrFM m t b i v = 0 ∧ (0 ≤ t ∧ t ≤ 5) ∧ begOf m b ≠ -5 ∧ (-64 ≤ i ∧ i ≤ 64) ∧ (1 ≤ v ∧ v ≤ 99) ∧ m (256 + begOf m b) = t ∧ m (448 + t) ≠ 1 ∧ 0 ≤ begOf m b + 1 + i ∧ begOf m b + 1 + i ≤ 63) := by
  unfold wrFM
  split
  · exact Or.inl (Or.inl rfl)
  · split
    · exact Or.inl (Or.inr (Or.inl rfl))
    · split
      · exact Or.inl (Or.inr (Or.inr rfl))
      · exact Or.inr ⟨rfl, by omega, by omega, by omega, by omega, by omega, by omega, by omega, by omega⟩
/-- the block is used now -/
def wuM (m : Int → Int) (w : Int) : Int → Int := up1 m (384 + w) (m 466)
/-- and a word written -/
def wvM (m : Int → Int) (w word v : Int) : Int → Int := up1 (wuM m w) (0 + word) v
/-- and a guard broken -/
def wbM (f : Int → Int) (t word : Int) : Int → Int := up1 (up1 f (460 + t) (f (460 + t) + (if f (64 + word) = 1 then 0 else 1))) (64 + word) 1
theorem MW_wu {K : Int} {m : Int → Int} (hW : MW K m) {w : Int} (h0 : 0 ≤ w) (h1 : w < 64) : MW K (wuM m w) := by
  have hc := hW.2.2.1
  exact MW_up hW ⟨by omega, by omega, by omega, by omega, by omega, by omega, by omega, by omega, by omega, by omega, by omega, by omega, by omega⟩
theorem MW_wv {K : Int} {m : Int → Int} (hW : MW K m) {w word v : Int} (h0 : 0 ≤ w) (h1 : w < 64) (h2 : 0 ≤ word) (h3 : word < 64) : MW K (wvM m w word v) :=
  MW_up (MW_wu hW h0 h1) ⟨by omega, by omega, by omega, by omega, by omega, by omega, by omega, by omega, by omega, by omega, by omega, by omega, by omega⟩
