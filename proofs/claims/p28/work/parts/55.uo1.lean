/-! class and reference side by side -/
/-- an owned block was used no later than now -/
def UO (m : Int → Int) : Prop := ∀ w, 0 ≤ w → w < 64 → owd m w → m (384 + w) ≤ m 466
abbrev RW (K : Int) (μ : Int → Int → Int) (b : Int) (m : Int → Int) : Prop := RS μ b m ∧ MW K m ∧ ML m ∧ UO m
theorem RW.ri {K : Int} {μ : Int → Int → Int} {m : Int → Int} (h : RW K μ 1 m) : RI K μ m := ⟨h.1, h.2.1, h.2.2.1⟩
theorem RW.fr {K : Int} {μ μ' : Int → Int → Int} {b : Int} {m : Int → Int} (h : RW K μ b m) (e : ∀ o k, b ≤ o → o < b + 26 → μ' o k = μ o k) : RW K μ' b m := ⟨RS_fr h.1 e, h.2⟩
theorem RW.mono {K K' : Int} {μ : Int → Int → Int} {b : Int} {m : Int → Int} (h : RW K μ b m) (h1 : K ≤ K') (h2 : K' ≤ 500000000) : RW K' μ b m := ⟨h.1, MW_mono h.2.1 h1 h2, h.2.2⟩
theorem RW.cp {K : Int} {μ : Int → Int → Int} {b c : Int} {m : Int → Int} (h : RW K μ c m) (hd : b + 26 ≤ c ∨ c + 26 ≤ b) (hg : bgS μ b) : RW K (cS μ b c) b m := ⟨RS_cp hd hg h.1, h.2⟩
def hAt (μ : Int → Int → Int) (j : Int) : Int := 81 + 26 * ((μ 79 1 + 3 - j) % 4)
theorem hAt_rg (μ : Int → Int → Int) (j : Int) : 81 ≤ hAt μ j ∧ hAt μ j + 26 ≤ 185 ∧ stB (hAt μ j) := by
  unfold hAt
  have a : 0 ≤ (μ 79 1 + 3 - j) % 4 ∧ (μ 79 1 + 3 - j) % 4 < 4 := by omega
  exact ⟨by omega, by omega, stB_h a.1 a.2⟩