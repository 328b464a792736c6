/-! what the State's methods leave alone -/
def Fr (μ μ' : Int → Int → Int) : Prop := ∀ o k, (o < 1 ∨ 27 ≤ o) → μ' o k = μ o k
theorem Fr.rfl {μ : Int → Int → Int} : Fr μ μ := fun _ _ _ => Eq.refl _
theorem Fr.tr {μ μ' ν : Int → Int → Int} (h : Fr μ μ') (h' : Fr μ' ν) : Fr μ ν := fun o k a => (h' o k a).trans (h o k a)
theorem Fr.up {μ μ' : Int → Int → Int} {o k v : Int} (h : Fr μ μ') (h0 : 1 ≤ o) (h1 : o < 27) : Fr μ (upM μ' o k v) := fun o' k' a => by
  rw [upM_ne (Or.inl (by omega))]
  exact h o' k' a
theorem Fr_jC {μ : Int → Int → Int} {l h z : Int} (l0 : 0 ≤ l ∧ l < 16) (h0 : 0 ≤ h ∧ h < 16) : Fr μ (jC μ l h z) := ((Fr.rfl.up (by omega) (by omega)).up (by omega) (by omega)).up (by decide) (by decide)
theorem lP_rg {m : Int → Int} {i : Int} (h0 : 0 ≤ i) (h1 : i < 16) (hz : m (128 + 4 * i) = 4 ∨ m (128 + 4 * i) = 8) : (0 ≤ lP m i ∧ lP m i < 16) ∧ (0 ≤ hP m i ∧ hP m i < 16) ∧ 4 * lP m i = lwM m (4 * i) := by
  have g := lw_rg (m := m) (w := 4 * i) (z := m (128 + 4 * i)) (by omega) (by omega) hz rfl
  unfold lP hP
  rcases hz with e | e
  · rw [e] at g ⊢
    omega
  · rw [e] at g ⊢
    omega
theorem Fr_jo1 {μ : Int → Int → Int} {m : Int → Int} {i : Int} (h0 : 0 ≤ i) (h1 : i < 16) (hz : m (128 + 4 * i) = 8) : Fr μ (jo1 μ m i) := by
  obtain ⟨a, b, -⟩ := lP_rg h0 h1 (Or.inr hz)
  unfold jo1
  split
  · exact Fr_jC a b
  · exact Fr.rfl
theorem Fr_jo0 {μ : Int → Int → Int} {m : Int → Int} {i : Int} (h0 : 0 ≤ i) (h1 : i < 16) (hz : m (128 + 4 * i) = 4) : Fr μ (jo0 μ m i) := by
  obtain ⟨a, b, c⟩ := lP_rg h0 h1 (Or.inl hz)
  unfold jo0
  split
  · refine (Fr_jC a b).tr (Fr_jo1 a.1 a.2 ?_)
    rw [c]
    exact js_lw (by omega) (by omega) (Or.inl rfl) hz
  · exact Fr.rfl
theorem Fr_joC {μ : Int → Int → Int} {m : Int → Int} {i : Int} (h0 : 0 ≤ i) (h1 : i < 16) : Fr μ (joC μ m i) := by
  unfold joC
  split
  · rename_i e
    exact Fr_jo0 h0 h1 e
  · split
    · rename_i e
      exact Fr_jo1 h0 h1 e
    · exact Fr.rfl
theorem Fr_frC {μ : Int → Int → Int} {m : Int → Int} {i : Int} (h0 : 0 ≤ i) (h1 : i < 16) : Fr μ (frC μ m i) := by
  have h : Fr μ (f0C μ m i) := by
    unfold f0C
    refine Fr.up ?_ (by omega) (by omega)
    refine Fr.tr (μ' := upM μ 1 8 (μ 1 8 + brkM m (4 * i))) (Fr.rfl.up (by decide) (by decide)) (fun o k a => zC_o (by omega))
  exact h.tr (Fr_joC h0 h1)
theorem Fr_slC : ∀ (n : Nat) (i : Int) (μ : Int → Int → Int) (m : Int → Int), 0 ≤ i → i + n = 16 → Fr μ (slC n i μ m)
  | 0, _, _, _ => fun _ _ => Fr.rfl
  | n + 1, i, μ, m => fun h0 h1 => by
    by_cases h : lkM m (4 * i)
    · rw [slC_y h]
      exact (Fr_frC h0 (by omega)).tr (Fr_slC n (i + 1) _ _ (by omega) (by omega))
    · rw [slC_n h]
      exact Fr_slC n (i + 1) _ _ (by omega) (by omega)
theorem Fr_hlC {μ : Int → Int → Int} {i j s : Int} (i0 : 0 ≤ i ∧ i < 16) (j0 : 0 ≤ j ∧ j < 16) : Fr μ (hlC μ i j s) := ((Fr.rfl.up (by omega) (by omega)).up (by omega) (by omega)).up (by decide) (by decide)
theorem Fr_cutC {μ : Int → Int → Int} {m : Int → Int} {z i : Int} (hz : 0 ≤ z ∧ z ≤ 2) (i0 : 0 ≤ i) (hi : 4 * i + hvM m (p4 z) ≤ 64) (hv : hvM m (p4 z) = p4 z ∨ hvM m (p4 z) = 2 * p4 z ∨ (hvM m (p4 z) = 4 * p4 z ∧ p4 z < 8)) : Fr μ (cutC μ m z i) := by
  have hp := p4_rg (z := z)
  unfold cutC
  split
  · exact Fr.rfl
  · split
    · exact Fr_hlC ⟨by omega, by omega⟩ ⟨by omega, by omega⟩
    · exact (Fr_hlC ⟨by omega, by omega⟩ ⟨by omega, by omega⟩).tr (Fr_hlC ⟨by omega, by omega⟩ ⟨by omega, by omega⟩)
theorem Fr_grC {μ : Int → Int → Int} {i t words : Int} (i0 : 0 ≤ i ∧ i < 16) : Fr μ (grC μ i t words) := ((((Fr.rfl.up (by omega) (by omega)).up (by omega) (by omega)).up (by omega) (by omega)).up (by omega) (by omega)).up (by decide) (by decide)
theorem Fr_ask {K : Int} {μ : Int → Int → Int} {m : Int → Int} {t words i : Int} (hR : RI K μ m) (h : askFM m t words = 0) (hi : askW m words = 4 * i) : Fr μ (grC (cutC μ m (szC words) i) i t words) := by
  have hq := wr_room h
  have hroom := why_room hq.1
  have hs := szM_rg words
  obtain ⟨r1, r2, r3, -, -⟩ := room_rg hR.2.1 (szM_rg words) hroom
  have hi2 : lowF m (hvM m (szM words)) = 4 * i := hi
  rw [hi2] at r2 r3
  refine (Fr_cutC (szC_rg words) (by omega) (by rw [p4_szC]; exact r3) (by rw [p4_szC]; omega)).tr (Fr_grC ⟨by omega, by omega⟩)

