/-! the relation kept: one word of it written -/
theorem RI_touch {K : Int} {μ : Int → Int → Int} {m : Int → Int} (hR : RI K μ m) {j v : Int} (j0 : 0 ≤ j) (j1 : j < 16) (hv : 0 ≤ v ∧ v ≤ 9999) : RI K (upM μ (3 + j) 5 v) (up1 m (384 + 4 * j) v) :=
  ⟨RS_use hR.1 j0 j1, MW_up hR.2.1 ⟨by omega, by omega, by omega, by omega, by omega, by omega, by omega, by omega, by omega, by omega, by omega, by omega, by omega⟩, ML_hi hR.2.2 (by omega)⟩
theorem RI_clock {K : Int} {μ : Int → Int → Int} {m : Int → Int} (hR : RI K μ m) {v : Int} (hv : 0 ≤ v ∧ v ≤ 9999) : RI K (upM μ 1 3 v) (up1 m 466 v) :=
  ⟨RS_1 hR.1 (Or.inl ⟨rfl, rfl⟩), MW_up hR.2.1 ⟨by omega, by omega, by omega, by omega, by omega, by omega, by omega, by omega, by omega, by omega, by omega, by omega, by omega⟩, ML_hi hR.2.2 (by omega)⟩
theorem RI_pat {K : Int} {μ : Int → Int → Int} {m : Int → Int} (hR : RI K μ m) {v : Int} (hv : 1 ≤ v ∧ v ≤ 500) : RI K (upM μ 1 4 v) (up1 m 467 v) :=
  ⟨RS_1 hR.1 (Or.inr (Or.inl ⟨rfl, rfl⟩)), MW_up hR.2.1 ⟨by omega, by omega, by omega, by omega, by omega, by omega, by omega, by omega, by omega, by omega, by omega, by omega, by omega⟩, ML_hi hR.2.2 (by omega)⟩
theorem RI_lim {K : Int} {μ : Int → Int → Int} {m : Int → Int} (hR : RI K μ m) {t v : Int} (t0 : 0 ≤ t) (t1 : t < 6) (hv : 0 ≤ v ∧ v ≤ 64) : RI K (upM μ (21 + t) 1 v) (up1 m (454 + t) v) :=
  ⟨RS_tsk hR.1 t0 t1 (Or.inr (Or.inl ⟨rfl, rfl, rfl⟩)), MW_up hR.2.1 ⟨by omega, by omega, by omega, by omega, by omega, by omega, by omega, by omega, by omega, by omega, by omega, by omega, by omega⟩, ML_hi hR.2.2 (by omega)⟩
theorem RI_live {K : Int} {μ : Int → Int → Int} {m : Int → Int} (hR : RI K μ m) {t v v' : Int} (t0 : 0 ≤ t) (t1 : t < 6) (hv : 0 ≤ v' ∧ v' ≤ 1) (e : v = 1 - v') : RI K (upM μ (21 + t) 0 v) (up1 m (448 + t) v') :=
  ⟨RS_tsk hR.1 t0 t1 (Or.inl ⟨rfl, rfl, e⟩), MW_up hR.2.1 ⟨by omega, by omega, by omega, by omega, by omega, by omega, by omega, by omega, by omega, by omega, by omega, by omega, by omega⟩, ML_hi hR.2.2 (by omega)⟩
theorem RI_hit {K : Int} {μ : Int → Int → Int} {m : Int → Int} (hR : RI K μ m) {t v : Int} (t0 : 0 ≤ t) (t1 : t < 6) (hv : 0 ≤ v ∧ v ≤ K) : RI K (upM μ (21 + t) 2 v) (up1 m (460 + t) v) :=
  ⟨RS_tsk hR.1 t0 t1 (Or.inr (Or.inr ⟨rfl, rfl, rfl⟩)), MW_up hR.2.1 ⟨by omega, by omega, by omega, by omega, by omega, by omega, by omega, by omega, by omega, by omega, by omega, by omega, by omega⟩, ML_hi hR.2.2 (by omega)⟩
theorem RI.mono {K K' : Int} {μ : Int → Int → Int} {m : Int → Int} (hR : RI K μ m) (h : K ≤ K') (h' : K' ≤ 500000000) : RI K' μ m := ⟨hR.1, MW_mono hR.2.1 h h', hR.2.2⟩
/-- a word that is no guard, in an owned block -/
theorem RI_wv {K : Int} {μ : Int → Int → Int} {m : Int → Int} (hR : RI K μ m) {w v : Int} (w0 : 0 ≤ w) (w1 : w < 64) (hf : ¬ fre m (bgn m w)) (hg : ¬ grdM m w) : RI K (upM μ 19 w v) (up1 m (0 + w) v) := by
  refine ⟨RS_val hR.1 w0 w1, MW_up hR.2.1 ⟨by omega, by omega, by omega, by omega, by omega, by omega, by omega, by omega, by omega, by omega, by omega, by omega, by omega⟩, ?_⟩
  obtain ⟨j, e, j0, j1, h0, h1, hu⟩ := tile hR.2.1 hR.2.2 w0 w1
  rw [e] at hf
  unfold grdM at hg
  rw [e] at hg
  obtain ⟨a1, a2, a3, a4⟩ := hR.2.2
  have kk : ∀ k, k ≠ 0 + w → up1 m (0 + w) v k = m k := fun k a => up1_ne a
  have b64 : ∀ u, 0 ≤ u → u < 64 → u + m (128 + u) ≤ 64 := fun u u0 u1 => (hR.2.1.1 u u0 u1).2.2.2.2.2.2.2
  have hun : ∀ u, 0 ≤ u → u < 64 → 0 < m (128 + u) → u ≤ w → w < u + m (128 + u) → u = 4 * j := fun u u0 u1 up ul ur => by
    by_cases q : u % 4 = 0
    · have := hu (u / 4) (by omega) (by omega) (by omega) (by rw [show 4 * (u / 4) = u by omega]; omega)
      omega
    · have := a1 u u0 u1 q
      omega
  refine ⟨fun u u0 u1 u2 => ?_, fun c c0 c1 c2 => ?_, fun u u0 u1 u2 => ?_, fun u q u0 u1 u2 q0 q1 => ?_⟩
  · rw [kk _ (by omega)]
    exact a1 u u0 u1 u2
  · rw [kk _ (by omega), kk _ (by omega), kk _ (by omega), kk _ (by omega)]
    exact a2 c c0 c1 c2
  · have e1 : up1 m (0 + w) v (128 + u) = m (128 + u) := kk _ (by omega)
    have e2 : up1 m (0 + w) v (192 + u) = m (192 + u) := kk _ (by omega)
    have ho : owd m u := by omega
    have b := a3 u u0 u1 ho
    have b' := b64 u u0 u1
    have n1 : u ≠ 0 + w := fun q => hg (by
      have := hun u u0 u1 ho.1 (by omega) (by have := ho.1; omega)
      rw [← this]
      exact ⟨ho, Or.inl (by omega)⟩)
    have n2 : u + m (320 + u) + 1 ≠ 0 + w := fun q => hg (by
      have := hun u u0 u1 ho.1 (by omega) (by omega)
      rw [← this]
      exact ⟨ho, Or.inr (by omega)⟩)
    rw [e1, kk (320 + u) (by omega), kk (64 + u) (by omega), kk u n1, kk (64 + u + m (320 + u) + 1) (by omega), kk (u + m (320 + u) + 1) n2]
    exact b
  · have e1 : up1 m (0 + w) v (128 + u) = m (128 + u) := kk _ (by omega)
    have e2 : up1 m (0 + w) v (192 + u) = m (192 + u) := kk _ (by omega)
    have hfu : fre m u := by omega
    have b' := b64 u u0 u1
    have n1 : u + q ≠ 0 + w := fun z => hf (by
      have := hun u u0 u1 hfu.1 (by omega) (by omega)
      rw [← this]
      exact hfu)
    rw [kk (u + q) n1, kk (64 + (u + q)) (by omega)]
    exact a4 u q u0 u1 hfu q0 (by omega)
/-- a guard -/
theorem RI_wb {K : Int} {μ : Int → Int → Int} {m : Int → Int} (hR : RI K μ m) {w v : Int} (w0 : 0 ≤ w) (w1 : w < 64) (hv : v ≠ 0) (hg : grdM m w) : RI K (upM μ 19 w v) (up1 (up1 m (0 + w) v) (64 + w) 1) := by
  refine ⟨RS_brk (RS_val hR.1 w0 w1) w0 w1, MW_up (MW_up hR.2.1 ⟨by omega, by omega, by omega, by omega, by omega, by omega, by omega, by omega, by omega, by omega, by omega, by omega, by omega⟩) ⟨by omega, by omega, by omega, by omega, by omega, by omega, by omega, by omega, by omega, by omega, by omega, by omega, by omega⟩, ?_⟩
  obtain ⟨j, e, j0, j1, h0, h1, hu⟩ := tile hR.2.1 hR.2.2 w0 w1
  unfold grdM at hg
  rw [e] at hg
  obtain ⟨a1, a2, a3, a4⟩ := hR.2.2
  have kk : ∀ k, k ≠ w → k ≠ 64 + w → up1 (up1 m (0 + w) v) (64 + w) 1 k = m k := fun k a b => by
    rw [up1_ne b, up1_ne (by omega)]
  have kw : up1 (up1 m (0 + w) v) (64 + w) 1 w = v := by
    rw [up1_ne (by omega), Int.zero_add, up1_at]
  have kb : up1 (up1 m (0 + w) v) (64 + w) 1 (64 + w) = 1 := up1_at
  generalize up1 (up1 m (0 + w) v) (64 + w) 1 = m' at kk kw kb ⊢
  have b64 : ∀ u, 0 ≤ u → u < 64 → u + m (128 + u) ≤ 64 := fun u u0 u1 => (hR.2.1.1 u u0 u1).2.2.2.2.2.2.2
  have hun : ∀ u, 0 ≤ u → u < 64 → 0 < m (128 + u) → u ≤ w → w < u + m (128 + u) → u = 4 * j := fun u u0 u1 up ul ur => by
    by_cases q : u % 4 = 0
    · have := hu (u / 4) (by omega) (by omega) (by omega) (by rw [show 4 * (u / 4) = u by omega]; omega)
      omega
    · have := a1 u u0 u1 q
      omega
  have key : ∀ k, 0 ≤ k → k < 64 → m (64 + k) = b2 (m k ≠ 0) → m' (64 + k) = b2 (m' k ≠ 0) := fun k k0 k1 h => by
    by_cases q : k = w
    · rw [q, kb, kw]
      exact (b2_t hv).symm
    · rw [kk (64 + k) (by omega) (by omega), kk k q (by omega)]
      exact h
  refine ⟨fun u u0 u1 u2 => ?_, fun c c0 c1 c2 => ?_, fun u u0 u1 u2 => ?_, fun u q u0 u1 u2 q0 q1 => ?_⟩
  · rw [kk _ (by omega) (by omega)]
    exact a1 u u0 u1 u2
  · rw [kk _ (by omega) (by omega), kk _ (by omega) (by omega), kk _ (by omega) (by omega), kk _ (by omega) (by omega)]
    exact a2 c c0 c1 c2
  · have e1 : m' (128 + u) = m (128 + u) := kk _ (by omega) (by omega)
    have e2 : m' (192 + u) = m (192 + u) := kk _ (by omega) (by omega)
    have ho : owd m u := by omega
    have b := a3 u u0 u1 ho
    have b' := b64 u u0 u1
    rw [e1, kk (320 + u) (by omega) (by omega)]
    refine ⟨b.1, b.2.1, key u u0 u1 b.2.2.1, ?_⟩
    have := key (u + m (320 + u) + 1) (by omega) (by omega) (by rw [show 64 + (u + m (320 + u) + 1) = 64 + u + m (320 + u) + 1 by omega]; exact b.2.2.2)
    rw [show 64 + (u + m (320 + u) + 1) = 64 + u + m (320 + u) + 1 by omega] at this
    exact this
  · have e1 : m' (128 + u) = m (128 + u) := kk _ (by omega) (by omega)
    have e2 : m' (192 + u) = m (192 + u) := kk _ (by omega) (by omega)
    have hfu : fre m u := by omega
    have b' := b64 u u0 u1
    have n1 : u + q ≠ w := fun z => by
      have := hun u u0 u1 hfu.1 (by omega) (by omega)
      rw [this] at hfu
      exact hg.1.2 hfu.2
    rw [kk (u + q) n1 (by omega), kk (64 + (u + q)) (by omega) (by omega)]
    exact a4 u q u0 u1 hfu q0 (by omega)

