/-! the steps of both sides: what they share -/
theorem UO_of {m m' : Int → Int} (h : UO m) (e1 : ∀ u, 0 ≤ u → u < 64 → owd m' u → owd m u ∧ m' (384 + u) = m (384 + u)) (e2 : m' 466 = m 466) : UO m' := fun u u0 u1 ho => by
  have a := e1 u u0 u1 ho
  have b := h u u0 u1 a.1
  rw [a.2, e2]
  exact b
theorem UO_up {m : Int → Int} (h : UO m) {k v : Int} (hk : k < 128 ∨ (448 ≤ k ∧ k ≠ 466)) : UO (up1 m k v) :=
  UO_of h (fun u u0 u1 ho => by
    unfold owd at ho
    rw [up1_ne (by omega), up1_ne (by omega)] at ho
    exact ⟨ho, up1_ne (by omega)⟩) (up1_ne (by omega))
theorem UO_touch {m : Int → Int} (h : UO m) {j : Int} (j0 : 0 ≤ j) (j1 : j < 64) : UO (up1 m (384 + j) (m 466)) := fun u u0 u1 ho => by
  unfold owd at ho
  rw [up1_ne (by omega), up1_ne (by omega)] at ho
  rw [up1_ne (show (466 : Int) ≠ 384 + j by omega)]
  by_cases e : u = j
  · rw [e, up1_at]
    exact Int.le_refl _
  · rw [up1_ne (by omega)]
    exact h u u0 u1 ho
theorem UO_clock {m : Int → Int} (h : UO m) {v : Int} (hv : m 466 ≤ v) : UO (up1 m 466 v) := fun u u0 u1 ho => by
  unfold owd at ho
  rw [up1_ne (by omega), up1_ne (by omega)] at ho
  have := h u u0 u1 ho
  rw [up1_at, up1_ne (by omega)]
  omega
theorem UO_spl {m : Int → Int} (h : UO m) {w z : Int} (hz : 0 < z) (w0 : 0 ≤ w) (hf : fre m w) (w1 : w + 2 * z ≤ 64) : UO (spl1 m w z) := by
  refine UO_of h (fun u u0 u1 ho => ?_) ?_
  · unfold owd spl1 at ho
    have q1 : u ≠ w + z := fun e => by
      have := ho.2
      rw [up1_ne (by omega), show 192 + u = 192 + w + z by omega, up1_at] at this
      exact this rfl
    have q2 : m (192 + u) ≠ -5 := by
      have := ho.2
      rw [up1_ne (by omega), up1_ne (by omega), up1_ne (by omega), up1_ne (by omega)] at this
      exact this
    have q3 : u ≠ w := fun e => by
      rw [e] at q2
      exact q2 hf.2
    have q4 := ho.1
    rw [up1_ne (by omega), up1_ne (by omega), up1_ne (by omega), up1_ne (by omega)] at q4
    exact ⟨⟨q4, q2⟩, spl1_hi w0 hz w1 (by omega)⟩
  · exact spl1_hi w0 hz w1 (by decide)
theorem UO_tak {K : Int} {m : Int → Int} (hW : MW K m) (h : UO m) {z : Int} (hz : z = 4 ∨ z = 8 ∨ z = 16) (hr : roomM m z) : UO (takM m z) := by
  obtain ⟨h1, h2, h3, h4, h5⟩ := room_rg hW hz hr
  rcases h1 with e | ⟨e, z1⟩ | ⟨e, z1⟩
  · rw [tak_1 e]
    exact h
  · rw [tak_2 (by omega) e]
    rw [e] at h2 h3 h4
    exact UO_spl h (by omega) h2 h4 (by omega)
  · rw [tak_3 (by omega) e]
    rw [e] at h2 h3 h4 h5
    refine UO_spl (UO_spl h (by omega) h2 h4 (by omega)) (by omega) h2 ?_ (by omega)
    unfold spl1
    constructor
    · rw [up1_ne (by omega), up1_ne (by omega), up1_ne (by omega), up1_at]
      omega
    · rw [up1_ne (by omega), up1_ne (by omega), up1_ne (by omega), up1_ne (by omega)]
      exact h4.2
theorem UO_ask {K : Int} {m : Int → Int} (hW : MW K m) (h : UO m) {t words : Int} (hf : askFM m t words = 0) : UO (askM m t words) := by
  have hr := why_room (wr_room hf).1
  have hu := UO_tak hW h (szM_rg words) hr
  have hh := takM_hi hW (szM_rg words) hr (k := 466) (by decide)
  obtain ⟨-, h2, h3, -, -⟩ := room_rg hW (szM_rg words) hr
  have hs := szM_rg words
  have h2' : 0 ≤ askW m words := h2
  have h3' : askW m words < 64 := by
    have : askW m words + hvM m (szM words) ≤ 64 := h3
    have hv : 0 < hvM m (szM words) := by
      unfold hvM
      split
      · omega
      · split <;> omega
    omega
  unfold askM
  generalize takM m (szM words) = f at hu hh ⊢
  generalize askW m words = w at h2' h3' ⊢
  intro u u0 u1 ho
  have e4 : up1 (up1 (up1 (up1 (up1 f (192 + w) (m 471)) (256 + w) t) (320 + w) words) (384 + w) (m 466)) 471 (m 471 + 1) 466 = m 466 := by
    rw [up1_ne (by omega), up1_ne (by omega), up1_ne (by omega), up1_ne (by omega), up1_ne (by omega), hh]
  rw [e4, up1_ne (show 384 + u ≠ 471 by omega)]
  by_cases e : u = w
  · rw [e, up1_at]
    exact Int.le_refl _
  · unfold owd at ho
    rw [up1_ne (by omega), up1_ne (by omega), up1_ne (by omega), up1_ne (by omega), up1_ne (by omega), up1_ne (by omega), up1_ne (by omega), up1_ne (by omega), up1_ne (by omega), up1_ne (by omega)] at ho
    rw [up1_ne (by omega), up1_ne (by omega), up1_ne (by omega), up1_ne (by omega), ← hh]
    exact hu u u0 u1 ho
theorem UO_js {m : Int → Int} (h : UO m) {w z : Int} (w0 : 0 ≤ w) (w1 : w < 64) (hz : z = 4 ∨ z = 8) (hm : m (128 + w) = z) (hj : jcM m w) : UO (jsM m w) := by
  have g := lw_rg w0 w1 hz hm
  have hj2 := (jc_iff (z := m (128 + w)) rfl).mp hj
  refine UO_of h (fun u u0 u1 ho => ?_) ?_
  · unfold owd jsM at ho
    have q2 := ho.2
    rw [up1_ne (by omega), up1_ne (by omega), up1_ne (by omega)] at q2
    have q3 : u ≠ lwM m w := fun e => by
      rw [e] at q2
      exact q2 hj2.1.2
    have q4 := ho.1
    by_cases e : u = lwM m w + m (128 + w)
    · rw [up1_ne (by omega), show 128 + u = 128 + (lwM m w + m (128 + w)) by omega, up1_at] at q4
      exact absurd q4 (by decide)
    · rw [up1_ne (by omega), up1_ne (by omega), up1_ne (by omega)] at q4
      refine ⟨⟨q4, q2⟩, ?_⟩
      unfold jsM
      rw [up1_ne (by omega), up1_ne (by omega), up1_ne (by omega)]
  · unfold jsM
    rw [up1_ne (by omega), up1_ne (by omega), up1_ne (by omega)]
theorem UO_jn {m : Int → Int} (h : UO m) {w : Int} (w0 : 0 ≤ w) (w1 : w < 64) : UO (jnM m w) := by
  have h8 : ∀ (m : Int → Int) (w : Int), UO m → 0 ≤ w → w < 64 → m (128 + w) = 8 → UO (jn8 m w) := fun m w h w0 w1 e => by
    unfold jn8
    split
    · rename_i hj
      exact UO_js h w0 w1 (Or.inr rfl) e hj
    · exact h
  unfold jnM
  split
  · rename_i e
    have g := lw_rg w0 w1 (Or.inl rfl) e
    unfold jn4
    split
    · rename_i hj
      exact h8 _ _ (UO_js h w0 w1 (Or.inl rfl) e hj) (by omega) (by omega) (js_lw w0 w1 (Or.inl rfl) e)
    · exact h
  · split
    · rename_i e
      exact h8 m w h w0 w1 e
    · exact h
theorem UO_fr {m : Int → Int} (h : UO m) {b : Int} (b0 : 0 ≤ b) (b1 : b < 64) (hb : b + m (128 + b) ≤ 64) : UO (frM m b) := by
  unfold frM
  refine UO_jn (UO_of h (fun u u0 u1 ho => ?_) ?_) b0 b1
  · unfold owd at ho
    have e : u ≠ b := fun e => by
      rw [e] at ho
      exact ho.2 fr0_n
    rw [fr0_k (by omega) (by omega) (by omega), fr0_k (by omega) (by omega) (by omega)] at ho
    exact ⟨ho, fr0_k (by omega) (by omega) (by omega)⟩
  · exact fr0_k (by omega) (by omega) (by omega)
theorem UO_sw : ∀ (n : Nat) (w K : Int) (m : Int → Int), MW K m → K + 19 * n ≤ 500000000 → 0 ≤ w → w + n = 64 → UO m → UO (swM n w m)
  | 0, _, _, _ => fun _ _ _ _ h => h
  | n + 1, w, K, m => fun hW hK w0 w1 h => by
    by_cases hl : lkM m w
    · rw [swM_y hl]
      exact UO_sw n (w + 1) (K + 19) _ (MW_fr hW (by omega) w0 (by omega)) (by omega) (by omega) (by omega) (UO_fr h w0 (by omega) ((hW.1 w w0 (by omega)).2.2.2.2.2.2.2))
    · rw [swM_n hl]
      exact UO_sw n (w + 1) K m hW (by omega) (by omega) (by omega) h

