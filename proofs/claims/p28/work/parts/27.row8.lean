/-! the reference: frees, passes, sweeps as contracts; the bounds stay -/
theorem MW_clr {K : Int} {m : Int → Int} (hW : MW K m) {b j : Int} (h0 : 0 ≤ b) (h1 : b + j ≤ 64) : MW K (clrM m b j) := by
  obtain ⟨g1, g2, g3, g4, g5, g6, g7, g8, g9, g10⟩ := hW
  have hi : ∀ k, 128 ≤ k → clrM m b j k = m k := fun k hk => clr_ne (by omega)
  refine ⟨fun w w0 w1 => ?_, fun t t0 t1 => ?_, ?_, ?_, ?_, ?_, ?_, ?_, g9, ?_⟩
  · obtain ⟨b1, bb⟩ := g1 w w0 w1
    rw [hi (128 + w) (by omega), hi (192 + w) (by omega), hi (256 + w) (by omega), hi (320 + w) (by omega), hi (384 + w) (by omega)]
    refine ⟨?_, bb⟩
    unfold clrM
    split
    · omega
    · exact b1
  · rw [hi (448 + t) (by omega), hi (454 + t) (by omega), hi (460 + t) (by omega)]
    exact g2 t t0 t1
  · rw [hi 466 (by omega)]; exact g3
  · rw [hi 467 (by omega)]; exact g4
  · rw [hi 468 (by omega)]; exact g5
  · rw [hi 469 (by omega)]; exact g6
  · rw [hi 470 (by omega)]; exact g7
  · rw [hi 471 (by omega)]; exact g8
  · rw [hi 128 (by omega)]; exact g10
theorem MW_js {K : Int} {m : Int → Int} (hW : MW K m) (hK : K + 1 ≤ 500000000) {w z : Int} (h0 : 0 ≤ w) (h1 : w < 64) (hz : z = 4 ∨ z = 8) (hm : m (128 + w) = z) : MW (K + 1) (jsM m w) := by
  have hl := lw_rg h0 h1 hz hm
  have hj := hW.2.2.2.2.2.1
  have h128 : m 469 = m 469 := rfl
  unfold jsM
  rw [hm]
  have hW := MW_mono hW (K' := K + 1) (by omega) hK
  exact MW_up (MW_up (MW_up hW (k := 128 + lwM m w) (v := 2 * z) ⟨by omega, by omega, by omega, by omega, by omega, by omega, by omega, by omega, by omega, by omega, by omega, by omega, by omega⟩)
    (k := 128 + (lwM m w + z)) (v := 0) ⟨by omega, by omega, by omega, by omega, by omega, by omega, by omega, by omega, by omega, by omega, by omega, by omega, by omega⟩)
    (k := 469) (v := m 469 + 1) ⟨by omega, by omega, by omega, by omega, by omega, by omega, by omega, by omega, by omega, by omega, by omega, by omega, by omega⟩
theorem MW_jn {K : Int} {m : Int → Int} (hW : MW K m) (hK : K + 2 ≤ 500000000) {w : Int} (h0 : 0 ≤ w) (h1 : w < 64) : MW (K + 2) (jnM m w) := by
  have h8 : ∀ (K : Int) (m : Int → Int), MW K m → K + 1 ≤ 500000000 → ∀ w, 0 ≤ w → w < 64 → m (128 + w) = 8 → MW (K + 1) (jn8 m w) := by
    intro K m hW hK w h0 h1 hm
    unfold jn8
    split
    · exact MW_js hW hK h0 h1 (Or.inr rfl) hm
    · exact MW_mono hW (by omega) hK
  unfold jnM
  split
  · rename_i hm
    have hl := lw_rg h0 h1 (Or.inl rfl) hm
    unfold jn4
    split
    · have h := h8 (K + 1) (jsM m w) (MW_js hW (by omega) h0 h1 (Or.inl rfl) hm) (by omega) (lwM m w) (by omega) (by omega) (js_lw h0 h1 (Or.inl rfl) hm)
      rw [show K + 1 + 1 = K + 2 by omega] at h
      exact h
    · exact MW_mono hW (by omega) hK
  · split
    · rename_i hm
      exact MW_mono (h8 K m hW (by omega) w h0 h1 hm) (by omega) hK
    · exact MW_mono hW (by omega) hK
theorem brkM_rg {K : Int} {m : Int → Int} (hW : MW K m) {b : Int} (h0 : 0 ≤ b) (h1 : b < 64) : 0 ≤ brkM m b ∧ brkM m b ≤ 17 := by
  have a1 := (hW.1 b h0 h1).1
  have a2 := brk_bd hW h0 h1
  unfold brkM
  omega
theorem MW_fr0 {K : Int} {m : Int → Int} (hW : MW K m) (hK : K + 17 ≤ 500000000) {b : Int} (h0 : 0 ≤ b) (h1 : b < 64) : MW (K + 17) (fr0M m b) := by
  have a := brkM_rg hW h0 h1
  have f := hW.2.2.2.2.2.2.1
  have hb := (hW.1 b h0 h1).2.2.2.2.2.2.2
  have hW := MW_mono hW (K' := K + 17) (by omega) hK
  unfold fr0M
  exact MW_up (MW_clr (MW_up hW (k := 470) (v := m 470 + brkM m b) ⟨by omega, by omega, by omega, by omega, by omega, by omega, by omega, by omega, by omega, by omega, by omega, by omega, by omega⟩) h0 hb)
    (k := 192 + b) (v := -5) ⟨by omega, by omega, by omega, by omega, by omega, by omega, by omega, by omega, by omega, by omega, by omega, by omega, by omega⟩
theorem MW_fr {K : Int} {m : Int → Int} (hW : MW K m) (hK : K + 19 ≤ 500000000) {b : Int} (h0 : 0 ≤ b) (h1 : b < 64) : MW (K + 19) (frM m b) := by
  have h := MW_jn (MW_fr0 hW (by omega) h0 h1) (by omega) h0 h1
  rw [show K + 17 + 2 = K + 19 by omega] at h
  exact h
def swM : Nat → Int → (Int → Int) → Int → Int
  | 0, _, m => m
  | n + 1, w, m => swM n (w + 1) (if lkM m w then frM m w else m)
def swN : Nat → Int → (Int → Int) → Int
  | 0, _, _ => 0
  | n + 1, w, m => (if lkM m w then 1 else 0) + swN n (w + 1) (if lkM m w then frM m w else m)
theorem swM_y {n : Nat} {w : Int} {m : Int → Int} (h : lkM m w) : swM (n + 1) w m = swM n (w + 1) (frM m w) := by
  show swM n (w + 1) (if lkM m w then frM m w else m) = _
  rw [if_pos h]
theorem swM_n {n : Nat} {w : Int} {m : Int → Int} (h : ¬ lkM m w) : swM (n + 1) w m = swM n (w + 1) m := by
  show swM n (w + 1) (if lkM m w then frM m w else m) = _
  rw [if_neg h]
theorem swN_y {n : Nat} {w : Int} {m : Int → Int} (h : lkM m w) : swN (n + 1) w m = 1 + swN n (w + 1) (frM m w) := by
  show (if lkM m w then 1 else 0) + swN n (w + 1) (if lkM m w then frM m w else m) = _
  rw [if_pos h, if_pos h]
theorem swN_n {n : Nat} {w : Int} {m : Int → Int} (h : ¬ lkM m w) : swN (n + 1) w m = swN n (w + 1) m := by
  show (if lkM m w then 1 else 0) + swN n (w + 1) (if lkM m w then frM m w else m) = _
  rw [if_neg h, if_neg h, Int.zero_add]
def psM (m : Int → Int) (ticks : Int) : Int → Int := up1 m 466 (m 466 + ticks)
