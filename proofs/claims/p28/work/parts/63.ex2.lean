/-! blocks given back: what the law asks of a row stays -/
theorem js_k {m : Int → Int} {w k : Int} (h1 : k ≠ 128 + lwM m w) (h2 : k ≠ 128 + (lwM m w + m (128 + w))) (h3 : k ≠ 469) : jsM m w k = m k := by
  unfold jsM
  rw [up1_ne h3, up1_ne h2, up1_ne h1]
theorem js_h {m : Int → Int} {w z : Int} (h0 : 0 ≤ w) (h1 : w < 64) (hz : z = 4 ∨ z = 8) (hm : m (128 + w) = z) : jsM m w (128 + (lwM m w + z)) = 0 := by
  have h := lw_rg h0 h1 hz hm
  unfold jsM
  rw [hm, up1_ne (by omega), up1_at]
theorem js_9 {m : Int → Int} {w : Int} : jsM m w 469 = m 469 + 1 := by
  unfold jsM
  rw [up1_at]
theorem js_o {m : Int → Int} {w z u : Int} (h0 : 0 ≤ w) (h1 : w < 64) (hz : z = 4 ∨ z = 8) (hm : m (128 + w) = z) (hj : jcM m w) (u0 : 0 ≤ u) (u1 : u < 64) (ho : owd (jsM m w) u) : u ≠ lwM m w ∧ u ≠ lwM m w + z ∧ owd m u := by
  have g := lw_rg h0 h1 hz hm
  have hj2 := (jc_iff hm).mp hj
  have a : u ≠ lwM m w + z := fun e => by
    have := ho.1
    rw [e, js_h h0 h1 hz hm] at this
    omega
  have b : u ≠ lwM m w := fun e => by
    have := ho.2
    rw [e, js_k (by omega) (by omega) (by omega)] at this
    exact this hj2.1.2
  refine ⟨b, a, ?_⟩
  have h1 := ho.1
  have h2 := ho.2
  rw [js_k (by omega) (by omega) (by omega)] at h1 h2
  exact ⟨h1, h2⟩
theorem NB_js {m : Int → Int} {w z : Int} (hn : NB m) (h0 : 0 ≤ w) (h1 : w < 64) (hz : z = 4 ∨ z = 8) (hm : m (128 + w) = z) (hj : jcM m w) : NB (jsM m w) := by
  have g := lw_rg h0 h1 hz hm
  refine ⟨fun u u0 u1 => ?_, fun u u0 u1 ho => ?_, fun u v u0 u1 v0 v1 ho hv e => ?_⟩
  · rw [js_k (by omega) (by omega) (by omega)]
    exact hn.1 u u0 u1
  · obtain ⟨a, b, c⟩ := js_o h0 h1 hz hm hj u0 u1 ho
    rw [js_k (by omega) (by omega) (by omega), js_k (by omega) (by omega) (by omega), js_k (by omega) (by omega) (by omega), js_k (by omega) (by omega) (by omega)]
    exact hn.2.1 u u0 u1 c
  · obtain ⟨a, b, c⟩ := js_o h0 h1 hz hm hj u0 u1 ho
    obtain ⟨a', b', c'⟩ := js_o h0 h1 hz hm hj v0 v1 hv
    rw [js_k (by omega) (by omega) (by omega), js_k (by omega) (by omega) (by omega)] at e
    exact hn.2.2 u v u0 u1 v0 v1 c c' e
theorem lw_al {m : Int → Int} {w z : Int} (h0 : 0 ≤ w) (h1 : w < 64) (hz : z = 4 ∨ z = 8) (hm : m (128 + w) = z) (ha : w % z = 0) : (lwM m w = w ∨ lwM m w + z = w) ∧ lwM m w % (2 * z) = 0 := by
  have g := (lw_rg h0 h1 hz hm).2.2.2
  rcases hz with rfl | rfl <;> omega
theorem TWb_js {m : Int → Int} {w z : Int} (ht : TWb m w) (h0 : 0 ≤ w) (h1 : w < 64) (hz : z = 4 ∨ z = 8) (hm : m (128 + w) = z) (ha : w % z = 0) : TWb (jsM m w) (lwM m w) := fun c y hy c0 c1 hc q => by
  have g := lw_rg h0 h1 hz hm
  have al := (lw_al h0 h1 hz hm ha).1
  by_cases e1 : c = lwM m w
  · exact Or.inl e1
  by_cases e2 : c + y = lwM m w
  · exact Or.inr e2
  exfalso
  have hh := js_h h0 h1 hz hm
  by_cases e3 : c = lwM m w + z
  · have := q.2.1
    rw [e3, hh] at this
    omega
  by_cases e4 : c + y = lwM m w + z
  · have := q.2.2.2
    rw [e4, hh] at this
    omega
  have f : ∀ u, 0 ≤ u → u < 64 → u ≠ lwM m w → u ≠ lwM m w + z → jsM m w (128 + u) = m (128 + u) ∧ jsM m w (192 + u) = m (192 + u) := fun u a b c d => ⟨js_k (by omega) (by omega) (by omega), js_k (by omega) (by omega) (by omega)⟩
  have g1 := f c c0 (by omega) e1 e3
  have g2 := f (c + y) (by omega) c1 e2 e4
  obtain ⟨q1, q2, q3, q4⟩ := q
  unfold fre at q1 q3
  rw [g1.1, g1.2] at q1
  rw [g2.1, g2.2] at q3
  rw [g1.1] at q2
  rw [g2.1] at q4
  rcases ht c y hy c0 c1 hc ⟨q1, q2, q3, q4⟩ with x | x <;> omega
theorem SJ_js {m : Int → Int} {w z : Int} (hs : SJ m) (h0 : 0 ≤ w) (h1 : w < 64) (hz : z = 4 ∨ z = 8) (hm : m (128 + w) = z) (hj : jcM m w) : SJ (jsM m w) := by
  have g := lw_rg h0 h1 hz hm
  have hj2 := (jc_iff hm).mp hj
  have l1 := js_lw h0 h1 hz hm
  have l2 := js_h h0 h1 hz hm
  have a := nb_s (m := jsM m w) (m' := m) (p := lwM m w) (q := lwM m w + z) (by omega) (by omega) (fun u u0 u1 a b => (js_k (by omega) (by omega) (by omega)).symm) (by rw [l1]; omega) (by rw [hj2.2.2.1]; omega) l2 (by rw [hj2.2.2.2]; omega)
  unfold SJ at hs ⊢
  rw [js_k (show (468 : Int) ≠ 128 + lwM m w by omega) (by omega) (by omega), js_9]
  omega
/-- where the twins of w aren't joined, they weren't both free -/
theorem TW_nj {m : Int → Int} {w z : Int} (ht : TWb m w) (hz : z = 4 ∨ z = 8) (hm : m (128 + w) = z) (w0 : 0 ≤ w) (w1 : w < 64) (hj : ¬ jcM m w) : TW m := fun c y hy c0 c1 hc q => by
  exfalso
  have g := lw_rg w0 w1 hz hm
  have key : y = z ∧ lwM m w = c := by
    rcases ht c y hy c0 c1 hc q with x | x
    · have e := q.2.1
      rw [x] at e
      have : y = z := by omega
      refine ⟨this, ?_⟩
      subst this
      rcases hz with rfl | rfl <;> omega
    · have e := q.2.2.2
      rw [x] at e
      have : y = z := by omega
      refine ⟨this, ?_⟩
      subst this
      rcases hz with rfl | rfl <;> omega
  obtain ⟨rfl, e⟩ := key
  refine hj ((jc_iff hm).mpr ?_)
  rw [e]
  exact ⟨q.1, q.2.2.1, q.2.1, q.2.2.2⟩
theorem EX_jn8 {m : Int → Int} {w : Int} (hn : NB m) (ht : TWb m w) (hs : SJ m) (w0 : 0 ≤ w) (w1 : w < 64) (hm : m (128 + w) = 8) (ha : w % 8 = 0) : EX (jn8 m w) := by
  unfold jn8
  by_cases hj : jcM m w
  · rw [if_pos hj]
    refine ⟨NB_js hn w0 w1 (Or.inr rfl) hm hj, TW_of (TWb_js ht w0 w1 (Or.inr rfl) hm ha) (Or.inr ?_), SJ_js hs w0 w1 (Or.inr rfl) hm hj⟩
    rw [js_lw w0 w1 (Or.inr rfl) hm]
    decide
  · rw [if_neg hj]
    exact ⟨hn, TW_nj ht (Or.inr rfl) hm w0 w1 hj, hs⟩
theorem EX_jn {m : Int → Int} {w : Int} (hn : NB m) (ht : TWb m w) (hs : SJ m) (w0 : 0 ≤ w) (w1 : w < 64) (hm : m (128 + w) = 4 ∨ m (128 + w) = 8 ∨ m (128 + w) = 16) (ha : w % m (128 + w) = 0) : EX (jnM m w) := by
  unfold jnM
  rcases hm with hm | hm | hm
  · rw [if_pos hm]
    rw [hm] at ha
    unfold jn4
    by_cases hj : jcM m w
    · rw [if_pos hj]
      have g := lw_rg w0 w1 (Or.inl rfl) hm
      have al := (lw_al w0 w1 (Or.inl rfl) hm ha).2
      exact EX_jn8 (NB_js hn w0 w1 (Or.inl rfl) hm hj) (TWb_js ht w0 w1 (Or.inl rfl) hm ha) (SJ_js hs w0 w1 (Or.inl rfl) hm hj) (by omega) (by omega) (js_lw w0 w1 (Or.inl rfl) hm) (by omega)
    · rw [if_neg hj]
      exact ⟨hn, TW_nj ht (Or.inl rfl) hm w0 w1 hj, hs⟩
  · rw [if_neg (by omega), if_pos hm]
    rw [hm] at ha
    exact EX_jn8 hn ht hs w0 w1 hm ha
  · rw [if_neg (by omega), if_neg (by omega)]
    exact ⟨hn, TW_of ht (Or.inr ⟨by omega, by omega⟩), hs⟩
theorem EX_fr {K : Int} {m : Int → Int} (hW : MW K m) (hM : ML m) (h : EX m) {b : Int} (b0 : 0 ≤ b) (b1 : b < 64) (ho : owd m b) : EX (frM m b) := by
  have g := hW.1 b b0 b1
  have hb : b + m (128 + b) ≤ 64 := g.2.2.2.2.2.2.2
  have hz : m (128 + b) = 4 ∨ m (128 + b) = 8 ∨ m (128 + b) = 16 := by
    have := ho.1
    have := g.2.2.2.2.2.2.1
    omega
  have hal := ML.al hW hM b0 b1 (show m (128 + b) ≠ 0 by omega)
  have fk : ∀ k, 128 ≤ k → k ≠ 192 + b → k ≠ 470 → fr0M m b k = m k := fun k a c d => fr0_k c d (by omega)
  have f1 : fr0M m b (128 + b) = m (128 + b) := fk _ (by omega) (by omega) (by omega)
  have ow : ∀ u, 0 ≤ u → u < 64 → owd (fr0M m b) u → u ≠ b ∧ owd m u := fun u u0 u1 q => by
    have e : u ≠ b := fun e => by
      rw [e] at q
      exact q.2 fr0_n
    refine ⟨e, ?_⟩
    unfold owd at q
    rw [fk _ (by omega) (by omega) (by omega), fk _ (by omega) (by omega) (by omega)] at q
    exact q
  unfold frM
  refine EX_jn ⟨fun u u0 u1 => ?_, fun u u0 u1 q => ?_, fun u v u0 u1 v0 v1 q q' e => ?_⟩ (fun c z hz c0 c1 hc q => ?_) ?_ b0 b1 (by rw [f1]; exact hz) (by rw [f1]; exact hal)
  · by_cases q : (b ≤ u ∧ u < b + m (128 + b)) ∨ (64 + b ≤ u ∧ u < 64 + b + m (128 + b))
    · rw [fr0_z b0 hb q]
      decide
    · rw [fr0_k (by omega) (by omega) q]
      exact h.1.1 u u0 u1
  · obtain ⟨a, c⟩ := ow u u0 u1 q
    rw [fk _ (by omega) (by omega) (by omega), fk _ (by omega) (by omega) (by omega), fk _ (by omega) (by omega) (by omega), fk _ (by omega) (by omega) (by omega)]
    exact h.1.2.1 u u0 u1 c
  · obtain ⟨a, c⟩ := ow u u0 u1 q
    obtain ⟨a', c'⟩ := ow v v0 v1 q'
    rw [fk _ (by omega) (by omega) (by omega), fk _ (by omega) (by omega) (by omega)] at e
    exact h.1.2.2 u v u0 u1 v0 v1 c c' e
  · by_cases e1 : c = b
    · exact Or.inl e1
    by_cases e2 : c + z = b
    · exact Or.inr e2
    obtain ⟨q1, q2, q3, q4⟩ := q
    unfold fre at q1 q3
    rw [fk _ (by omega) (by omega) (by omega), fk _ (by omega) (by omega) (by omega)] at q1 q3
    rw [fk _ (by omega) (by omega) (by omega)] at q2 q4
    exact absurd ⟨q1, q2, q3, q4⟩ (h.2.1.no hz c0 c1 hc)
  · unfold SJ
    rw [fk _ (by omega) (by omega) (by omega), fk _ (by omega) (by omega) (by omega), nb_ext (m := m) (fun u u0 u1 => fk _ (by omega) (by omega) (by omega))]
    exact h.2.2
-- leaks: giving back makes none
theorem jn_o {m : Int → Int} {w u : Int} (w0 : 0 ≤ w) (w1 : w < 64) (u0 : 0 ≤ u) (u1 : u < 64) (ho : owd (jnM m w) u) : owd m u := by
  have h8 : ∀ (m : Int → Int) (w : Int), 0 ≤ w → w < 64 → m (128 + w) = 8 → owd (jn8 m w) u → owd m u := fun m w w0 w1 e ho => by
    unfold jn8 at ho
    by_cases hj : jcM m w
    · rw [if_pos hj] at ho
      exact (js_o w0 w1 (Or.inr rfl) e hj u0 u1 ho).2.2
    · rw [if_neg hj] at ho
      exact ho
  unfold jnM at ho
  by_cases e : m (128 + w) = 4
  · rw [if_pos e] at ho
    have g := lw_rg w0 w1 (Or.inl rfl) e
    unfold jn4 at ho
    by_cases hj : jcM m w
    · rw [if_pos hj] at ho
      exact (js_o w0 w1 (Or.inl rfl) e hj u0 u1 (h8 _ _ (by omega) (by omega) (js_lw w0 w1 (Or.inl rfl) e) ho)).2.2
    · rw [if_neg hj] at ho
      exact ho
  · rw [if_neg e] at ho
    by_cases e8 : m (128 + w) = 8
    · rw [if_pos e8] at ho
      exact h8 m w w0 w1 e8 ho
    · rw [if_neg e8] at ho
      exact ho
theorem jn_k {m : Int → Int} {w k : Int} (w0 : 0 ≤ w) (w1 : w < 64) (hk : 192 ≤ k) (h9 : k ≠ 469) : jnM m w k = m k := by
  have h8 : ∀ (m : Int → Int) (w : Int), 0 ≤ w → w < 64 → m (128 + w) = 8 → jn8 m w k = m k := fun m w w0 w1 e => by
    have g := lw_rg w0 w1 (Or.inr rfl) e
    unfold jn8
    by_cases hj : jcM m w
    · rw [if_pos hj]
      exact js_k (by omega) (by omega) h9
    · rw [if_neg hj]
  unfold jnM
  by_cases e : m (128 + w) = 4
  · rw [if_pos e]
    have g := lw_rg w0 w1 (Or.inl rfl) e
    unfold jn4
    by_cases hj : jcM m w
    · rw [if_pos hj, h8 _ _ (by omega) (by omega) (js_lw w0 w1 (Or.inl rfl) e)]
      exact js_k (by omega) (by omega) h9
    · rw [if_neg hj]
  · rw [if_neg e]
    by_cases e8 : m (128 + w) = 8
    · rw [if_pos e8]
      exact h8 m w w0 w1 e8
    · rw [if_neg e8]
theorem lk_fr {K : Int} {m : Int → Int} (hW : MW K m) {b u : Int} (b0 : 0 ≤ b) (b1 : b < 64) (u0 : 0 ≤ u) (u1 : u < 64) (h : lkM (frM m b) u) : u ≠ b ∧ lkM m u := by
  have g := hW.1 b b0 b1
  have fk : ∀ k, 128 ≤ k → k ≠ 192 + b → k ≠ 470 → fr0M m b k = m k := fun k a c d => fr0_k c d (by omega)
  have ff : ∀ k, 192 ≤ k → k ≠ 469 → k ≠ 192 + b → k ≠ 470 → frM m b k = m k := fun k a c d e => by
    unfold frM
    rw [jn_k b0 b1 a c, fk k (by omega) d e]
  have ho : owd (fr0M m b) u := jn_o b0 b1 u0 u1 h.1
  have e : u ≠ b := fun e => by
    rw [e] at ho
    exact ho.2 fr0_n
  have ho2 : owd m u := by
    unfold owd at ho
    rw [fk _ (by omega) (by omega) (by omega), fk _ (by omega) (by omega) (by omega)] at ho
    exact ho
  refine ⟨e, ho2, ?_⟩
  have g2 := (hW.1 u u0 u1).2.2.2.1
  have h2 := h.2
  rw [ff (256 + u) (by omega) (by omega) (by omega) (by omega), ff (448 + m (256 + u)) (by omega) (by omega) (by omega) (by omega), ff 467 (by omega) (by omega) (by omega) (by omega), ff 466 (by omega) (by omega) (by omega) (by omega), ff (384 + u) (by omega) (by omega) (by omega) (by omega)] at h2
  exact h2
/-- a sweep: the row keeps what the law asks, and no leak is left -/
theorem EX_sl : ∀ (n : Nat) (i K : Int) (μ : Int → Int → Int) (m : Int → Int), RI K μ m → EX m → 0 ≤ i → i + n = 16 → K + 19 * n ≤ 500000000 → (∀ u, 0 ≤ u → u < 4 * i → ¬ lkM m u) → EX (swM (4 * n) (4 * i) m) ∧ ∀ u, 0 ≤ u → u < 64 → ¬ lkM (swM (4 * n) (4 * i) m) u
  | 0, i, _, _, m => fun _ h _ hi _ hn => ⟨h, fun u u0 u1 => hn u u0 (by omega)⟩
  | n + 1, i, K, μ, m => fun hR h i0 hi hK hn => by
    by_cases hl : lkM m (4 * i)
    · have hR2 := RI_fr hR (by omega) i0 (by omega) hl.1
      rw [(sw4_y hR2.2.2 i0 (by omega) n hl).1]
      refine EX_sl n (i + 1) (K + 19) _ _ hR2 (EX_fr hR.2.1 hR.2.2 h (by omega) (by omega) hl.1) (by omega) (by omega) (by omega) (fun u u0 u1 q => ?_)
      obtain ⟨a, b⟩ := lk_fr hR.2.1 (by omega) (by omega) u0 (by omega) q
      by_cases e : u < 4 * i
      · exact hn u u0 e b
      · exact lk_no (hR.2.2.1 u u0 (by omega) (by omega)) b
    · rw [(sw4_n hR.2.2 i0 (by omega) n hl).1]
      refine EX_sl n (i + 1) K μ m hR h (by omega) (by omega) (by omega) (fun u u0 u1 q => ?_)
      by_cases e : u < 4 * i
      · exact hn u u0 e q
      · by_cases e2 : u = 4 * i
        · rw [e2] at q
          exact hl q
        · exact lk_no (hR.2.2.1 u u0 (by omega) (by omega)) q
theorem lks_0 {m : Int → Int} (h : ∀ u, 0 ≤ u → u < 64 → ¬ lkM m u) : lksM m 6 = 0 := by
  unfold lksM
  rw [sumF_c (g := fun _ => 0) 64 0 (fun j a b => if_neg (fun q => h j a (by omega) q.1))]
  decide
-- asked and given back: the same blocks
theorem SHP_js {f m : Int → Int} {w h : Int} (hs : SHP f (spl1 m w h)) (w0 : 0 ≤ w) (hh : h = 4 ∨ h = 8) (w1 : w + 2 * h ≤ 64) (ha : w % (2 * h) = 0) (hf : fre m w) (hm : m (128 + w) = 2 * h) (h2 : m (128 + (w + h)) = 0) : f (128 + w) = h ∧ jcM f w ∧ lwM f w = w ∧ SHP (jsM f w) m := by
  have a1 := hs w w0 (by omega)
  have a2 := hs (w + h) (by omega) (by omega)
  have e1 : f (128 + w) = h := by rw [a1.1, sp_w w0 (by omega) w1]
  have e2 : f (128 + (w + h)) = h := by rw [a2.1, sp_h w0 (by omega) w1]
  have g := lw_rg w0 (by omega) hh e1
  have el : lwM f w = w := by rw [g.2.2.2]; omega
  have f1 : fre f w := a1.2.mpr ⟨by rw [sp_w w0 (by omega) w1]; omega, by rw [sp_k (by omega) (by omega) (by omega) (by omega)]; exact hf.2⟩
  have f2 : fre f (w + h) := a2.2.mpr ⟨by rw [sp_h w0 (by omega) w1]; omega, sp_n w0 (by omega) w1⟩
  have hj : jcM f w := (jc_iff e1).mpr (by rw [el]; exact ⟨f1, f2, e1, e2⟩)
  refine ⟨e1, hj, el, fun u u0 u1 => ?_⟩
  by_cases q1 : u = w
  · subst q1
    have l1 := js_lw w0 (by omega) hh e1
    rw [el] at l1
    refine ⟨by rw [l1, hm], ⟨fun _ => hf, fun _ => ⟨by rw [l1]; omega, ?_⟩⟩⟩
    rw [js_k (by omega) (by omega) (by omega)]
    exact f1.2
  · by_cases q2 : u = w + h
    · have l2 := js_h w0 (by omega) hh e1
      rw [el] at l2
      rw [q2]
      refine ⟨by rw [l2, h2], ⟨fun q => ?_, fun q => ?_⟩⟩
      · have := q.1
        rw [l2] at this
        omega
      · have := q.1
        rw [h2] at this
        omega
    · have b := hs u u0 u1
      have c1 : spl1 m w h (128 + u) = m (128 + u) := sp_k (by omega) (by omega) (by omega) (by omega)
      have c2 : spl1 m w h (192 + u) = m (192 + u) := sp_k (by omega) (by omega) (by omega) (by omega)
      have d1 : jsM f w (128 + u) = f (128 + u) := js_k (by rw [el]; omega) (by rw [el, e1]; omega) (by omega)
      have d2 : jsM f w (192 + u) = f (192 + u) := js_k (by rw [el]; omega) (by rw [el, e1]; omega) (by omega)
      unfold fre at b ⊢
      rw [c1, c2] at b
      rw [d1, d2]
      exact b
theorem jn8_id {f : Int → Int} {w : Int} (ht : TW f) (w0 : 0 ≤ w) (w1 : w < 64) (hm : f (128 + w) = 8) : jn8 f w = f := by
  have g := lw_rg w0 w1 (Or.inr rfl) hm
  refine if_neg (fun hj => ?_)
  have hj2 := (jc_iff hm).mp hj
  exact ht.no (Or.inr rfl) g.1 (by omega) (by omega) ⟨hj2.1, hj2.2.2.1, hj2.2.1, hj2.2.2.2⟩
theorem jn_id {f : Int → Int} {w : Int} (ht : TW f) (w0 : 0 ≤ w) (w1 : w < 64) : jnM f w = f := by
  unfold jnM
  by_cases e : f (128 + w) = 4
  · rw [if_pos e]
    have g := lw_rg w0 w1 (Or.inl rfl) e
    refine if_neg (fun hj => ?_)
    have hj2 := (jc_iff e).mp hj
    exact ht.no (Or.inl rfl) g.1 (by omega) (by omega) ⟨hj2.1, hj2.2.2.1, hj2.2.1, hj2.2.2.2⟩
  · rw [if_neg e]
    by_cases e8 : f (128 + w) = 8
    · rw [if_pos e8]
      exact jn8_id ht w0 w1 e8
    · rw [if_neg e8]
theorem SHP_jn {K : Int} {m f : Int → Int} (hW : MW K m) (hM : ML m) (ht : TW m) {z w : Int} (hz : z = 4 ∨ z = 8 ∨ z = 16) (hr : roomM m z) (hw : lowF m (hvM m z) = w) (hs : SHP f (takM m z)) : SHP (jnM f w) m := by
  obtain ⟨h1, h2, h3, h4, h5⟩ := room_rg hW hz hr
  rw [hw] at h2 h3 h4 h5
  obtain ⟨i, ei, i0, i1⟩ : ∃ i, w = 4 * i ∧ 0 ≤ i ∧ i < 16 := by
    obtain ⟨i, e, i0, i1⟩ := lowF_4 hM (z := hvM m z) (by omega)
    exact ⟨i, by omega, i0, i1⟩
  have hal := ML.al hW hM h2 (by omega) (show m (128 + w) ≠ 0 by have := h4.1; omega)
  have hhalf : ∀ q, (q = 4 ∨ q = 8) → m (128 + w) = 2 * q → m (128 + (w + q)) = 0 := fun q hq e => by
    have := (half_0 hW hM (i := i) (j := i + q / 4) (h := q) ⟨i0, i1⟩ hq (by omega) (by rw [← ei]; exact e)).2.2
    rw [show 4 * (i + q / 4) = w + q by omega] at this
    exact this
  rcases h1 with e | ⟨e, z1⟩ | ⟨e, z1⟩
  · rw [tak_1 e] at hs
    rw [jn_id (TWb_shp hs ht) h2 (by omega)]
    exact hs
  · rw [e] at h3 h5
    have e2 : lowF m (2 * z) = w := by rw [← e]; exact hw
    rw [tak_2 (by omega) e, e2] at hs
    rw [h5] at hal
    obtain ⟨c1, c2, c3, c4⟩ := SHP_js hs h2 (by omega) (by omega) hal h4 h5 (hhalf z (by omega) h5)
    unfold jnM
    rcases (show z = 4 ∨ z = 8 by omega) with rfl | rfl
    · rw [if_pos c1]
      unfold jn4
      rw [if_pos c2, c3, jn8_id (TWb_shp c4 ht) h2 (by omega) (by rw [(c4 w h2 (by omega)).1]; exact h5)]
      exact c4
    · rw [if_neg (by omega), if_pos c1]
      unfold jn8
      rw [if_pos c2]
      exact c4
  · rw [e] at h3 h5
    have e2 : lowF m (4 * z) = w := by rw [← e]; exact hw
    rw [tak_3 (by omega) e, e2] at hs
    have ez : z = 4 := by omega
    subst ez
    rw [h5] at hal
    have g1 : spl1 m w (2 * 4) (128 + w) = 8 := sp_w h2 (by omega) (by omega)
    have f1 : fre (spl1 m w (2 * 4)) w := ⟨by rw [g1]; decide, by rw [sp_k (by omega) (by omega) (by omega) (by omega)]; exact h4.2⟩
    have hp := hM.2.1 w h2 (by omega) (by omega)
    have hp2 := ((pat_no hp).1 h5).1
    rw [show 132 + w = 128 + (w + 4) by omega] at hp2
    obtain ⟨c1, c2, c3, c4⟩ := SHP_js hs h2 (Or.inl rfl) (by omega) (by omega) f1 g1 (by rw [sp_k (by omega) (by omega) (by omega) (by omega)]; exact hp2)
    obtain ⟨d1, d2, d3, d4⟩ := SHP_js c4 h2 (Or.inr rfl) (by omega) hal h4 h5 (hhalf 8 (by omega) h5)
    unfold jnM
    rw [if_pos c1]
    unfold jn4
    rw [if_pos c2, c3]
    unfold jn8
    rw [if_pos d2]
    exact d4
theorem szc_shp {f m : Int → Int} (hs : SHP f m) (z : Int) : szcM f z 0 = szcM m z 0 := sumF_c 64 0 (fun j a b => by
  have h := hs j a (by omega)
  by_cases q : fre m j
  · by_cases q2 : m (128 + j) = z
    · rw [if_pos ⟨h.1.trans q2, Or.inl ⟨rfl, h.2.mpr q⟩⟩, if_pos ⟨q2, Or.inl ⟨rfl, q⟩⟩]
    · rw [if_neg (fun x => q2 (h.1.symm.trans x.1)), if_neg (fun x => q2 x.1)]
  · rw [if_neg (fun x => by rcases x.2 with y | y; exact q (h.2.mp y.2); exact y.1 rfl), if_neg (fun x => by rcases x.2 with y | y; exact q y.2; exact y.1 rfl)])
/-- what is asked for and given back at once leaves the same blocks -/
theorem ask_sz {K : Int} {m : Int → Int} (hW : MW K m) (hM : ML m) (h : EX m) {t words : Int} (hf : askFM m t words = 0) : 0 ≤ askW m words ∧ askW m words + szM words ≤ 64 ∧ fre (takM m (szM words)) (askW m words) ∧ askM m t words (128 + askW m words) = szM words := by
  have hr := why_room (wr_room hf).1
  have hs := szM_rg words
  obtain ⟨r1, h2, h3, h4, h5⟩ := room_rg hW hs hr
  have h2' : 0 ≤ askW m words := h2
  have h3' : askW m words + hvM m (szM words) ≤ 64 := h3
  obtain ⟨n, tb, sj, ff, fz⟩ := tak_E hW hM h hs hr (w := askW m words) rfl
  refine ⟨h2', by omega, ff, ?_⟩
  unfold askM
  rw [up1_ne (by omega), up1_ne (by omega), up1_ne (by omega), up1_ne (by omega), up1_ne (by omega), fz]
theorem SHP_back {K : Int} {m : Int → Int} (hW : MW K m) (hM : ML m) (h : EX m) {t words : Int} (hf : askFM m t words = 0) : SHP (frM (askM m t words) (askW m words)) m := by
  have hr := why_room (wr_room hf).1
  have hs := szM_rg words
  obtain ⟨b0, b1, ff, ez⟩ := ask_sz hW hM h hf
  unfold frM
  refine SHP_jn hW hM h.2.1 hs hr (w := askW m words) rfl (fun u u0 u1 => ?_)
  have fk : ∀ k, 128 ≤ k → k < 256 → k ≠ 192 + askW m words → fr0M (askM m t words) (askW m words) k = takM m (szM words) k := fun k a b c => by
    rw [fr0_k c (by omega) (by omega)]
    unfold askM
    rw [up1_ne (by omega), up1_ne (by omega), up1_ne (by omega), up1_ne (by omega), up1_ne (by omega)]
  refine ⟨fk _ (by omega) (by omega) (by omega), ?_⟩
  by_cases e : u = askW m words
  · rw [e]
    refine ⟨fun _ => ff, fun _ => ⟨?_, fr0_n⟩⟩
    rw [fk _ (by omega) (by omega) (by omega)]
    exact ff.1
  · unfold fre
    rw [fk _ (by omega) (by omega) (by omega), fk _ (by omega) (by omega) (by omega)]
