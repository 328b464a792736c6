/-! the relation kept: single fields -/
theorem ML_hi {m : Int → Int} (hM : ML m) {k v : Int} (hk : 384 ≤ k) : ML (up1 m k v) := by
  obtain ⟨a1, a2, a3, a4⟩ := hM
  have u : ∀ j, j < 384 → up1 m k v j = m j := fun j hj => up1_ne (by omega)
  have hs : ∀ w, 0 ≤ w → w < 64 → owd (up1 m k v) w → owd m w := fun w w0 w1 h => ⟨by rw [← u (128 + w) (by omega)]; exact h.1, by rw [← u (192 + w) (by omega)]; exact h.2⟩
  refine ⟨fun w w0 w1 w2 => by rw [u _ (by omega)]; exact a1 w w0 w1 w2, fun c c0 c1 c2 => by rw [u _ (by omega), u _ (by omega), u _ (by omega), u _ (by omega)]; exact a2 c c0 c1 c2, fun w w0 w1 w2 => ?_, fun w j w0 w1 w2 j0 j1 => ?_⟩
  · have b := a3 w w0 w1 (hs w w0 w1 w2)
    have p := fun c hc0 hc1 hc2 => a2 c hc0 hc1 hc2
    have sz : m (128 + w) ≤ 16 := by
      by_cases q : w % 4 = 0
      · have hp := a2 (w - w % 16) (by omega) (by omega) (by omega)
        rw [show 132 + (w - w % 16) = 128 + (w - w % 16 + 4) by omega, show 136 + (w - w % 16) = 128 + (w - w % 16 + 8) by omega, show 140 + (w - w % 16) = 128 + (w - w % 16 + 12) by omega] at hp
        rcases (show w - w % 16 = w ∨ w - w % 16 + 4 = w ∨ w - w % 16 + 8 = w ∨ w - w % 16 + 12 = w by omega) with e | e | e | e <;> rw [e] at hp <;> unfold pat at hp <;> omega
      · rw [a1 w w0 w1 q]; decide
    rw [u (320 + w) (by omega), u (128 + w) (by omega), u (64 + w) (by omega), u w (by omega), u (64 + w + m (320 + w) + 1) (by omega), u (w + m (320 + w) + 1) (by omega)]
    exact b
  · have hf : fre m w := ⟨by rw [← u (128 + w) (by omega)]; exact w2.1, by rw [← u (192 + w) (by omega)]; exact w2.2⟩
    rw [u (128 + w) (by omega)] at j1
    have sz : m (128 + w) ≤ 16 := by
      by_cases q : w % 4 = 0
      · have hp := a2 (w - w % 16) (by omega) (by omega) (by omega)
        rw [show 132 + (w - w % 16) = 128 + (w - w % 16 + 4) by omega, show 136 + (w - w % 16) = 128 + (w - w % 16 + 8) by omega, show 140 + (w - w % 16) = 128 + (w - w % 16 + 12) by omega] at hp
        rcases (show w - w % 16 = w ∨ w - w % 16 + 4 = w ∨ w - w % 16 + 8 = w ∨ w - w % 16 + 12 = w by omega) with e | e | e | e <;> rw [e] at hp <;> unfold pat at hp <;> omega
      · rw [a1 w w0 w1 q]; decide
    rw [u (w + j) (by omega), u (64 + (w + j)) (by omega)]
    exact a4 w j w0 w1 hf j0 j1
/-- a count or the clock, the patience -/
theorem RS_1 {μ : Int → Int → Int} {m : Int → Int} (h : RS μ 1 m) {f x v : Int} (hf : (f = 3 ∧ x = 466) ∨ (f = 4 ∧ x = 467) ∨ (f = 5 ∧ x = 471)) : RS (upM μ 1 f v) 1 (up1 m x v) := by
  obtain ⟨rb, rv, rt, r3, r4, r5, r6, r7, r8⟩ := h
  have key : ∀ g y, ((g = 3 ∧ y = 466) ∨ (g = 4 ∧ y = 467) ∨ (g = 5 ∧ y = 471) ∨ (g = 6 ∧ y = 468) ∨ (g = 7 ∧ y = 469) ∨ (g = 8 ∧ y = 470)) → μ 1 g = m y → upM μ 1 f v 1 g = up1 m x v y := by
    intro g y hg e
    by_cases q : g = f
    · have : y = x := by omega
      rw [q, this, upM_eq, up1_at]
    · rw [upM_ne (Or.inr q), up1_ne (by omega), e]
  refine ⟨fun i i0 i1 => blk_keep (rb i i0 i1) (fun k => upM_ne (Or.inl (by omega))) (up1_ne (by omega)) (up1_ne (by omega)) (up1_ne (by omega)) (up1_ne (by omega)) (up1_ne (by omega)), fun w w0 w1 => ?_, fun t t0 t1 => tsk_keep (rt t t0 t1) (fun k => upM_ne (Or.inl (by omega))) (up1_ne (by omega)) (up1_ne (by omega)) (up1_ne (by omega)), key 3 466 (by omega) r3, key 4 467 (by omega) r4, key 5 471 (by omega) r5, key 6 468 (by omega) r6, key 7 469 (by omega) r7, key 8 470 (by omega) r8⟩
  rw [upM_ne (Or.inl (by omega)), up1_ne (by omega)]
  exact rv w w0 w1
theorem RS_use {μ : Int → Int → Int} {m : Int → Int} (h : RS μ 1 m) {j v : Int} (j0 : 0 ≤ j) (j1 : j < 16) : RS (upM μ (3 + j) 5 v) 1 (up1 m (384 + 4 * j) v) := by
  obtain ⟨rb, rv, rt, r3, r4, r5, r6, r7, r8⟩ := h
  refine ⟨fun i i0 i1 => ?_, fun w w0 w1 => ?_, fun t t0 t1 => tsk_keep (rt t t0 t1) (fun k => upM_ne (Or.inl (by omega))) (up1_ne (by omega)) (up1_ne (by omega)) (up1_ne (by omega)), ?_, ?_, ?_, ?_, ?_, ?_⟩
  · rw [show (1 : Int) + 2 + i = 3 + i by omega]
    have hb := rb i i0 i1
    rw [show (1 : Int) + 2 + i = 3 + i by omega] at hb
    by_cases e : i = j
    · subst e
      unfold blkR owd at hb ⊢
      simp only [upM_ne (show 3 + i ≠ 3 + i ∨ (0 : Int) ≠ 5 from Or.inr (by decide)), upM_ne (show 3 + i ≠ 3 + i ∨ (1 : Int) ≠ 5 from Or.inr (by decide)), upM_ne (show 3 + i ≠ 3 + i ∨ (2 : Int) ≠ 5 from Or.inr (by decide)), upM_ne (show 3 + i ≠ 3 + i ∨ (3 : Int) ≠ 5 from Or.inr (by decide)), upM_ne (show 3 + i ≠ 3 + i ∨ (4 : Int) ≠ 5 from Or.inr (by decide)), upM_eq, up1_at,
        up1_ne (show (128 + 4 * i) ≠ 384 + 4 * i by omega), up1_ne (show (192 + 4 * i) ≠ 384 + 4 * i by omega), up1_ne (show (256 + 4 * i) ≠ 384 + 4 * i by omega), up1_ne (show (320 + 4 * i) ≠ 384 + 4 * i by omega)]
      exact ⟨hb.1, hb.2.1, hb.2.2.1, hb.2.2.2.1, hb.2.2.2.2.1, hb.2.2.2.2.2.1, trivial⟩
    · exact blk_keep hb (fun k => upM_ne (Or.inl (by omega))) (up1_ne (by omega)) (up1_ne (by omega)) (up1_ne (by omega)) (up1_ne (by omega)) (up1_ne (by omega))
  · rw [upM_ne (Or.inl (by omega)), up1_ne (by omega)]
    exact rv w w0 w1
  · rw [upM_ne (Or.inl (by omega)), up1_ne (by omega)]; exact r3
  · rw [upM_ne (Or.inl (by omega)), up1_ne (by omega)]; exact r4
  · rw [upM_ne (Or.inl (by omega)), up1_ne (by omega)]; exact r5
  · rw [upM_ne (Or.inl (by omega)), up1_ne (by omega)]; exact r6
  · rw [upM_ne (Or.inl (by omega)), up1_ne (by omega)]; exact r7
  · rw [upM_ne (Or.inl (by omega)), up1_ne (by omega)]; exact r8
theorem RS_tsk {μ : Int → Int → Int} {m : Int → Int} (h : RS μ 1 m) {t k x v v' : Int} (t0 : 0 ≤ t) (t1 : t < 6) (hk : (k = 0 ∧ x = 448 + t ∧ v = 1 - v') ∨ (k = 1 ∧ x = 454 + t ∧ v = v') ∨ (k = 2 ∧ x = 460 + t ∧ v = v')) : RS (upM μ (21 + t) k v) 1 (up1 m x v') := by
  obtain ⟨rb, rv, rt, r3, r4, r5, r6, r7, r8⟩ := h
  refine ⟨fun i i0 i1 => blk_keep (rb i i0 i1) (fun k => upM_ne (Or.inl (by omega))) (up1_ne (by omega)) (up1_ne (by omega)) (up1_ne (by omega)) (up1_ne (by omega)) (up1_ne (by omega)), fun w w0 w1 => ?_, fun q q0 q1 => ?_, ?_, ?_, ?_, ?_, ?_, ?_⟩
  · rw [upM_ne (Or.inl (by omega)), up1_ne (by omega)]
    exact rv w w0 w1
  · rw [show (1 : Int) + 20 + q = 21 + q by omega]
    have hb := rt q q0 q1
    rw [show (1 : Int) + 20 + q = 21 + q by omega] at hb
    by_cases e : q = t
    · subst e
      have f : ∀ k', (k' ≠ k → upM μ (21 + q) k v (21 + q) k' = μ (21 + q) k') ∧ (k' = k → upM μ (21 + q) k v (21 + q) k' = v) := fun k' => ⟨fun a => upM_ne (Or.inr a), fun a => by rw [a]; exact upM_eq⟩
      have g : ∀ y, (y ≠ x → up1 m x v' y = m y) ∧ (y = x → up1 m x v' y = v') := fun y => ⟨fun a => up1_ne a, fun a => by rw [a]; exact up1_at⟩
      have f0 := f 0
      have f1 := f 1
      have f2 := f 2
      have g0 := g (448 + q)
      have g1 := g (454 + q)
      have g2 := g (460 + q)
      unfold tskR at hb ⊢
      rcases hk with ⟨rfl, rfl, rfl⟩ | ⟨rfl, rfl, rfl⟩ | ⟨rfl, rfl, rfl⟩
      · rw [f0.2 rfl, f1.1 (by decide), f2.1 (by decide), g0.2 rfl, g1.1 (by omega), g2.1 (by omega)]
        exact ⟨rfl, hb.2.1, hb.2.2⟩
      · rw [f0.1 (by decide), f1.2 rfl, f2.1 (by decide), g0.1 (by omega), g1.2 rfl, g2.1 (by omega)]
        exact ⟨hb.1, rfl, hb.2.2⟩
      · rw [f0.1 (by decide), f1.1 (by decide), f2.2 rfl, g0.1 (by omega), g1.1 (by omega), g2.2 rfl]
        exact ⟨hb.1, hb.2.1, rfl⟩
    · exact tsk_keep hb (fun k => upM_ne (Or.inl (by omega))) (up1_ne (by omega)) (up1_ne (by omega)) (up1_ne (by omega))
  · rw [upM_ne (Or.inl (by omega)), up1_ne (by omega)]; exact r3
  · rw [upM_ne (Or.inl (by omega)), up1_ne (by omega)]; exact r4
  · rw [upM_ne (Or.inl (by omega)), up1_ne (by omega)]; exact r5
  · rw [upM_ne (Or.inl (by omega)), up1_ne (by omega)]; exact r6
  · rw [upM_ne (Or.inl (by omega)), up1_ne (by omega)]; exact r7
  · rw [upM_ne (Or.inl (by omega)), up1_ne (by omega)]; exact r8
theorem RS_val {μ : Int → Int → Int} {m : Int → Int} (h : RS μ 1 m) {w v : Int} (w0 : 0 ≤ w) (w1 : w < 64) : RS (upM μ 19 w v) 1 (up1 m (0 + w) v) := by
  obtain ⟨rb, rv, rt, r3, r4, r5, r6, r7, r8⟩ := h
  refine ⟨fun i i0 i1 => blk_keep (rb i i0 i1) (fun k => upM_ne (Or.inl (by omega))) (up1_ne (by omega)) (up1_ne (by omega)) (up1_ne (by omega)) (up1_ne (by omega)) (up1_ne (by omega)), fun q q0 q1 => ?_, fun t t0 t1 => tsk_keep (rt t t0 t1) (fun k => upM_ne (Or.inl (by omega))) (up1_ne (by omega)) (up1_ne (by omega)) (up1_ne (by omega)), ?_, ?_, ?_, ?_, ?_, ?_⟩
  · rw [show (1 : Int) + 18 = 19 from rfl]
    by_cases e : q = w
    · subst e
      rw [upM_eq, Int.zero_add, up1_at]
    · rw [upM_ne (Or.inr e), up1_ne (by omega)]
      exact rv q q0 q1
  · rw [upM_ne (Or.inl (by omega)), up1_ne (by omega)]; exact r3
  · rw [upM_ne (Or.inl (by omega)), up1_ne (by omega)]; exact r4
  · rw [upM_ne (Or.inl (by omega)), up1_ne (by omega)]; exact r5
  · rw [upM_ne (Or.inl (by omega)), up1_ne (by omega)]; exact r6
  · rw [upM_ne (Or.inl (by omega)), up1_ne (by omega)]; exact r7
  · rw [upM_ne (Or.inl (by omega)), up1_ne (by omega)]; exact r8
theorem RS_brk {μ : Int → Int → Int} {m : Int → Int} (h : RS μ 1 m) {w v : Int} (w0 : 0 ≤ w) (w1 : w < 64) : RS μ 1 (up1 m (64 + w) v) := by
  obtain ⟨rb, rv, rt, r3, r4, r5, r6, r7, r8⟩ := h
  refine ⟨fun i i0 i1 => blk_keep (rb i i0 i1) (fun k => rfl) (up1_ne (by omega)) (up1_ne (by omega)) (up1_ne (by omega)) (up1_ne (by omega)) (up1_ne (by omega)), fun q q0 q1 => ?_, fun t t0 t1 => tsk_keep (rt t t0 t1) (fun k => rfl) (up1_ne (by omega)) (up1_ne (by omega)) (up1_ne (by omega)), ?_, ?_, ?_, ?_, ?_, ?_⟩
  · rw [up1_ne (by omega)]; exact rv q q0 q1
  · rw [up1_ne (by omega)]; exact r3
  · rw [up1_ne (by omega)]; exact r4
  · rw [up1_ne (by omega)]; exact r5
  · rw [up1_ne (by omega)]; exact r6
  · rw [up1_ne (by omega)]; exact r7
  · rw [up1_ne (by omega)]; exact r8

