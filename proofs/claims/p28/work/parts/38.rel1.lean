/-! the relation kept: pieces -/
theorem blk_keep {μ μ' : Int → Int → Int} {m m' : Int → Int} {o i : Int} (h : blkR μ o i m) (e : ∀ k, μ' o k = μ o k) (f1 : m' (128 + 4 * i) = m (128 + 4 * i)) (f2 : m' (192 + 4 * i) = m (192 + 4 * i)) (f3 : m' (256 + 4 * i) = m (256 + 4 * i)) (f4 : m' (320 + 4 * i) = m (320 + 4 * i)) (f5 : m' (384 + 4 * i) = m (384 + 4 * i)) : blkR μ' o i m' := by
  unfold blkR owd at h ⊢
  simp only [e, f1, f2, f3, f4, f5]
  exact h
theorem tsk_keep {μ μ' : Int → Int → Int} {m m' : Int → Int} {o t : Int} (h : tskR μ o t m) (e : ∀ k, μ' o k = μ o k) (f1 : m' (448 + t) = m (448 + t)) (f2 : m' (454 + t) = m (454 + t)) (f3 : m' (460 + t) = m (460 + t)) : tskR μ' o t m' := by
  unfold tskR at h ⊢
  simp only [e, f1, f2, f3]
  exact h
theorem up1_or (f : Int → Int) (k v j : Int) : (j = k ∧ up1 f k v j = v) ∨ (j ≠ k ∧ up1 f k v j = f j) := by
  by_cases h : j = k
  · exact Or.inl ⟨h, by rw [h]; exact up1_at⟩
  · exact Or.inr ⟨h, up1_ne h⟩
def jC (μ : Int → Int → Int) (l h z : Int) : Int → Int → Int := upM (upM (upM μ (3 + h) 1 (-1)) (3 + l) 1 (z + 1)) 1 7 (μ 1 7 + 1)
theorem RS_js {K : Int} {μ : Int → Int → Int} {m : Int → Int} (hR : RI K μ m) {w l h z : Int} (w0 : 0 ≤ w ∧ w < 64) (hz : (z = 0 ∧ m (128 + w) = 4) ∨ (z = 1 ∧ m (128 + w) = 8)) (hl : lwM m w = 4 * l) (hh : 4 * l + m (128 + w) = 4 * h) (hj : jcM m w) : RS (jC μ l h z) 1 (jsM m w) := by
  have g := lw_rg (z := m (128 + w)) w0.1 w0.2 (by omega) rfl
  have hm' : jsM m w = up1 (up1 (up1 m (128 + 4 * l) (2 * m (128 + w))) (128 + 4 * h) 0) 469 (m 469 + 1) := by
    unfold jsM
    rw [hl, hh]
  have hj2 := (jc_iff (z := m (128 + w)) rfl).mp hj
  rw [hl, hh] at hj2
  have kk : ∀ k, k ≠ 128 + 4 * l → k ≠ 128 + 4 * h → k ≠ 469 → jsM m w k = m k := fun k a b c => by rw [hm', up1_ne c, up1_ne b, up1_ne a]
  have kl : jsM m w (128 + 4 * l) = 2 * m (128 + w) := by rw [hm', up1_ne (by omega), up1_ne (by omega), up1_at]
  have kh : jsM m w (128 + 4 * h) = 0 := by rw [hm', up1_ne (by omega), up1_at]
  have kj : jsM m w 469 = m 469 + 1 := by rw [hm', up1_at]
  generalize jsM m w = m' at kk kl kh kj ⊢
  have c1 : ∀ o k, o ≠ 3 + l → o ≠ 3 + h → o ≠ 1 → jC μ l h z o k = μ o k := fun o k a b c => by
    unfold jC
    rw [upM_ne (Or.inl c), upM_ne (Or.inl a), upM_ne (Or.inl b)]
  have cl : ∀ k, k ≠ 1 → jC μ l h z (3 + l) k = μ (3 + l) k := fun k a => by
    unfold jC
    rw [upM_ne (by omega), upM_ne (by omega), upM_ne (by omega)]
  have cl1 : jC μ l h z (3 + l) 1 = z + 1 := by
    unfold jC
    rw [upM_ne (by omega), upM_eq]
  have ch : ∀ k, k ≠ 1 → jC μ l h z (3 + h) k = μ (3 + h) k := fun k a => by
    unfold jC
    rw [upM_ne (by omega), upM_ne (by omega), upM_ne (by omega)]
  have ch1 : jC μ l h z (3 + h) 1 = -1 := by
    unfold jC
    rw [upM_ne (by omega), upM_ne (by omega), upM_eq]
  have c7 : ∀ k, k ≠ 7 → jC μ l h z 1 k = μ 1 k := fun k a => by
    unfold jC
    rw [upM_ne (by omega), upM_ne (by omega), upM_ne (by omega)]
  have c77 : jC μ l h z 1 7 = μ 1 7 + 1 := by
    unfold jC
    rw [upM_eq]
  generalize jC μ l h z = ν at c1 cl cl1 ch ch1 c7 c77 ⊢
  have l0 : 0 ≤ l ∧ l < 16 := by omega
  have h0 : 0 ≤ h ∧ h < 16 := by omega
  obtain ⟨rb, rv, rt, r3, r4, r5, r6, r7, r8⟩ := hR.1
  refine ⟨fun i i0 i1 => ?_, fun w w0 w1 => ?_, fun t t0 t1 => ?_, ?_, ?_, ?_, ?_, ?_, ?_⟩
  · rw [show (1 : Int) + 2 + i = 3 + i by omega]
    by_cases e1 : i = l
    · subst e1
      have hb := hR.blk i0 i1
      have hw2 : wz (z + 1) = 2 * m (128 + w) := by rcases hz with ⟨rfl, e⟩ | ⟨rfl, e⟩ <;> rw [e] <;> rfl
      refine ⟨by rw [cl 0 (by decide)]; exact hb.1, by rw [cl1]; omega, by rw [cl1, kl]; exact hw2, fun q => ?_, fun q => ?_, by rw [cl 4 (by decide), kk _ (by omega) (by omega) (by omega)]; exact hb.2.2.2.2.2.1, by rw [cl 5 (by decide), kk _ (by omega) (by omega) (by omega)]; exact hb.2.2.2.2.2.2⟩
      · have := kk (192 + 4 * i) (by omega) (by omega) (by omega)
        omega
      · rw [cl 2 (by decide)]
        exact hb.2.2.2.2.1 (by omega)
    · by_cases e2 : i = h
      · subst e2
        have hb := hR.blk i0 i1
        refine ⟨by rw [ch 0 (by decide)]; exact hb.1, by rw [ch1]; omega, by rw [ch1, kh]; rfl, fun q => by omega, fun q => ?_, by rw [ch 4 (by decide), kk _ (by omega) (by omega) (by omega)]; exact hb.2.2.2.2.2.1, by rw [ch 5 (by decide), kk _ (by omega) (by omega) (by omega)]; exact hb.2.2.2.2.2.2⟩
        rw [ch 2 (by decide)]
        exact hb.2.2.2.2.1 (by omega)
      · exact blk_keep (hR.blk i0 i1) (fun k => c1 _ _ (by omega) (by omega) (by omega)) (kk _ (by omega) (by omega) (by omega)) (kk _ (by omega) (by omega) (by omega)) (kk _ (by omega) (by omega) (by omega)) (kk _ (by omega) (by omega) (by omega)) (kk _ (by omega) (by omega) (by omega))
  · rw [show (1 : Int) + 18 = 19 by rfl, c1 19 w (by omega) (by omega) (by decide), kk _ (by omega) (by omega) (by omega)]
    exact hR.val w0 w1
  · rw [show (1 : Int) + 20 + t = 21 + t by omega]
    exact tsk_keep (hR.tsk t0 t1) (fun k => c1 _ _ (by omega) (by omega) (by omega)) (kk _ (by omega) (by omega) (by omega)) (kk _ (by omega) (by omega) (by omega)) (kk _ (by omega) (by omega) (by omega))
  · rw [c7 3 (by decide), kk _ (by omega) (by omega) (by omega)]; exact r3
  · rw [c7 4 (by decide), kk _ (by omega) (by omega) (by omega)]; exact r4
  · rw [c7 5 (by decide), kk _ (by omega) (by omega) (by omega)]; exact r5
  · rw [c7 6 (by decide), kk _ (by omega) (by omega) (by omega)]; exact r6
  · rw [c77, kj, r7]
  · rw [c7 8 (by decide), kk _ (by omega) (by omega) (by omega)]; exact r8
theorem pat_j1 {a b c d : Int} (h : pat a b c d) (h1 : a = 4) (h2 : b = 4) : pat 8 0 c d := by
  unfold pat at h ⊢
  omega
theorem pat_j2 {a b c d : Int} (h : pat a b c d) (h1 : c = 4) (h2 : d = 4) : pat a b 8 0 := by
  unfold pat at h ⊢
  omega
theorem pat_j3 {a b c d : Int} (h : pat a b c d) (h1 : a = 8) (h2 : c = 8) : pat 16 b 0 d := by
  unfold pat at h ⊢
  omega
theorem ML_js {K : Int} {m : Int → Int} (hW : MW K m) (hM : ML m) {w l h z : Int} (w0 : 0 ≤ w ∧ w < 64) (hz : (z = 4 ∨ z = 8) ∧ m (128 + w) = z) (hl : lwM m w = 4 * l) (hh : 4 * l + z = 4 * h) (hj : jcM m w) : ML (jsM m w) := by
  have g := lw_rg (z := z) w0.1 w0.2 hz.1 hz.2
  have hm' : jsM m w = up1 (up1 (up1 m (128 + 4 * l) (2 * z)) (128 + 4 * h) 0) 469 (m 469 + 1) := by
    unfold jsM
    rw [hl, hz.2, hh]
  have hj2 := (jc_iff (z := z) hz.2).mp hj
  rw [hl, hh] at hj2
  have kk : ∀ k, k ≠ 128 + 4 * l → k ≠ 128 + 4 * h → k ≠ 469 → jsM m w k = m k := fun k a b c => by rw [hm', up1_ne c, up1_ne b, up1_ne a]
  have kl : jsM m w (128 + 4 * l) = 2 * z := by rw [hm', up1_ne (by omega), up1_ne (by omega), up1_at]
  have kh : jsM m w (128 + 4 * h) = 0 := by rw [hm', up1_ne (by omega), up1_at]
  generalize jsM m w = m' at kk kl kh ⊢
  obtain ⟨a1, a2, a3, a4⟩ := hM
  have hal : 4 * l % (2 * z) = 0 := by rcases hz.1 with rfl | rfl <;> omega
  have b64 : ∀ v, 0 ≤ v → v < 64 → v + m (128 + v) ≤ 64 := fun v v0 v1 => (hW.1 v v0 v1).2.2.2.2.2.2.2
  refine ⟨fun v v0 v1 v2 => ?_, fun c c0 c1 c2 => ?_, fun v v0 v1 v2 => ?_, fun v j v0 v1 v2 j0 j1 => ?_⟩
  · rw [kk _ (by omega) (by omega) (by omega)]
    exact a1 v v0 v1 v2
  · have hp := a2 c c0 c1 c2
    rw [show 132 + c = 128 + (c + 4) by omega, show 136 + c = 128 + (c + 8) by omega, show 140 + c = 128 + (c + 12) by omega] at hp ⊢
    have e1 := hj2.2.2.1
    have e2 := hj2.2.2.2
    by_cases q0 : 4 * l = c
    · rcases hz.1 with rfl | rfl
      · have q1 : 4 * h = c + 4 := by omega
        have n0 : m' (128 + c) = 8 := by rw [← q0]; exact kl
        have n4 : m' (128 + (c + 4)) = 0 := by rw [← q1]; exact kh
        have n8 : m' (128 + (c + 8)) = m (128 + (c + 8)) := kk _ (by omega) (by omega) (by omega)
        have n12 : m' (128 + (c + 12)) = m (128 + (c + 12)) := kk _ (by omega) (by omega) (by omega)
        rw [q0] at e1
        rw [q1] at e2
        rw [n0, n4, n8, n12]
        exact pat_j1 hp e1 e2
      · have q1 : 4 * h = c + 8 := by omega
        have n0 : m' (128 + c) = 16 := by rw [← q0]; exact kl
        have n8 : m' (128 + (c + 8)) = 0 := by rw [← q1]; exact kh
        have n4 : m' (128 + (c + 4)) = m (128 + (c + 4)) := kk _ (by omega) (by omega) (by omega)
        have n12 : m' (128 + (c + 12)) = m (128 + (c + 12)) := kk _ (by omega) (by omega) (by omega)
        rw [q0] at e1
        rw [q1] at e2
        rw [n0, n4, n8, n12]
        exact pat_j3 hp e1 e2
    · by_cases q8 : 4 * l = c + 8
      · rcases hz.1 with rfl | rfl
        · have q1 : 4 * h = c + 12 := by omega
          have n8 : m' (128 + (c + 8)) = 8 := by rw [← q8]; exact kl
          have n12 : m' (128 + (c + 12)) = 0 := by rw [← q1]; exact kh
          have n0 : m' (128 + c) = m (128 + c) := kk _ (by omega) (by omega) (by omega)
          have n4 : m' (128 + (c + 4)) = m (128 + (c + 4)) := kk _ (by omega) (by omega) (by omega)
          rw [q8] at e1
          rw [q1] at e2
          rw [n0, n4, n8, n12]
          exact pat_j2 hp e1 e2
        · exfalso
          omega
      · have hne : 4 * l ≠ c + 4 ∧ 4 * l ≠ c + 12 ∧ 4 * h ≠ c ∧ 4 * h ≠ c + 4 ∧ 4 * h ≠ c + 8 ∧ 4 * h ≠ c + 12 := by
          rcases hz.1 with rfl | rfl <;> omega
        rw [kk _ (by omega) (by omega) (by omega), kk (128 + (c + 4)) (by omega) (by omega) (by omega), kk (128 + (c + 8)) (by omega) (by omega) (by omega), kk (128 + (c + 12)) (by omega) (by omega) (by omega)]
        exact hp
  · have e192 : m' (192 + v) = m (192 + v) := kk _ (by omega) (by omega) (by omega)
    have hne : v ≠ 4 * l := fun e => by subst e; omega
    have hne2 : v ≠ 4 * h := fun e => by subst e; omega
    have hs : m' (128 + v) = m (128 + v) := kk _ (by omega) (by omega) (by omega)
    have b := a3 v v0 v1 (by omega)
    have b2 := b64 v v0 v1
    rw [kk (320 + v) (by omega) (by omega) (by omega), hs, kk (64 + v) (by omega) (by omega) (by omega), kk v (by omega) (by omega) (by omega), kk (64 + v + m (320 + v) + 1) (by omega) (by omega) (by omega), kk (v + m (320 + v) + 1) (by omega) (by omega) (by omega)]
    exact b
  · have e192 : m' (192 + v) = m (192 + v) := kk _ (by omega) (by omega) (by omega)
    by_cases e1 : v = 4 * l
    · subst e1
      by_cases hj1 : j < z
      · have a := a4 (4 * l) j v0 v1 hj2.1 j0 (by omega)
        rw [kk (4 * l + j) (by omega) (by omega) (by omega), kk (64 + (4 * l + j)) (by omega) (by omega) (by omega)]
        exact a
      · have a := a4 (4 * h) (j - z) (by omega) (by omega) hj2.2.1 (by omega) (by omega)
        rw [show 4 * h + (j - z) = 4 * l + j by omega] at a
        rw [kk (4 * l + j) (by omega) (by omega) (by omega), kk (64 + (4 * l + j)) (by omega) (by omega) (by omega)]
        exact a
    · by_cases e2 : v = 4 * h
      · subst e2
        omega
      · have hs : m' (128 + v) = m (128 + v) := kk _ (by omega) (by omega) (by omega)
        have b2 := b64 v v0 v1
        have a := a4 v j v0 v1 (by omega) j0 (by omega)
        rw [kk (v + j) (by omega) (by omega) (by omega), kk (64 + (v + j)) (by omega) (by omega) (by omega)]
        exact a

