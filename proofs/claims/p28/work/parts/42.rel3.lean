/-! the relation kept: a block cut in two, a block taken -/
theorem pat_s1 {a b c d : Int} (h : pat a b c d) (h1 : a = 16) : pat 8 b 8 d := by
  unfold pat at h ⊢
  omega
theorem pat_s2 {a b c d : Int} (h : pat a b c d) (h1 : a = 8) : pat 4 4 c d := by
  unfold pat at h ⊢
  omega
theorem pat_s3 {a b c d : Int} (h : pat a b c d) (h1 : c = 8) : pat a b 4 4 := by
  unfold pat at h ⊢
  omega
theorem pat_no {a b c d : Int} (h : pat a b c d) : (a = 16 → b = 0 ∧ c = 0 ∧ d = 0) ∧ (a = 8 → b = 0) ∧ (c = 8 → d = 0) ∧ b ≠ 8 ∧ b ≠ 16 ∧ c ≠ 16 ∧ d ≠ 8 ∧ d ≠ 16 := by
  unfold pat at h
  omega
/-- the place of a block of 8 or 16 words, and its upper half's place, which holds none -/
theorem half_0 {K : Int} {m : Int → Int} (hW : MW K m) (hM : ML m) {i j h : Int} (i0 : 0 ≤ i ∧ i < 16) (hh : h = 4 ∨ h = 8) (e : 4 * j = 4 * i + h) (hm : m (128 + 4 * i) = 2 * h) : j < 16 ∧ (4 * i) % (2 * h) = 0 ∧ m (128 + 4 * j) = 0 := by
  have b := (hW.1 (4 * i) (by omega) (by omega)).2.2.2.2.2.2.2
  have hp := hM.2.1 (4 * i - 4 * i % 16) (by omega) (by omega) (by omega)
  obtain ⟨n1, n2, n3, n4, n5, n6, n7, n8⟩ := pat_no hp
  generalize hc : 4 * i - 4 * i % 16 = c at n1 n2 n3 n4 n5 n6 n7 n8
  rw [show 132 + c = 128 + (c + 4) by omega, show 136 + c = 128 + (c + 8) by omega, show 140 + c = 128 + (c + 12) by omega] at *
  rcases (show 4 * i = c ∨ 4 * i = c + 4 ∨ 4 * i = c + 8 ∨ 4 * i = c + 12 by omega) with q | q | q | q
  · rcases hh with rfl | rfl
    · have e2 : 4 * j = c + 4 := by omega
      rw [q] at hm
      rw [e2]
      exact ⟨by omega, by omega, n2 hm⟩
    · have e2 : 4 * j = c + 8 := by omega
      rw [q] at hm
      rw [e2]
      exact ⟨by omega, by omega, (n1 hm).2.1⟩
  · exfalso
    rw [q] at hm
    rcases hh with rfl | rfl
    · exact n4 hm
    · exact n5 hm
  · rcases hh with rfl | rfl
    · have e2 : 4 * j = c + 12 := by omega
      rw [q] at hm
      rw [e2]
      exact ⟨by omega, by omega, n3 hm⟩
    · exfalso
      rw [q] at hm
      exact n6 hm
  · exfalso
    rw [q] at hm
    rcases hh with rfl | rfl
    · exact n7 hm
    · exact n8 hm
theorem RI_hl {K : Int} {μ : Int → Int → Int} {m : Int → Int} (hR : RI K μ m) (hK : K + 1 ≤ 500000000) {i j s h : Int} (i0 : 0 ≤ i ∧ i < 16) (hs : (s = 0 ∧ h = 4) ∨ (s = 1 ∧ h = 8)) (e : 4 * j = 4 * i + h) (hm : m (128 + 4 * i) = 2 * h) (hf : fre m (4 * i)) : RI (K + 1) (hlC μ i j s) (spl1 m (4 * i) h) := by
  have hh : h = 4 ∨ h = 8 := by omega
  obtain ⟨j1, hal, hj0⟩ := half_0 hR.2.1 hR.2.2 i0 hh e hm
  have j0 : 0 ≤ j := by omega
  have f5 := hf.2
  have hW1 : MW (K + 1) (spl1 m (4 * i) h) := by
    have b := (hR.2.1.1 (4 * i) (by omega) (by omega)).2.2.2.2.2.2.2
    have g8 := hR.2.1.2.2.2.2.1
    have hW := MW_mono hR.2.1 (K' := K + 1) (by omega) hK
    unfold spl1
    exact MW_up (MW_up (MW_up (MW_up hW (k := 128 + 4 * i) (v := h) ⟨by omega, by omega, by omega, by omega, by omega, by omega, by omega, by omega, by omega, by omega, by omega, by omega, by omega⟩)
      (k := 128 + 4 * i + h) (v := h) ⟨by omega, by omega, by omega, by omega, by omega, by omega, by omega, by omega, by omega, by omega, by omega, by omega, by omega⟩) (k := 192 + 4 * i + h) (v := -5) ⟨by omega, by omega, by omega, by omega, by omega, by omega, by omega, by omega, by omega, by omega, by omega, by omega, by omega⟩)
      (k := 468) (v := m 468 + 1) ⟨by omega, by omega, by omega, by omega, by omega, by omega, by omega, by omega, by omega, by omega, by omega, by omega, by omega⟩
  have b64 : ∀ v, 0 ≤ v → v < 64 → v + m (128 + v) ≤ 64 := fun v v0 v1 => (hR.2.1.1 v v0 v1).2.2.2.2.2.2.2
  have kk : ∀ k, k ≠ 128 + 4 * i → k ≠ 128 + 4 * j → k ≠ 192 + 4 * j → k ≠ 468 → spl1 m (4 * i) h k = m k := fun k a b c d => by
    unfold spl1
    rw [up1_ne d, up1_ne (by omega), up1_ne (by omega), up1_ne a]
  have ki : spl1 m (4 * i) h (128 + 4 * i) = h := by
    unfold spl1
    rw [up1_ne (by omega), up1_ne (by omega), up1_ne (by omega), up1_at]
  have kj : spl1 m (4 * i) h (128 + 4 * j) = h := by
    unfold spl1
    rw [up1_ne (by omega), up1_ne (by omega), show 128 + 4 * j = 128 + 4 * i + h by omega, up1_at]
  have k9 : spl1 m (4 * i) h (192 + 4 * j) = -5 := by
    unfold spl1
    rw [up1_ne (by omega), show 192 + 4 * j = 192 + 4 * i + h by omega, up1_at]
  have k8 : spl1 m (4 * i) h 468 = m 468 + 1 := by
    unfold spl1
    rw [up1_at]
  refine ⟨?_, hW1, ?_⟩
  · generalize spl1 m (4 * i) h = m' at kk ki kj k9 k8 ⊢
    have c1 : ∀ o k, o ≠ 3 + i → o ≠ 3 + j → o ≠ 1 → hlC μ i j s o k = μ o k := fun o k a b c => by
      unfold hlC
      rw [upM_ne (Or.inl c), upM_ne (Or.inl b), upM_ne (Or.inl a)]
    have ci : ∀ k, k ≠ 1 → hlC μ i j s (3 + i) k = μ (3 + i) k := fun k a => by
      unfold hlC
      rw [upM_ne (by omega), upM_ne (by omega), upM_ne (by omega)]
    have ci1 : hlC μ i j s (3 + i) 1 = s := by
      unfold hlC
      rw [upM_ne (by omega), upM_ne (by omega), upM_eq]
    have cj : ∀ k, k ≠ 1 → hlC μ i j s (3 + j) k = μ (3 + j) k := fun k a => by
      unfold hlC
      rw [upM_ne (by omega), upM_ne (by omega), upM_ne (by omega)]
    have cj1 : hlC μ i j s (3 + j) 1 = s := by
      unfold hlC
      rw [upM_ne (by omega), upM_eq]
    have c7 : ∀ k, k ≠ 6 → hlC μ i j s 1 k = μ 1 k := fun k a => by
      unfold hlC
      rw [upM_ne (by omega), upM_ne (by omega), upM_ne (by omega)]
    have c77 : hlC μ i j s 1 6 = μ 1 6 + 1 := by
      unfold hlC
      rw [upM_eq]
    have hw2 : wz s = h := by rcases hs with ⟨rfl, e⟩ | ⟨rfl, e⟩ <;> rw [e] <;> rfl
    generalize hlC μ i j s = ν at c1 ci ci1 cj cj1 c7 c77 ⊢
    obtain ⟨rb, rv, rt, r3, r4, r5, r6, r7, r8⟩ := hR.1
    refine ⟨fun q q0 q1 => ?_, fun w w0 w1 => ?_, fun t t0 t1 => ?_, ?_, ?_, ?_, ?_, ?_, ?_⟩
    · rw [show (1 : Int) + 2 + q = 3 + q by omega]
      by_cases e1 : q = i
      · subst e1
        have hb := hR.blk q0 q1
        have k2 := kk (192 + 4 * q) (by omega) (by omega) (by omega) (by omega)
        refine ⟨by rw [ci 0 (by decide)]; exact hb.1, by rw [ci1]; omega, by rw [ci1, ki]; exact hw2, fun z => by omega, fun z => ?_, by rw [ci 4 (by decide), kk _ (by omega) (by omega) (by omega) (by omega)]; exact hb.2.2.2.2.2.1, by rw [ci 5 (by decide), kk _ (by omega) (by omega) (by omega) (by omega)]; exact hb.2.2.2.2.2.2⟩
        rw [ci 2 (by decide)]
        exact hb.2.2.2.2.1 (by omega)
      · by_cases e2 : q = j
        · subst e2
          have hb := hR.blk q0 q1
          refine ⟨by rw [cj 0 (by decide)]; exact hb.1, by rw [cj1]; omega, by rw [cj1, kj]; exact hw2, fun z => by omega, fun z => ?_, by rw [cj 4 (by decide), kk _ (by omega) (by omega) (by omega) (by omega)]; exact hb.2.2.2.2.2.1, by rw [cj 5 (by decide), kk _ (by omega) (by omega) (by omega) (by omega)]; exact hb.2.2.2.2.2.2⟩
          rw [cj 2 (by decide)]
          exact hb.2.2.2.2.1 (by omega)
        · exact blk_keep (hR.blk q0 q1) (fun k => c1 _ _ (by omega) (by omega) (by omega)) (kk _ (by omega) (by omega) (by omega) (by omega)) (kk _ (by omega) (by omega) (by omega) (by omega)) (kk _ (by omega) (by omega) (by omega) (by omega)) (kk _ (by omega) (by omega) (by omega) (by omega)) (kk _ (by omega) (by omega) (by omega) (by omega))
    · rw [show (1 : Int) + 18 = 19 by rfl, c1 19 w (by omega) (by omega) (by decide), kk _ (by omega) (by omega) (by omega) (by omega)]
      exact hR.val w0 w1
    · rw [show (1 : Int) + 20 + t = 21 + t by omega]
      exact tsk_keep (hR.tsk t0 t1) (fun k => c1 _ _ (by omega) (by omega) (by omega)) (kk _ (by omega) (by omega) (by omega) (by omega)) (kk _ (by omega) (by omega) (by omega) (by omega)) (kk _ (by omega) (by omega) (by omega) (by omega))
    · rw [c7 3 (by decide), kk _ (by omega) (by omega) (by omega) (by omega)]; exact r3
    · rw [c7 4 (by decide), kk _ (by omega) (by omega) (by omega) (by omega)]; exact r4
    · rw [c7 5 (by decide), kk _ (by omega) (by omega) (by omega) (by omega)]; exact r5
    · rw [c77, k8, r6]
    · rw [c7 7 (by decide), kk _ (by omega) (by omega) (by omega) (by omega)]; exact r7
    · rw [c7 8 (by decide), kk _ (by omega) (by omega) (by omega) (by omega)]; exact r8
  · generalize spl1 m (4 * i) h = m' at kk ki kj k9 k8 ⊢
    obtain ⟨a1, a2, a3, a4⟩ := hR.2.2
    refine ⟨fun v v0 v1 v2 => ?_, fun c c0 c1 c2 => ?_, fun v v0 v1 v2 => ?_, fun v q v0 v1 v2 q0 q1 => ?_⟩
    · rw [kk _ (by omega) (by omega) (by omega) (by omega)]
      exact a1 v v0 v1 v2
    · have hp := a2 c c0 c1 c2
      rw [show 132 + c = 128 + (c + 4) by omega, show 136 + c = 128 + (c + 8) by omega, show 140 + c = 128 + (c + 12) by omega] at hp ⊢
      by_cases p0 : 4 * i = c
      · rcases hh with rfl | rfl
        · have q1 : 4 * j = c + 4 := by omega
          have n0 : m' (128 + c) = 4 := by rw [← p0]; exact ki
          have n4 : m' (128 + (c + 4)) = 4 := by rw [← q1]; exact kj
          have n8 : m' (128 + (c + 8)) = m (128 + (c + 8)) := kk _ (by omega) (by omega) (by omega) (by omega)
          have n12 : m' (128 + (c + 12)) = m (128 + (c + 12)) := kk _ (by omega) (by omega) (by omega) (by omega)
          rw [p0] at hm
          rw [n0, n4, n8, n12]
          exact pat_s2 hp hm
        · have q1 : 4 * j = c + 8 := by omega
          have n0 : m' (128 + c) = 8 := by rw [← p0]; exact ki
          have n8 : m' (128 + (c + 8)) = 8 := by rw [← q1]; exact kj
          have n4 : m' (128 + (c + 4)) = m (128 + (c + 4)) := kk _ (by omega) (by omega) (by omega) (by omega)
          have n12 : m' (128 + (c + 12)) = m (128 + (c + 12)) := kk _ (by omega) (by omega) (by omega) (by omega)
          rw [p0] at hm
          rw [n0, n4, n8, n12]
          exact pat_s1 hp hm
      · by_cases p8 : 4 * i = c + 8
        · rcases hh with rfl | rfl
          · have q1 : 4 * j = c + 12 := by omega
            have n8 : m' (128 + (c + 8)) = 4 := by rw [← p8]; exact ki
            have n12 : m' (128 + (c + 12)) = 4 := by rw [← q1]; exact kj
            have n0 : m' (128 + c) = m (128 + c) := kk _ (by omega) (by omega) (by omega) (by omega)
            have n4 : m' (128 + (c + 4)) = m (128 + (c + 4)) := kk _ (by omega) (by omega) (by omega) (by omega)
            rw [p8] at hm
            rw [n0, n4, n8, n12]
            exact pat_s3 hp hm
          · exfalso
            omega
        · have hne : 4 * i ≠ c + 4 ∧ 4 * i ≠ c + 12 ∧ 4 * j ≠ c ∧ 4 * j ≠ c + 4 ∧ 4 * j ≠ c + 8 ∧ 4 * j ≠ c + 12 := by
            rcases hh with rfl | rfl <;> omega
          rw [kk _ (by omega) (by omega) (by omega) (by omega), kk (128 + (c + 4)) (by omega) (by omega) (by omega) (by omega), kk (128 + (c + 8)) (by omega) (by omega) (by omega) (by omega), kk (128 + (c + 12)) (by omega) (by omega) (by omega) (by omega)]
          exact hp
    · have nj : v ≠ 4 * j := fun z => by subst z; omega
      have e192 : m' (192 + v) = m (192 + v) := kk _ (by omega) (by omega) (by omega) (by omega)
      have ni : v ≠ 4 * i := fun z => by subst z; omega
      have hs : m' (128 + v) = m (128 + v) := kk _ (by omega) (by omega) (by omega) (by omega)
      have b := a3 v v0 v1 (by omega)
      have b2 := b64 v v0 v1
      rw [kk (320 + v) (by omega) (by omega) (by omega) (by omega), hs, kk (64 + v) (by omega) (by omega) (by omega) (by omega), kk v (by omega) (by omega) (by omega) (by omega), kk (64 + v + m (320 + v) + 1) (by omega) (by omega) (by omega) (by omega), kk (v + m (320 + v) + 1) (by omega) (by omega) (by omega) (by omega)]
      exact b
    · by_cases e1 : v = 4 * i
      · subst e1
        have a := a4 (4 * i) q v0 v1 hf q0 (by omega)
        rw [kk (4 * i + q) (by omega) (by omega) (by omega) (by omega), kk (64 + (4 * i + q)) (by omega) (by omega) (by omega) (by omega)]
        exact a
      · by_cases e2 : v = 4 * j
        · subst e2
          have a := a4 (4 * i) (h + q) (by omega) (by omega) hf (by omega) (by omega)
          rw [show 4 * i + (h + q) = 4 * j + q by omega] at a
          rw [kk (4 * j + q) (by omega) (by omega) (by omega) (by omega), kk (64 + (4 * j + q)) (by omega) (by omega) (by omega) (by omega)]
          exact a
        · have hs : m' (128 + v) = m (128 + v) := kk _ (by omega) (by omega) (by omega) (by omega)
          have e192 : m' (192 + v) = m (192 + v) := kk _ (by omega) (by omega) (by omega) (by omega)
          have b2 := b64 v v0 v1
          have a := a4 v q v0 v1 (by omega) q0 (by omega)
          rw [kk (v + q) (by omega) (by omega) (by omega) (by omega), kk (64 + (v + q)) (by omega) (by omega) (by omega) (by omega)]
          exact a
/-- after the cut: a free block of size z at place i -/
theorem RI_cut {K : Int} {μ : Int → Int → Int} {m : Int → Int} (hR : RI K μ m) (hK : K + 2 ≤ 500000000) {s i : Int} (hs : 0 ≤ s ∧ s ≤ 2) (hr : roomM m (p4 s)) (hi : lowF m (hvM m (p4 s)) = 4 * i) : RI (K + 2) (cutC μ m s i) (takM m (p4 s)) ∧ fre (takM m (p4 s)) (4 * i) ∧ takM m (p4 s) (128 + 4 * i) = p4 s := by
  obtain ⟨r1, r2, r3, r4, r5⟩ := room_rg hR.2.1 p4_rg hr
  rw [hi] at r2 r3 r4 r5
  have hp := p4_rg (z := s)
  rcases r1 with e | ⟨e, z1⟩ | ⟨e, z1⟩
  · rw [tak_1 e]
    unfold cutC
    rw [if_pos e]
    exact ⟨⟨hR.1, MW_mono hR.2.1 (by omega) hK, hR.2.2⟩, r4, by rw [r5, e]⟩
  · have hi2 : lowF m (2 * p4 s) = 4 * i := by rw [← e]; exact hi
    rw [tak_2 (by omega) e, hi2]
    unfold cutC
    rw [if_neg (by omega), if_pos e]
    rw [e] at r5 r3
    have hq : (s = 0 ∧ p4 s = 4) ∨ (s = 1 ∧ p4 s = 8) := by
      rcases (show s = 0 ∨ s = 1 ∨ s = 2 by omega) with rfl | rfl | rfl
      · exact Or.inl ⟨rfl, rfl⟩
      · exact Or.inr ⟨rfl, rfl⟩
      · exact absurd z1 (by decide)
    have h1 := RI_hl hR (by omega) (i := i) (j := i + p4 s / 4) (s := s) (h := p4 s) ⟨by omega, by omega⟩ hq (by omega) r5 r4
    refine ⟨⟨h1.1, MW_mono h1.2.1 (by omega) hK, h1.2.2⟩, ?_⟩
    have f1 : spl1 m (4 * i) (p4 s) (128 + 4 * i) = p4 s := by
      unfold spl1
      rw [up1_ne (by omega), up1_ne (by omega), up1_ne (by omega), up1_at]
    have f2 : spl1 m (4 * i) (p4 s) (192 + 4 * i) = -5 := by
      unfold spl1
      rw [up1_ne (by omega), up1_ne (by omega), up1_ne (by omega), up1_ne (by omega)]
      exact r4.2
    exact ⟨⟨by omega, f2⟩, f1⟩
  · have hi2 : lowF m (4 * p4 s) = 4 * i := by rw [← e]; exact hi
    have hs0 : s = 0 := by
      rcases (show s = 0 ∨ s = 1 ∨ s = 2 by omega) with rfl | rfl | rfl
      · rfl
      · exact absurd z1 (by decide)
      · exact absurd z1 (by decide)
    subst hs0
    rw [tak_3 (by decide) e, hi2]
    unfold cutC
    rw [if_neg (by omega), if_neg (by omega)]
    rw [e] at r5 r3
    rw [show p4 0 = 4 from rfl] at *
    have h1 := RI_hl hR (by omega) (i := i) (j := i + 2) (s := 1) (h := 8) ⟨by omega, by omega⟩ (Or.inr ⟨rfl, rfl⟩) (by omega) r5 r4
    have f1 : spl1 m (4 * i) 8 (128 + 4 * i) = 8 := by
      unfold spl1
      rw [up1_ne (by omega), up1_ne (by omega), up1_ne (by omega), up1_at]
    have f2 : spl1 m (4 * i) 8 (192 + 4 * i) = -5 := by
      unfold spl1
      rw [up1_ne (by omega), up1_ne (by omega), up1_ne (by omega), up1_ne (by omega)]
      exact r4.2
    have h2 := RI_hl h1 (by omega) (i := i) (j := i + 1) (s := 0) (h := 4) ⟨by omega, by omega⟩ (Or.inl ⟨rfl, rfl⟩) (by omega) f1 ⟨by omega, f2⟩
    rw [show K + 1 + 1 = K + 2 by omega] at h2
    refine ⟨h2, ?_⟩
    show fre (spl1 (spl1 m (4 * i) 8) (4 * i) 4) (4 * i) ∧ spl1 (spl1 m (4 * i) 8) (4 * i) 4 (128 + 4 * i) = 4
    have f3 : spl1 (spl1 m (4 * i) 8) (4 * i) 4 (128 + 4 * i) = 4 := by
      generalize spl1 m (4 * i) 8 = f
      unfold spl1
      rw [up1_ne (by omega), up1_ne (by omega), up1_ne (by omega), up1_at]
    have f4 : spl1 (spl1 m (4 * i) 8) (4 * i) 4 (192 + 4 * i) = -5 := by
      rw [← f2]
      generalize spl1 m (4 * i) 8 = f
      unfold spl1
      rw [up1_ne (by omega), up1_ne (by omega), up1_ne (by omega), up1_ne (by omega)]
    exact ⟨⟨by omega, f4⟩, f3⟩
/-- a free block becomes owned -/
theorem RI_own {K : Int} {μ : Int → Int → Int} {m : Int → Int} (hR : RI K μ m) {i t words : Int} (i0 : 0 ≤ i ∧ i < 16) (hf : fre m (4 * i)) (ht : 0 ≤ t ∧ t ≤ 5) (hw : 1 ≤ words ∧ words + 2 ≤ m (128 + 4 * i)) (hg : m 471 < 300) : RI K (grC μ i t words) (up1 (up1 (up1 (up1 (up1 m (192 + 4 * i) (m 471)) (256 + 4 * i) t) (320 + 4 * i) words) (384 + 4 * i) (m 466)) 471 (m 471 + 1)) := by
  have g1 := hR.2.1.2.2.1
  have gg := hR.2.1.2.2.2.2.2.2.2.1
  have b := hR.2.1.1 (4 * i) (by omega) (by omega)
  have hW1 : MW K (up1 (up1 (up1 (up1 (up1 m (192 + 4 * i) (m 471)) (256 + 4 * i) t) (320 + 4 * i) words) (384 + 4 * i) (m 466)) 471 (m 471 + 1)) :=
    MW_up (MW_up (MW_up (MW_up (MW_up hR.2.1 (k := 192 + 4 * i) (v := m 471) ⟨by omega, by omega, by omega, by omega, by omega, by omega, by omega, by omega, by omega, by omega, by omega, by omega, by omega⟩)
      (k := 256 + 4 * i) (v := t) ⟨by omega, by omega, by omega, by omega, by omega, by omega, by omega, by omega, by omega, by omega, by omega, by omega, by omega⟩) (k := 320 + 4 * i) (v := words) ⟨by omega, by omega, by omega, by omega, by omega, by omega, by omega, by omega, by omega, by omega, by omega, by omega, by omega⟩)
      (k := 384 + 4 * i) (v := m 466) ⟨by omega, by omega, by omega, by omega, by omega, by omega, by omega, by omega, by omega, by omega, by omega, by omega, by omega⟩) (k := 471) (v := m 471 + 1) ⟨by omega, by omega, by omega, by omega, by omega, by omega, by omega, by omega, by omega, by omega, by omega, by omega, by omega⟩
  have kk : ∀ k, k ≠ 192 + 4 * i → k ≠ 256 + 4 * i → k ≠ 320 + 4 * i → k ≠ 384 + 4 * i → k ≠ 471 → up1 (up1 (up1 (up1 (up1 m (192 + 4 * i) (m 471)) (256 + 4 * i) t) (320 + 4 * i) words) (384 + 4 * i) (m 466)) 471 (m 471 + 1) k = m k := fun k a b c d e => by
    rw [up1_ne e, up1_ne d, up1_ne c, up1_ne b, up1_ne a]
  have k1 : up1 (up1 (up1 (up1 (up1 m (192 + 4 * i) (m 471)) (256 + 4 * i) t) (320 + 4 * i) words) (384 + 4 * i) (m 466)) 471 (m 471 + 1) (192 + 4 * i) = m 471 := by
    rw [up1_ne (by omega), up1_ne (by omega), up1_ne (by omega), up1_ne (by omega), up1_at]
  have k2 : up1 (up1 (up1 (up1 (up1 m (192 + 4 * i) (m 471)) (256 + 4 * i) t) (320 + 4 * i) words) (384 + 4 * i) (m 466)) 471 (m 471 + 1) (256 + 4 * i) = t := by
    rw [up1_ne (by omega), up1_ne (by omega), up1_ne (by omega), up1_at]
  have k3 : up1 (up1 (up1 (up1 (up1 m (192 + 4 * i) (m 471)) (256 + 4 * i) t) (320 + 4 * i) words) (384 + 4 * i) (m 466)) 471 (m 471 + 1) (320 + 4 * i) = words := by
    rw [up1_ne (by omega), up1_ne (by omega), up1_at]
  have k4 : up1 (up1 (up1 (up1 (up1 m (192 + 4 * i) (m 471)) (256 + 4 * i) t) (320 + 4 * i) words) (384 + 4 * i) (m 466)) 471 (m 471 + 1) (384 + 4 * i) = m 466 := by
    rw [up1_ne (by omega), up1_at]
  have k5 : up1 (up1 (up1 (up1 (up1 m (192 + 4 * i) (m 471)) (256 + 4 * i) t) (320 + 4 * i) words) (384 + 4 * i) (m 466)) 471 (m 471 + 1) 471 = m 471 + 1 := up1_at
  refine ⟨?_, hW1, ?_⟩
  · generalize up1 (up1 (up1 (up1 (up1 m (192 + 4 * i) (m 471)) (256 + 4 * i) t) (320 + 4 * i) words) (384 + 4 * i) (m 466)) 471 (m 471 + 1) = m' at kk k1 k2 k3 k4 k5 ⊢
    obtain ⟨rb, rv, rt, r3, r4, r5, r6, r7, r8⟩ := hR.1
    have c1 : ∀ o k, o ≠ 3 + i → o ≠ 1 → grC μ i t words o k = μ o k := fun o k a b => by
      unfold grC
      rw [upM_ne (Or.inl b), upM_ne (Or.inl a), upM_ne (Or.inl a), upM_ne (Or.inl a), upM_ne (Or.inl a)]
    have ci : ∀ k, k < 2 → grC μ i t words (3 + i) k = μ (3 + i) k := fun k a => by
      unfold grC
      rw [upM_ne (by omega), upM_ne (by omega), upM_ne (by omega), upM_ne (by omega), upM_ne (by omega)]
    have ci2 : grC μ i t words (3 + i) 2 = t := by
      unfold grC
      rw [upM_ne (by omega), upM_ne (by omega), upM_ne (by omega), upM_ne (by omega), upM_eq]
    have ci3 : grC μ i t words (3 + i) 3 = m 471 := by
      unfold grC
      rw [upM_ne (by omega), upM_ne (by omega), upM_ne (by omega), upM_eq]
      exact r5
    have ci4 : grC μ i t words (3 + i) 4 = words := by
      unfold grC
      rw [upM_ne (by omega), upM_ne (by omega), upM_eq]
    have ci5 : grC μ i t words (3 + i) 5 = m 466 := by
      unfold grC
      rw [upM_ne (by omega), upM_eq]
      exact r3
    have c7 : ∀ k, k ≠ 5 → grC μ i t words 1 k = μ 1 k := fun k a => by
      unfold grC
      rw [upM_ne (by omega), upM_ne (by omega), upM_ne (by omega), upM_ne (by omega), upM_ne (by omega)]
    have c77 : grC μ i t words 1 5 = μ 1 5 + 1 := by
      unfold grC
      rw [upM_eq]
    generalize grC μ i t words = ν at c1 ci ci2 ci3 ci4 ci5 c7 c77 ⊢
    refine ⟨fun q q0 q1 => ?_, fun w w0 w1 => ?_, fun t t0 t1 => ?_, ?_, ?_, ?_, ?_, ?_, ?_⟩
    · rw [show (1 : Int) + 2 + q = 3 + q by omega]
      by_cases e1 : q = i
      · subst e1
        have hb := hR.blk q0 q1
        have k8 := kk (128 + 4 * q) (by omega) (by omega) (by omega) (by omega) (by omega)
        exact ⟨by rw [ci 0 (by decide)]; exact hb.1, by rw [ci 1 (by decide)]; exact hb.2.1, by rw [ci 1 (by decide), k8]; exact hb.2.2.1, fun z => by rw [ci2, ci3, k2, k1]; exact ⟨rfl, rfl⟩, fun z => by omega, by rw [ci4, k3], by rw [ci5, k4]⟩
      · exact blk_keep (hR.blk q0 q1) (fun k => c1 _ _ (by omega) (by omega)) (kk _ (by omega) (by omega) (by omega) (by omega) (by omega)) (kk _ (by omega) (by omega) (by omega) (by omega) (by omega)) (kk _ (by omega) (by omega) (by omega) (by omega) (by omega)) (kk _ (by omega) (by omega) (by omega) (by omega) (by omega)) (kk _ (by omega) (by omega) (by omega) (by omega) (by omega))
    · rw [show (1 : Int) + 18 = 19 by rfl, c1 19 w (by omega) (by decide), kk _ (by omega) (by omega) (by omega) (by omega) (by omega)]
      exact hR.val w0 w1
    · rw [show (1 : Int) + 20 + t = 21 + t by omega]
      exact tsk_keep (hR.tsk t0 t1) (fun k => c1 _ _ (by omega) (by omega)) (kk _ (by omega) (by omega) (by omega) (by omega) (by omega)) (kk _ (by omega) (by omega) (by omega) (by omega) (by omega)) (kk _ (by omega) (by omega) (by omega) (by omega) (by omega))
    · rw [c7 3 (by decide), kk _ (by omega) (by omega) (by omega) (by omega) (by omega)]; exact r3
    · rw [c7 4 (by decide), kk _ (by omega) (by omega) (by omega) (by omega) (by omega)]; exact r4
    · rw [c77, k5, r5]
    · rw [c7 6 (by decide), kk _ (by omega) (by omega) (by omega) (by omega) (by omega)]; exact r6
    · rw [c7 7 (by decide), kk _ (by omega) (by omega) (by omega) (by omega) (by omega)]; exact r7
    · rw [c7 8 (by decide), kk _ (by omega) (by omega) (by omega) (by omega) (by omega)]; exact r8
  · generalize up1 (up1 (up1 (up1 (up1 m (192 + 4 * i) (m 471)) (256 + 4 * i) t) (320 + 4 * i) words) (384 + 4 * i) (m 466)) 471 (m 471 + 1) = m' at kk k1 k2 k3 k4 k5 ⊢
    obtain ⟨a1, a2, a3, a4⟩ := hR.2.2
    have b64 : ∀ v, 0 ≤ v → v < 64 → v + m (128 + v) ≤ 64 := fun v v0 v1 => (hR.2.1.1 v v0 v1).2.2.2.2.2.2.2
    refine ⟨fun v v0 v1 v2 => ?_, fun c c0 c1 c2 => ?_, fun v v0 v1 v2 => ?_, fun v q v0 v1 v2 q0 q1 => ?_⟩
    · rw [kk _ (by omega) (by omega) (by omega) (by omega) (by omega)]
      exact a1 v v0 v1 v2
    · rw [kk _ (by omega) (by omega) (by omega) (by omega) (by omega), kk _ (by omega) (by omega) (by omega) (by omega) (by omega), kk _ (by omega) (by omega) (by omega) (by omega) (by omega), kk _ (by omega) (by omega) (by omega) (by omega) (by omega)]
      exact a2 c c0 c1 c2
    · have hs : m' (128 + v) = m (128 + v) := kk _ (by omega) (by omega) (by omega) (by omega) (by omega)
      have b2' := b64 v v0 v1
      by_cases e1 : v = 4 * i
      · subst e1
        have z0 := a4 (4 * i) 0 v0 v1 hf (by decide) hf.1
        have z1 := a4 (4 * i) (words + 1) v0 v1 hf (by omega) (by omega)
        rw [show 4 * i + 0 = 4 * i by omega] at z0
        rw [show 64 + (4 * i + (words + 1)) = 64 + 4 * i + words + 1 by omega, show 4 * i + (words + 1) = 4 * i + words + 1 by omega] at z1
        rw [k3, hs, kk (64 + 4 * i) (by omega) (by omega) (by omega) (by omega) (by omega), kk (4 * i) (by omega) (by omega) (by omega) (by omega) (by omega), kk (64 + 4 * i + words + 1) (by omega) (by omega) (by omega) (by omega) (by omega), kk (4 * i + words + 1) (by omega) (by omega) (by omega) (by omega) (by omega), z0.1, z0.2, z1.1, z1.2]
        exact ⟨hw.1, hw.2, rfl, rfl⟩
      · have e192 : m' (192 + v) = m (192 + v) := kk _ (by omega) (by omega) (by omega) (by omega) (by omega)
        have b := a3 v v0 v1 (by omega)
        rw [kk (320 + v) (by omega) (by omega) (by omega) (by omega) (by omega), hs, kk (64 + v) (by omega) (by omega) (by omega) (by omega) (by omega), kk v (by omega) (by omega) (by omega) (by omega) (by omega), kk (64 + v + m (320 + v) + 1) (by omega) (by omega) (by omega) (by omega) (by omega), kk (v + m (320 + v) + 1) (by omega) (by omega) (by omega) (by omega) (by omega)]
        exact b
    · have hs : m' (128 + v) = m (128 + v) := kk _ (by omega) (by omega) (by omega) (by omega) (by omega)
      have b2 := b64 v v0 v1
      have nv : v ≠ 4 * i := fun z => by
        subst z
        have := v2.2
        omega
      have e192 : m' (192 + v) = m (192 + v) := kk _ (by omega) (by omega) (by omega) (by omega) (by omega)
      have a := a4 v q v0 v1 (by omega) q0 (by omega)
      rw [kk (v + q) (by omega) (by omega) (by omega) (by omega) (by omega), kk (64 + (v + q)) (by omega) (by omega) (by omega) (by omega) (by omega)]
      exact a
theorem RI_ask {K : Int} {μ : Int → Int → Int} {m : Int → Int} (hR : RI K μ m) (hK : K + 2 ≤ 500000000) {t words i : Int} (h : askFM m t words = 0) (hi : askW m words = 4 * i) : RI (K + 2) (grC (cutC μ m (szC words) i) i t words) (askM m t words) := by
  have hq := wr_room h
  have hc := askFM_c m t words
  have hs := szC_rg words
  have hroom := why_room hq.1
  obtain ⟨-, r2, r3, -, -⟩ := room_rg hR.2.1 (szM_rg words) hroom
  have hi2 : lowF m (hvM m (szM words)) = 4 * i := hi
  rw [hi2] at r2 r3
  have hh := takM_hi hR.2.1 (szM_rg words) hroom (k := 471) (by decide)
  have hh2 := takM_hi hR.2.1 (szM_rg words) hroom (k := 466) (by decide)
  rw [← p4_szC] at hroom hh hh2
  obtain ⟨c1, c2, c3⟩ := RI_cut hR hK hs hroom (i := i) (by rw [p4_szC]; exact hi)
  have hw : words + 2 ≤ p4 (szC words) := by
    rw [p4_szC]
    unfold szM
    split
    · omega
    · split <;> omega
  have hsz := szM_rg words
  have hgg := hR.2.1.2.2.2.2.2.2.2.1
  have r4 := (c1.2.1.1 (4 * i) r2 (by rcases hsz with e | e | e <;> unfold hvM at r3 <;> omega)).2.2.2.2.2.2.2
  have := RI_own c1 (i := i) (t := t) (words := words) ⟨by omega, by have := c2.1; omega⟩ c2 (by omega) ⟨by omega, by rw [c3]; exact hw⟩ (by rw [hh]; omega)
  rw [hh, hh2, p4_szC] at this
  unfold askM
  rw [hi]
  exact this

