/-! perform: a faulty text -/
theorem TB_of {K : Int} {μ : Int → Int → Int} (h : IV K μ) : TB μ := by
  have ht := h.txt
  have hc := h.chr
  clear h
  refine ⟨by omega, fun k k0 k1 => ?_⟩
  have := hc k k0 k1
  omega
theorem TM_of {K : Int} {μ : Int → Int → Int} (h : IV K μ) : TM μ := ⟨h.txt.2, fun k k0 k1 => (h.chr k k0 k1).2⟩
theorem rd_same {K : Int} {μ : Int → Int → Int} (h : IV K μ) : rdR (μ 186) (μ 185 1) 30 0 = rdR (μ 225) (μ 219 8) 30 0 := by
  have ht := h.txt
  have hc := h.chr
  clear h
  rw [ht.1]
  exact rdR_ext (fun k k0 k1 => (hc k k0 (by omega)).1) 30 0 ⟨Int.le_refl _, ht.2.1⟩
/-- only what reading leaves behind has changed -/
theorem IV_keep {K K' : Int} {μ T : Int → Int → Int} (h : IV K μ) (hK : K ≤ K') (hK' : K' ≤ 500000000) (w1 : ∀ o k, (o < 185 ∨ 218 ≤ o ∨ o = 186) → (o ≠ 219 ∨ k < 11 ∨ 16 < k) → o ≠ 221 → T o k = μ o k) (w2 : T 185 1 = μ 185 1) : IV K' T := by
  have hr := h.ref
  have hs := h.stp
  have ht := h.txt
  have hc := h.chr
  refine IV_lite h hK hK' (fun o k a b => w1 o k (Or.inl b) (Or.inl (Int.ne_of_lt (Int.lt_trans b (by decide)))) (Int.ne_of_lt (Int.lt_trans b (by decide)))) (fun k a => w1 0 k (Or.inl (by decide)) (Or.inl (by decide)) (by decide)) (fun k a => w1 219 k (Or.inr (Or.inl (by decide))) (Or.inr (Or.inl (Int.lt_trans a (by decide)))) (by decide)) (fun o k a => ?_) (fun k k0 k1 => ?_) ?_ ?_ (fun k k0 k1 => ?_)
  · rcases a with rfl | rfl | rfl
    · exact w1 _ k (Or.inr (Or.inl (by decide))) (Or.inl (by decide)) (by decide)
    · exact w1 _ k (Or.inr (Or.inl (by decide))) (Or.inl (by decide)) (by decide)
    · exact w1 _ k (Or.inr (Or.inl (by decide))) (Or.inl (by decide)) (by decide)
  · rw [w1 218 _ (Or.inr (Or.inl (by decide))) (Or.inl (by decide)) (by decide), w1 224 _ (Or.inr (Or.inl (by decide))) (Or.inl (by decide)) (by decide)]
    have r := hr k k0 k1
    exact ⟨r.1, r.2.1, Int.le_trans r.2.2 hK⟩
  · rw [w1 0 7 (Or.inl (by decide)) (Or.inl (by decide)) (by decide), w1 0 8 (Or.inl (by decide)) (Or.inl (by decide)) (by decide), w1 0 9 (Or.inl (by decide)) (Or.inl (by decide)) (by decide), w1 219 9 (Or.inr (Or.inl (by decide))) (Or.inr (Or.inl (by decide))) (by decide), w1 219 10 (Or.inr (Or.inl (by decide))) (Or.inr (Or.inl (by decide))) (by decide)]
    exact hs
  · rw [w2, w1 219 8 (Or.inr (Or.inl (by decide))) (Or.inr (Or.inl (by decide))) (by decide)]
    exact ht
  · rw [w1 186 _ (Or.inr (Or.inr rfl)) (Or.inl (by decide)) (by decide), w1 225 _ (Or.inr (Or.inl (by decide))) (Or.inl (by decide)) (by decide)]
    exact hc k k0 k1
/-- the text is read by the class: what is known of the memory behind it -/
theorem rd_cls {K : Int} {μ : Int → Int → Int} (h : IV K μ) : ∃ G, MetC mi_Txt_read [vR 185] (st μ) (some (vI (rdR (μ 225) (μ 219 8) 30 0))) (st G) ∧ (∀ o k, (o < 185 ∨ 218 ≤ o ∨ o = 186) → G o k = μ o k) ∧ G 185 1 = μ 185 1 ∧ (rdR (μ 225) (μ 219 8) 30 0 = -1 → G 185 3 = rdN (μ 186) (μ 185 1) 30 0 ∧ ∀ j : Nat, j < rdN (μ 186) (μ 185 1) 30 0 → cOK (μ 186) (μ 185 1) (ps (μ 186) (μ 185 1) j 0) G (188 + j)) := by
  obtain ⟨μ1, x1, f1, cr, fr, ok⟩ := c_read (TB_of h)
  rw [rd_same h] at cr ok
  clear h
  refine ⟨_, cr, fun o k a => ?_, ?_, fun q => ?_⟩
  · have a1 : o ≠ 185 := by omega
    rw [tF_o (Or.inl a1)]
    exact fr o k (by omega) (Or.inl a1)
  · rw [tF_o (Or.inr ⟨by decide, by decide⟩)]
    exact fr 185 1 (Or.inl (by decide)) (Or.inr (by decide))
  · obtain ⟨e1, e2⟩ := ok q
    refine ⟨by rw [tF_o (Or.inr ⟨by decide, by decide⟩)]; exact e1, fun j hj => cOK_fr (e2 j hj) (fun k => tF_o (Or.inl (by omega)))⟩
/-- the reference's first pass -/
theorem rd_mod {μ : Int → Int → Int} (h : TM μ) : ∃ k' T, MetC mi_Mod_go [vR 219, vI 0] (st μ) (some (vI k')) (st T) ∧ (∀ o j, (o ≠ 219 ∨ j < 11 ∨ 16 < j) → T o j = μ o j) ∧ (rdR (μ 225) (μ 219 8) 30 0 = -1 → T 219 12 = 0) ∧ (rdR (μ 225) (μ 219 8) 30 0 ≠ -1 → T 219 12 = 1 ∧ T 219 11 = rdR (μ 225) (μ 219 8) 30 0) := by
  have k1 : upM μ 219 16 0 225 = μ 225 := u225
  have k2 : upM μ 219 16 0 219 8 = μ 219 8 := u8 (by decide)
  obtain ⟨k', μ', x', f', s1, s2, s3, s4, s5⟩ := m_go0 30 0 0 (upM μ 219 16 0) k1 k2 (TM_u h (by decide)) rfl (Int.le_refl _) (by decide) h.1.1
  refine ⟨k', _, c_Mod_go s1, fun o j a => ?_, fun q => ?_, fun q => ?_⟩
  · have a1 : o ≠ 219 ∨ (j ≠ 11 ∧ j ≠ 12) := by omega
    have a2 : o ≠ 219 ∨ j < 13 ∨ 16 < j := by omega
    have a3 : o ≠ 219 ∨ j ≠ 16 := by omega
    rw [gF_o a1, s2 o j a2, upM_ne a3]
  · rw [gF_12]
    exact s4 q
  · rw [gF_12, gF_11]
    exact s5 q
theorem two_perform_f {K : Int} {μ : Int → Int → Int} (h : IV K μ) (hK : K + 40000 ≤ 500000000) (hr : rdR (μ 225) (μ 219 8) 30 0 ≠ -1) : Two mi_Poo_perform mi_Mod_perform [vR 0] [vR 219] K μ := by
  have ht := h.txt
  have rg : 0 ≤ rdR (μ 225) (μ 219 8) 30 0 ∧ rdR (μ 225) (μ 219 8) 30 0 ≤ 60 := by
    rcases rdR_rg (c := μ 225) (T := μ 219 8) 30 0 ht.2.1 with e | e
    · exact absurd e hr
    · exact ⟨e.1, Int.le_trans e.2 ht.2.2⟩
  obtain ⟨G, cr, g1, g2, -⟩ := rd_cls h
  have ca := c_Poo_perform_f cr hr rg
  have k1 : G 225 = μ 225 := by
    funext k
    exact g1 225 k (Or.inr (Or.inl (by decide)))
  have k2 : G 219 8 = μ 219 8 := g1 219 8 (Or.inr (Or.inl (by decide)))
  have hM : TM G := by
    unfold TM
    rw [k1, k2]
    exact TM_of h
  obtain ⟨k', T, c2, t1, -, t3⟩ := rd_mod hM
  rw [k1, k2] at t3
  have cb := c_Mod_perform_f c2 (t3 hr).1 (t3 hr).2 rg
  refine ⟨_, _, _, ca, cb, IV_keep h (by omega) hK (fun o k a b c => ?_) ?_, fun k => g1 (-1) k (Or.inl (by decide)), fun k => (t1 (-1) k (Or.inl (by decide))).trans (g1 (-1) k (Or.inl (by decide)))⟩
  · rw [t1 o k b]
    exact g1 o k a
  · rw [t1 185 1 (Or.inl (by decide))]
    exact g2

