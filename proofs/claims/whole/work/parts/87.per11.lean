/-! the reference does the commands -/
theorem rc_ext {c c' : Int → Int} {T : Int} (e : ∀ k, 0 ≤ k → k < T → c' k = c k) {x : Int} (hx : 0 ≤ x ∧ x ≤ T) (hf : cFl c T x = 0) {μ : Int → Int → Int} (h : rcOK c' T x μ) : rcOK c T x μ := by
  have es := sgF_ext e hx.1
  obtain ⟨h0, h1, h2, h3, h4⟩ := h
  rw [es] at h0 h1 h2 h3 h4
  have tw : ∀ lo hi, twF c T lo hi x = 0 → nmQ c T 0 5 (x + 1) + 1 ≤ T := fun lo hi q => by
    unfold twF at q
    by_cases b : nmF c T 0 5 (x + 1) = 1 ∨ sgF c T (nmQ c T 0 5 (x + 1)) ≠ 58
    · rw [if_pos b] at q
      exact absurd q (by decide)
    · have hs : sgF c T (nmQ c T 0 5 (x + 1)) = 58 := by omega
      have := sgF_lt (c := c) (T := T) (x := nmQ c T 0 5 (x + 1)) (by rw [hs]; decide)
      omega
  unfold cFl at hf
  refine ⟨h0, fun z => ?_, fun z => ?_, fun z => ?_, fun z => ?_⟩
  · rw [if_pos z] at hf
    have hlt := sgF_lt (c := c) (T := T) (x := x) (by rw [z]; decide)
    have q := nmQ_rg (c := c) (T := T) (lo := 0) (hi := 5) (x := x + 1) (Int.le_refl _) (by omega)
    have t := tw 1 14 hf
    have k := h1 z
    rw [(nmX_ext e (x := x + 1) ⟨by omega, by omega⟩ (lo := 0) (hi := 5) (Int.le_refl _)).2, nmQ_ext (lo := 0) (hi := 5) e (x := x + 1) (by omega), (nmX_ext e (x := nmQ c T 0 5 (x + 1) + 1) ⟨by omega, by omega⟩ (lo := 1) (hi := 14) (by decide)).2] at k
    exact k
  · rw [if_neg (by omega), if_pos z] at hf
    have hlt := sgF_lt (c := c) (T := T) (x := x) (by rw [z]; decide)
    have q := nmQ_rg (c := c) (T := T) (lo := 0) (hi := 5) (x := x + 1) (Int.le_refl _) (by omega)
    have t := tw 0 299 hf
    have k := h2 z
    rw [(nmX_ext e (x := x + 1) ⟨by omega, by omega⟩ (lo := 0) (hi := 5) (Int.le_refl _)).2, nmQ_ext (lo := 0) (hi := 5) e (x := x + 1) (by omega), (nmX_ext e (x := nmQ c T 0 5 (x + 1) + 1) ⟨by omega, by omega⟩ (lo := 0) (hi := 299) (by decide)).2] at k
    exact k
  · have hlt := sgF_lt (c := c) (T := T) (x := x) (by rw [z]; decide)
    have k := h3 z
    rw [(nmX_ext e (x := x + 1) ⟨by omega, by omega⟩ (lo := 1) (hi := 500) (by decide)).2] at k
    exact k
  · have hlt := sgF_lt (c := c) (T := T) (x := x) (by rw [z]; decide)
    have k := h4 z
    rw [(nmX_ext e (x := x + 1) ⟨by omega, by omega⟩ (lo := 0) (hi := 5) (by decide)).2] at k
    exact k
theorem rc_fr {c : Int → Int} {T x : Int} {μ μ' : Int → Int → Int} (h : rcOK c T x μ) (e : ∀ k, 13 ≤ k → k ≤ 15 → μ' 219 k = μ 219 k) : rcOK c T x μ' := by
  unfold rcOK at h ⊢
  rw [e 13 (by decide) (by decide), e 14 (by decide) (by decide), e 15 (by decide) (by decide)]
  exact h
theorem gF_so {ν : Int → Int → Int} {m : Int → Int} {x f : Int} : gF (setO ν 220 m) x f = setO (gF ν x f) 220 m := by
  unfold gF
  rw [uo_219, uo_219]
/-- the reference's second pass from place x: from row m to row m', d commands are done, the fault is e -/
abbrev mGo (c : Int → Int) (T : Int) (n : Nat) (x : Int) (m m' : Int → Int) (d e : Int) : Prop := ∀ (ν : Int → Int → Int) (k : Int), (∀ q, 0 ≤ q → q < T → ν 225 q = c q) → ν 219 8 = T → TM ν → 0 ≤ k → k + n ≤ 100 → ∃ ν' : Int → Int → Int, SPW mi_Mod_go 226 19 [some (vR 219), some (vI 1), some (vI k), some (vI 1), none] [] (st (gF (setO ν 220 m) x 0)) (some (vI (k + d))) (st (setO ν' 220 m')) ∧ (∀ o j, (o ≠ 219 ∨ j < 11 ∨ 16 < j) → ν' o j = ν o j) ∧ ν' 219 16 = e
theorem mG_r {c : Int → Int} {T x K : Int} {F F' : Int → Int → Int} {m m' : Int → Int} {r : Int} (hf : cFl c T x = 0) (hx : 0 ≤ x ∧ x ≤ T) (hS : StpC c T x K F m r F' m') {ν : Int → Int → Int} (ec : ∀ q, 0 ≤ q → q < T → ν 225 q = c q) (eT : ν 219 8 = T) (h : TM ν) : ∃ ν3 : Int → Int → Int, MetC mi_Mod_read [vR 219] (st (gF (setO ν 220 m) x 0)) none (st (setO (gF ν3 (cX c T x) 0) 220 m)) ∧ MetC mi_Mod_does [vR 219] (st (setO (gF ν3 (cX c T x) 0) 220 m)) (some (vI (erF r))) (st (setO (gF ν3 (cX c T x) 0) 220 m')) ∧ (∀ o j, (o ≠ 219 ∨ j < 13 ∨ 15 < j) → ν3 o j = ν o j) := by
  have hT : TM (setO ν 220 m) := by
    unfold TM
    rw [so_219, so_225]
    exact h
  obtain ⟨v13, v14, v15, f', cr, -, e0, -⟩ := m_read hT (x := x) (by rw [so_219, eT]; exact hx)
  rw [so_219, so_225, eT] at cr e0
  rw [(cX_ext ec hx).1] at cr
  rw [(cX_ext ec hx).2] at e0
  obtain ⟨rfl, e2⟩ := e0 hf
  rw [uo_219, uo_219, uo_219] at cr e2
  have e3 := rc_ext ec hx hf e2
  rw [gF_so (ν := upM (upM (upM ν 219 13 v13) 219 14 v14) 219 15 v15)] at cr
  refine ⟨upM (upM (upM ν 219 13 v13) 219 14 v14) 219 15 v15, cr, hS.2.2.2.2.2 _ (rc_fr e3 (fun k k0 k1 => ?_)), fun o j a => ?_⟩
  · rw [gF_o (Or.inr ⟨by omega, by omega⟩), so_219]
  · have a1 : o ≠ 219 ∨ j ≠ 15 := by omega
    have a2 : o ≠ 219 ∨ j ≠ 14 := by omega
    have a3 : o ≠ 219 ∨ j ≠ 13 := by omega
    rw [upM_ne a1, upM_ne a2, upM_ne a3]
theorem mG_f {ν ν3 : Int → Int → Int} {y v : Int} (h : ∀ o j, (o ≠ 219 ∨ j < 13 ∨ 15 < j) → ν3 o j = ν o j) : ∀ o j, (o ≠ 219 ∨ j < 11 ∨ 16 < j) → upM (gF ν3 y 0) 219 16 v o j = ν o j := fun o j a => by
  have a1 : o ≠ 219 ∨ j ≠ 16 := by omega
  have a2 : o ≠ 219 ∨ (j ≠ 11 ∧ j ≠ 12) := by omega
  have a3 : o ≠ 219 ∨ j < 13 ∨ 15 < j := by omega
  rw [upM_ne a1, gF_o a2, h o j a3]
theorem mG_s {c : Int → Int} {T x K : Int} {F F' : Int → Int → Int} {m m' : Int → Int} {r : Int} {n : Nat} (hf : cFl c T x = 0) (hx : 0 ≤ x ∧ x ≤ T) (hS : StpC c T x K F m r F' m') (he : erF r ≠ 0) : mGo c T n x m m' 0 (erF r) := by
  intro ν k ec eT h k0 k1
  obtain ⟨ν3, cr, cd, fr⟩ := mG_r hf hx hS ec eT h
  have s := dgo_s ⟨k0, by omega⟩ cr cd (by rw [so_219, gF_12]) he
  rw [uo_219] at s
  exact ⟨_, s, mG_f fr, upM_eq⟩
theorem mG_e {c : Int → Int} {T x K : Int} {F F' : Int → Int → Int} {m m' : Int → Int} {r : Int} {n : Nat} (hf : cFl c T x = 0) (hx : 0 ≤ x ∧ x ≤ T) (hS : StpC c T x K F m r F' m') (he : erF r = 0) (hX : cX c T x = T) : mGo c T n x m m' 1 0 := by
  intro ν k ec eT h k0 k1
  obtain ⟨ν3, cr, cd, fr⟩ := mG_r hf hx hS ec eT h
  rw [he] at cd
  have s := dgo_e ⟨k0, by omega⟩ cr cd (by rw [so_219, gF_12]) (by rw [so_219, gF_11, gF_o (Or.inr ⟨by decide, by decide⟩), fr 219 8 (Or.inr (Or.inl (by decide))), eT, hX]; exact Int.le_refl _)
  rw [uo_219] at s
  exact ⟨_, s, mG_f fr, upM_eq⟩
theorem mG_c {c : Int → Int} {T x K : Int} {F F' : Int → Int → Int} {m m' m'' : Int → Int} {r d e : Int} {n : Nat} (hf : cFl c T x = 0) (hx : 0 ≤ x ∧ x ≤ T) (hS : StpC c T x K F m r F' m') (he : erF r = 0) (hX : cX c T x < T) (h44 : sgF c T (cX c T x) = 44) (hg : mGo c T n (cX c T x + 1) m' m'' d e) : mGo c T (n + 1) x m m'' (d + 1) e := by
  intro ν k ec eT h k0 k1
  obtain ⟨ν3, cr, cd, fr⟩ := mG_r hf hx hS ec eT h
  rw [he] at cd
  have x0 := (cX_rg (c := c) hx.2).1
  have f8 : ν3 219 8 = T := by
    rw [fr 219 8 (Or.inr (Or.inl (by decide)))]
    exact eT
  have f225 : ν3 225 = ν 225 := by
    funext q
    exact fr 225 q (Or.inl (by decide))
  have e1 : upM (setO (gF ν3 (cX c T x) 0) 220 m') 219 16 0 = gF (setO (upM ν3 219 16 0) 220 m') (cX c T x) 0 := by
    rw [uo_219, gF_u ⟨by decide, by decide⟩, gF_so]
  have t8 : upM ν3 219 16 0 219 8 = T := by
    rw [u8 (by decide)]
    exact f8
  have t225 : upM ν3 219 16 0 225 = ν 225 := by
    rw [u225]
    exact f225
  have hM : TM (upM ν3 219 16 0) := by
    unfold TM
    rw [t8, t225, ← eT]
    exact h
  have c2 := c_gs_o (μ := setO (upM ν3 219 16 0) 220 m') (lo := 44) (hi := 44) (x := cX c T x) ⟨by omega, by have := h.1; omega⟩ (by rw [so_219]; exact hM.1) (by rw [so_219, so_225, t8, t225, sgF_ext ec (by omega), h44]; exact ⟨by decide, by decide⟩)
  rw [← e1] at c2
  obtain ⟨ν', s, g1, g2⟩ := hg (upM ν3 219 16 0) (k + 1) (by rw [t225]; exact ec) t8 hM (by omega) (by omega)
  rw [show k + 1 + d = k + (d + 1) by omega] at s
  have z := dgo_c ⟨k0, by omega⟩ cr cd (by rw [so_219, gF_12]) (by rw [so_219, gF_11, gF_o (Or.inr ⟨by decide, by decide⟩), f8]; exact hX) c2 (by rw [gF_12]) s
  refine ⟨ν', z, fun o j a => ?_, g2⟩
  have a1 : o ≠ 219 ∨ j ≠ 16 := by omega
  have a2 : o ≠ 219 ∨ j < 13 ∨ 15 < j := by omega
  rw [g1 o j a, upM_ne a1, fr o j a2]

