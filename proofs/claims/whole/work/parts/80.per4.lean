/-! the reference's first pass answers what the class's reading answers -/
theorem m_go0 {c : Int → Int} {T : Int} : ∀ (n : Nat) (k x : Int) (μ : Int → Int → Int), μ 225 = c → μ 219 8 = T → TM μ → k + n = 30 → 0 ≤ k → 2 * k ≤ x → x ≤ T → ∃ k' μ' x' f', SPW mi_Mod_go 226 19 [some (vR 219), some (vI 0), some (vI k), some (vI 1), none] [] (st (gF μ x 0)) (some (vI k')) (st (gF μ' x' f')) ∧ (∀ o j, (o ≠ 219 ∨ j < 13 ∨ 16 < j) → μ' o j = μ o j) ∧ (f' = 0 ∨ f' = 1) ∧ (rdR c T n x = -1 → f' = 0) ∧ (rdR c T n x ≠ -1 → f' = 1 ∧ x' = rdR c T n x) := by
  intro n
  induction n with
  | zero =>
    intro k x μ ec eT h hk k0 kx xT
    have h60 := h.1
    have hx : x = T := by omega
    obtain ⟨v13, v14, v15, f', cr, f01, -, e1⟩ := m_read h (x := x) ⟨by omega, by omega⟩
    rw [ec, eT] at cr e1
    have sg : sgF c T x = 0 := if_neg (by omega)
    have hc : cX c T x = x := by
      unfold cX
      rw [sg]
      rfl
    have hf : cFl c T x = 1 := by
      unfold cFl
      rw [sg]
      rfl
    rw [hc] at cr e1
    have hd : dgt c T x = -1 := by
      show dgF (sgF c T x) = -1
      rw [sg]
      rfl
    have f1 : f' = 1 := by
      rcases f01 with e | e
      · have := e1 hf e
        omega
      · exact e
    subst f1
    exact ⟨_, _, _, 1, go_w ⟨k0, by omega⟩ cr, fun o j a => by rw [upM_ne (by omega), upM_ne (by omega), upM_ne (by omega), upM_ne (by omega)], Or.inr rfl, fun q => by
      have q' : x = -1 := q
      omega, fun _ => ⟨rfl, rfl⟩⟩
  | succ n ih =>
    intro k x μ ec eT h hk k0 kx xT
    have h60 := h.1
    obtain ⟨v13, v14, v15, f', cr, f01, e0, e1⟩ := m_read h (x := x) ⟨by omega, by omega⟩
    rw [ec, eT] at cr e0 e1
    have hg := cX_rg (c := c) (T := T) xT
    have c01 := cFl_01 c T x
    have k1 : upM (upM (upM (upM μ 219 13 v13) 219 14 v14) 219 15 v15) 219 16 0 225 = c := by rw [u225, u225, u225, u225]; exact ec
    have k2 : upM (upM (upM (upM μ 219 13 v13) 219 14 v14) 219 15 v15) 219 16 0 219 8 = T := by rw [u8 (by decide), u8 (by decide), u8 (by decide), u8 (by decide)]; exact eT
    have k3 : upM (upM (upM μ 219 13 v13) 219 14 v14) 219 15 v15 219 8 = T := by rw [u8 (by decide), u8 (by decide), u8 (by decide)]; exact eT
    have fr : ∀ o j, (o ≠ 219 ∨ j < 13 ∨ 16 < j) → upM (upM (upM (upM μ 219 13 v13) 219 14 v14) 219 15 v15) 219 16 0 o j = μ o j := fun o j a => by rw [upM_ne (by omega), upM_ne (by omega), upM_ne (by omega), upM_ne (by omega)]
    have hTM : TM (upM (upM (upM (upM μ 219 13 v13) 219 14 v14) 219 15 v15) 219 16 0) := TM_u (TM_u (TM_u (TM_u h (by decide)) (by decide)) (by decide)) (by decide)
    by_cases a : cFl c T x = 1
    · have er : rdR c T (n + 1) x = cX c T x := if_pos a
      rw [er]
      rcases f01 with e | e
      · subst e
        have hd := dg_y (c := c) (T := T) (q := cX c T x) (e1 a rfl)
        have hsg : sgF c T (cX c T x) = c (cX c T x) := if_pos hd.1
        exact ⟨_, _, _, 1, go_n ⟨k0, by omega⟩ cr (by rw [k3]; exact hd.1) (c_gs_e ⟨by omega, by omega⟩ hTM.1 (by rw [k1, k2, hsg]; omega)), fr, Or.inr rfl, fun q => by omega, fun _ => ⟨rfl, rfl⟩⟩
      · subst e
        exact ⟨_, _, _, 1, go_w ⟨k0, by omega⟩ cr, fr, Or.inr rfl, fun q => by omega, fun _ => ⟨rfl, rfl⟩⟩
    · have a0 : cFl c T x = 0 := by omega
      have e := (e0 a0).1
      subst e
      by_cases b : cX c T x = T
      · have er : rdR c T (n + 1) x = -1 := (if_neg a).trans (if_pos b)
        rw [er]
        exact ⟨_, _, _, 0, go_e ⟨k0, by omega⟩ cr (by rw [k3]; omega), fr, Or.inl rfl, fun _ => rfl, fun q => absurd rfl q⟩
      · by_cases d : sgF c T (cX c T x) = 44
        · have er : rdR c T (n + 1) x = rdR c T n (cX c T x + 1) := ((if_neg a).trans (if_neg b)).trans (if_neg (fun z => z d))
          obtain ⟨k', μ', x', f', s1, s2, s3, s4, s5⟩ := ih (k + 1) (cX c T x + 1) _ k1 k2 hTM (by omega) (by omega) (by omega) (by omega)
          rw [er]
          exact ⟨k', μ', x', f', go_c ⟨k0, by omega⟩ cr (by rw [k3]; omega) (c_gs_o ⟨by omega, by omega⟩ hTM.1 (by rw [k1, k2, d]; exact ⟨by decide, by decide⟩)) s1, fun o j q => by rw [s2 o j q]; exact fr o j q, s3, s4, s5⟩
        · have er : rdR c T (n + 1) x = cX c T x := ((if_neg a).trans (if_neg b)).trans (if_pos d)
          rw [er]
          exact ⟨_, _, _, 1, go_n ⟨k0, by omega⟩ cr (by rw [k3]; omega) (c_gs_e ⟨by omega, by omega⟩ hTM.1 (by rw [k1, k2]; omega)), fr, Or.inr rfl, fun q => by omega, fun _ => ⟨rfl, rfl⟩⟩

