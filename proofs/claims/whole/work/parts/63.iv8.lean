/-! the steps: undo, keep, restore -/
theorem self_at {ν μ : Int → Int → Int} (e : ∀ k, ν 220 k = μ 220 k) : setO ν 220 (μ 220) = ν := by
  have e' : ν 220 = μ 220 := by funext k; exact e k
  have h := setO_self (μ := ν) (o := 220)
  rw [e'] at h
  exact h
theorem two_undo {K : Int} {μ : Int → Int → Int} (h : IV K μ) (hK : K + 40000 ≤ 500000000) : Two mi_Poo_undo mi_Mod_undo [vR 0] [vR 219] K μ := by
  have n0 := h.nx
  have l0 := h.ln
  by_cases q : μ 219 3 = 0
  · have cb := c_Mod_undo_e (m := μ 220) q
    rw [setO_self] at cb
    exact Two_q h hK (c_Poo_undo_e n0 (by omega) (by omega)) cb
  · have hj := h.his 0 (Int.le_refl _) (by omega)
    have ep : 81 + 26 * tkP μ = hAt μ 0 := by
      unfold tkP hAt
      split <;> omega
    have hp : 0 ≤ tkP μ ∧ tkP μ < 4 ∧ tkP μ = (μ 79 1 + 3) % 4 := by
      unfold tkP
      split <;> omega
    have g := hAt_rg μ 0
    have ca := c_Poo_undo_o (μ := μ) n0 (by omega) (by omega) (by rw [ep]; exact alS_of hj.1 hj.2.1)
    rw [l0.1] at ca
    have r_o : ∀ o k, (o < 1 ∨ 27 ≤ o) → o ≠ 79 → tkM μ o k = μ o k := fun o k a b => by
      unfold tkM
      rw [upM_ne (Or.inl b), upM_ne (Or.inl b), cS_o (by omega)]
    have r_s : ∀ o k, 1 ≤ o → o < 27 → tkM μ o k = cS μ 1 (hAt μ 0) o k := fun o k a b => by
      unfold tkM
      rw [upM_ne (by omega), upM_ne (by omega), ep]
    have r1 : tkM μ 79 1 = tkP μ := by
      unfold tkM
      rw [upM_ne (Or.inr (by omega)), upM_eq]
    have r2 : tkM μ 79 2 = μ 79 2 - 1 := by
      unfold tkM
      rw [upM_eq]
    have r3 : tkM μ 219 3 = μ 219 3 := r_o 219 3 (by omega) (by omega)
    have cb := c_Mod_undo_o (μ := tkM μ) (m := μ 220) (by rw [r3]; omega)
    rw [self_at (fun k => r_o 220 k (by omega) (by omega)), r3] at cb
    refine ⟨_, _, _, ca, cb, ?_, fun k => r_o (-1) k (Or.inl (by decide)) (by decide), fun k => by rw [setO_ne (by decide), upM_ne (Or.inl (by decide))]; exact r_o (-1) k (Or.inl (by decide)) (by decide)⟩
    generalize tkM μ = G at *
    have t_o : ∀ o k, o ≠ 220 → (o ≠ 219 ∨ k ≠ 3) → setO (upM G 219 3 (μ 219 3 - 1)) 220 (cpy (fun k => G 222 (472 * (μ 219 3 - 1) + k)) (μ 220) 0 472) o k = G o k := fun o k a b => by
      rw [setO_ne a, upM_ne b]
    have t_3 : setO (upM G 219 3 (μ 219 3 - 1)) 220 (cpy (fun k => G 222 (472 * (μ 219 3 - 1) + k)) (μ 220) 0 472) 219 3 = μ 219 3 - 1 := by
      rw [setO_ne (by omega), upM_eq]
    have t_220 : ∀ k, 0 ≤ k → k < 472 → setO (upM G 219 3 (μ 219 3 - 1)) 220 (cpy (fun k => G 222 (472 * (μ 219 3 - 1) + k)) (μ 220) 0 472) 220 k = hRow μ 0 k := fun k k0 k1 => by
      rw [setO_at]
      unfold cpy
      rw [if_pos (by omega)]
      show G 222 _ = μ 222 _
      rw [r_o 222 _ (by omega) (by omega)]
      congr 1
      omega
    generalize setO (upM G 219 3 (μ 219 3 - 1)) 220 (cpy (fun k => G 222 (472 * (μ 219 3 - 1) + k)) (μ 220) 0 472) = T at t_o t_3 t_220 ⊢
    have hT : ∀ o k, (o < 1 ∨ 27 ≤ o) → o ≠ 79 → o ≠ 220 → (o ≠ 219 ∨ k ≠ 3) → T o k = μ o k := fun o k a b c d => by
      rw [t_o o k c d, r_o o k a b]
    have hS : ∀ o k, 1 ≤ o → o < 27 → T o k = cS μ 1 (hAt μ 0) o k := fun o k a b => by
      rw [t_o o k (by omega) (by omega), r_s o k a b]
    have far : (1 : Int) + 26 ≤ hAt μ 0 ∨ hAt μ 0 + 26 ≤ 1 := by omega
    have hnow : RW K T 1 (T 220) := ((hj.cp far (h.beg 1 stB_1)).fr (fun o k a b => hS o k a (by omega))).ext t_220
    have ea : T 79 1 = tkP μ := by rw [t_o 79 1 (by omega) (by omega), r1]
    refine ⟨hnow.mono (by omega) hK, fun b hb => ?_, by rw [ea]; omega, ?_, fun j j0 j1 => ?_, ?_, fun k k0 k1 => ?_, ?_, ?_, fun k k0 k1 => ?_⟩
    · by_cases e : b = 1
      · subst e
        intro i i0 i1
        exact (hnow.1.1 i i0 i1).1
      · exact bgS_fr (h.beg b hb) (fun o k a c => hT o k (by unfold stB at hb; omega) (by unfold stB at hb; omega) (by unfold stB at hb; omega) (by unfold stB at hb; omega))
    · rw [t_o 79 2 (by omega) (by omega), r2, t_3]
      omega
    · rw [t_3] at j1
      have b1 : hAt T j = hAt μ (j + 1) := by
        unfold hAt
        rw [ea, hp.2.2]
        omega
      have g2 := hAt_rg μ (j + 1)
      rw [b1]
      have c1 : RW K T (hAt μ (j + 1)) (hRow μ (j + 1)) := (h.his (j + 1) (by omega) (by omega)).fr (fun o k a b => by
        have : o ≠ 79 := by omega
        exact hT o k (by omega) this (by omega) (by omega))
      refine (c1.mono (by omega) hK).ext (fun k k0 k1 => ?_)
      unfold hRow
      rw [hT 222 _ (by omega) (by omega) (by omega) (by omega), t_3]
      congr 1
      omega
    · have a3 : T 223 = μ 223 := by funext k; exact hT 223 k (by omega) (by omega) (by omega) (by omega)
      rw [hT 0 3 (by omega) (by omega) (by omega) (by omega), hT 219 5 (by omega) (by omega) (by omega) (by omega), a3]
      exact ⟨h.snp.1, h.snp.2.1, fun a => ((h.snp.2.2 a).mono (by omega) hK).fr (fun o k a b => hT o k (by omega) (by omega) (by omega) (by omega))⟩
    · rw [hT 218 _ (by omega) (by omega) (by omega) (by omega), hT 224 _ (by omega) (by omega) (by omega) (by omega)]
      have := h.ref k k0 k1
      omega
    · rw [hT 0 7 (by omega) (by omega) (by omega) (by omega), hT 0 8 (by omega) (by omega) (by omega) (by omega), hT 0 9 (by omega) (by omega) (by omega) (by omega), hT 219 9 (by omega) (by omega) (by omega) (by omega), hT 219 10 (by omega) (by omega) (by omega) (by omega)]
      exact h.stp
    · rw [hT 185 1 (by omega) (by omega) (by omega) (by omega), hT 219 8 (by omega) (by omega) (by omega) (by omega)]
      exact h.txt
    · rw [hT 186 _ (by omega) (by omega) (by omega) (by omega), hT 225 _ (by omega) (by omega) (by omega) (by omega)]
      exact h.chr k k0 k1
theorem two_keep {K : Int} {μ : Int → Int → Int} (h : IV K μ) (hK : K + 40000 ≤ 500000000) : Two mi_Poo_keep mi_Mod_keep [vR 0] [vR 219] K μ := by
  have ca := c_Poo_keep (μ := μ) h.now.ri
  have cb := c_Mod_keep (μ := upM (cS μ 53 1) 0 3 1) (m := μ 220) h.now.2.1
  have r_o : ∀ o k, (o < 53 ∨ 79 ≤ o) → (o ≠ 0 ∨ k ≠ 3) → upM (cS μ 53 1) 0 3 1 o k = μ o k := fun o k a b => by
    rw [upM_ne b, cS_o (by omega)]
  have r_s : ∀ o k, 53 ≤ o → o < 79 → upM (cS μ 53 1) 0 3 1 o k = cS μ 53 1 o k := fun o k a b => upM_ne (by omega)
  have r_3 : upM (cS μ 53 1) 0 3 1 0 3 = 1 := upM_eq
  rw [self_at (fun k => r_o 220 k (by omega) (by omega))] at cb
  refine ⟨_, _, _, ca, cb, ?_, fun k => r_o (-1) k (Or.inl (by decide)) (Or.inl (by decide)), fun k => by rw [setO_ne (by decide), setO_ne (by decide), upM_ne (Or.inl (by decide))]; exact r_o (-1) k (Or.inl (by decide)) (Or.inl (by decide))⟩
  generalize upM (cS μ 53 1) 0 3 1 = G at *
  have t_o : ∀ o k, o ≠ 220 → o ≠ 223 → (o ≠ 219 ∨ k ≠ 5) → setO (setO (upM G 219 5 1) 223 (cpy (μ 220) (G 223) 0 472)) 220 (μ 220) o k = G o k := fun o k a b c => by
    rw [setO_ne a, setO_ne b, upM_ne c]
  have t_5 : setO (setO (upM G 219 5 1) 223 (cpy (μ 220) (G 223) 0 472)) 220 (μ 220) 219 5 = 1 := by
    rw [setO_ne (by omega), setO_ne (by omega), upM_eq]
  have t_220 : setO (setO (upM G 219 5 1) 223 (cpy (μ 220) (G 223) 0 472)) 220 (μ 220) 220 = μ 220 := setO_at
  have t_223 : ∀ k, 0 ≤ k → k < 472 → setO (setO (upM G 219 5 1) 223 (cpy (μ 220) (G 223) 0 472)) 220 (μ 220) 223 k = μ 220 k := fun k k0 k1 => by
    rw [setO_ne (by omega), setO_at]
    unfold cpy
    rw [if_pos (by omega), Int.sub_zero]
  generalize setO (setO (upM G 219 5 1) 223 (cpy (μ 220) (G 223) 0 472)) 220 (μ 220) = T at t_o t_5 t_220 t_223 ⊢
  have hT : ∀ o k, (o < 53 ∨ 79 ≤ o) → (o ≠ 0 ∨ k ≠ 3) → o ≠ 220 → o ≠ 223 → (o ≠ 219 ∨ k ≠ 5) → T o k = μ o k := fun o k a b c d e => by
    rw [t_o o k c d e, r_o o k a b]
  have hS : ∀ o k, 53 ≤ o → o < 79 → T o k = cS μ 53 1 o k := fun o k a b => by
    rw [t_o o k (by omega) (by omega) (by omega), r_s o k a b]
  have hsn : RW K T 53 (μ 220) := (h.now.cp (by omega) (h.beg 53 stB_53)).fr (fun o k a b => hS o k a (by omega))
  have e3 : T 219 3 = μ 219 3 := hT 219 3 (by omega) (by omega) (by omega) (by omega) (by omega)
  have e79 : T 79 1 = μ 79 1 := hT 79 1 (by omega) (by omega) (by omega) (by omega) (by omega)
  refine ⟨by rw [t_220]; exact (h.now.mono (by omega) hK).fr (fun o k a b => hT o k (by omega) (by omega) (by omega) (by omega) (by omega)), fun b hb => ?_, by rw [e79]; exact h.nx, ?_, fun j j0 j1 => ?_, ?_, fun k k0 k1 => ?_, ?_, ?_, fun k k0 k1 => ?_⟩
  · by_cases e : b = 53
    · subst e
      intro i i0 i1
      exact (hsn.1.1 i i0 i1).1
    · exact bgS_fr (h.beg b hb) (fun o k a c => hT o k (by unfold stB at hb; omega) (by unfold stB at hb; omega) (by unfold stB at hb; omega) (by unfold stB at hb; omega) (by unfold stB at hb; omega))
  · rw [e3, hT 79 2 (by omega) (by omega) (by omega) (by omega) (by omega)]
    exact h.ln
  · have g := hAt_rg μ j
    have e6 : hAt T j = hAt μ j := by unfold hAt; rw [e79]
    have e7 : hRow T j = hRow μ j := by
      funext k
      unfold hRow
      rw [e3, hT 222 _ (by omega) (by omega) (by omega) (by omega) (by omega)]
    rw [e6, e7]
    rw [e3] at j1
    exact ((h.his j j0 j1).mono (by omega) hK).fr (fun o k a b => hT o k (by omega) (by omega) (by omega) (by omega) (by omega))
  · rw [t_5, t_o 0 3 (by omega) (by omega) (by omega), r_3]
    exact ⟨Or.inr rfl, rfl, fun _ => (hsn.mono (by omega) hK).ext t_223⟩
  · rw [hT 218 _ (by omega) (by omega) (by omega) (by omega) (by omega), hT 224 _ (by omega) (by omega) (by omega) (by omega) (by omega)]
    have := h.ref k k0 k1
    omega
  · rw [hT 0 7 (by omega) (by omega) (by omega) (by omega) (by omega), hT 0 8 (by omega) (by omega) (by omega) (by omega) (by omega), hT 0 9 (by omega) (by omega) (by omega) (by omega) (by omega), hT 219 9 (by omega) (by omega) (by omega) (by omega) (by omega), hT 219 10 (by omega) (by omega) (by omega) (by omega) (by omega)]
    exact h.stp
  · rw [hT 185 1 (by omega) (by omega) (by omega) (by omega) (by omega), hT 219 8 (by omega) (by omega) (by omega) (by omega) (by omega)]
    exact h.txt
  · rw [hT 186 _ (by omega) (by omega) (by omega) (by omega) (by omega), hT 225 _ (by omega) (by omega) (by omega) (by omega) (by omega)]
    exact h.chr k k0 k1
theorem two_restore {K : Int} {μ : Int → Int → Int} (h : IV K μ) (hK : K + 40000 ≤ 500000000) : Two mi_Poo_restore mi_Mod_restore [vR 0] [vR 219] K μ := by
  have hs := h.snp
  by_cases q : μ 0 3 = 0
  · have cb := c_Mod_restore_e (μ := μ) (m := μ 220) (by omega)
    rw [setO_self] at cb
    exact Two_q h hK (c_Poo_restore_e q) cb
  · have hq := hs.2.2 q
    have hn := h.nx
    have hl := h.ln
    have s1 : RW K (cS μ 27 1) 53 (μ 223) := hq.fr (fun o k a b => cS_o (by omega))
    have s2 : RW K (cS (cS μ 27 1) 1 53) 1 (cpy (μ 223) (μ 220) 0 472) := (s1.cp (by omega) ((bf_IV h).beg 1 stB_1)).ext (fun k k0 k1 => by
      unfold cpy
      rw [if_pos (by omega), Int.sub_zero])
    have f1 : ∀ o k, (o < 1 ∨ 53 ≤ o) → cS (cS μ 27 1) 1 53 o k = μ o k := fun o k a => by rw [cS_o (by omega), cS_o (by omega)]
    have f27 : RW K (cS (cS μ 27 1) 1 53) 27 (μ 220) := (bf_27 h).fr (fun o k a b => cS_o (by omega))
    have ca := c_Poo_restore_o q h.now.ri.al (alS_of s1.1 s1.2.1) s2.ri hn (by omega) (alS_of f27.1 f27.2.1) (sum1_bd (fun w => owd (cpy (μ 223) (μ 220) 0 472) w)).1
    have hP := IV_push h f1 f27 (s2.mono (show K ≤ K + 40000 by omega) hK) (by omega) hK
    have hn' : 0 ≤ cS (cS μ 27 1) 1 53 79 1 ∧ cS (cS μ 27 1) 1 53 79 1 < 4 := by rw [f1 79 1 (by omega)]; exact hn
    have r_o : ∀ o k, 185 ≤ o → recM (cS (cS μ 27 1) 1 53) o k = μ o k := fun o k a => by rw [recM_o hn' (Or.inr a), f1 o k (by omega)]
    have e223 : recM (cS (cS μ 27 1) 1 53) 223 = μ 223 := by funext k; exact r_o 223 k (by omega)
    have cb := c_Mod_restore_o (μ := recM (cS (cS μ 27 1) 1 53)) (m := μ 220) (K := K) (by rw [r_o 219 5 (by omega)]; omega) (by rw [e223]; exact s2.2.1) (by rw [r_o 219 3 (by omega)]; exact hl.2)
    rw [self_at (fun k => r_o 220 k (by omega)), e223] at cb
    have e1 : ∀ k, recM (cS (cS μ 27 1) 1 53) (-1) k = μ (-1) k := fun k => by rw [recM_o hn' (Or.inl (by decide)), f1 (-1) k (Or.inl (by decide))]
    exact ⟨_, _, _, ca, cb, hP, e1, fun k => by
      rw [setO_ne (by decide)]
      unfold knM
      rw [setO_ne (by decide), upM_ne (Or.inl (by decide))]
      exact e1 k⟩

