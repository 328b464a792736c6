/-! the steps: questions, text, undo, keep, restore -/
theorem Two_q {a b : MI} {x y : List Vv} {K r : Int} {μ : Int → Int → Int} (h : IV K μ) (hK : K + 40000 ≤ 500000000) (ca : MetC a x (st μ) (some (vI r)) (st μ)) (cb : MetC b y (st μ) (some (vI r)) (st μ)) : Two a b x y K μ := ⟨r, μ, μ, ca, cb, h.mono (by omega) hK, fun _ => rfl, fun _ => rfl⟩
theorem two_block {K : Int} {μ : Int → Int → Int} (h : IV K μ) (hK : K + 40000 ≤ 500000000) {b what : Int} : Two mi_Poo_block mi_Mod_block [vR 0, vI b, vI what] [vR 219, vI b, vI what] K μ := Two_q h hK (c_Poo_block h.now.ri) (c_Mod_block h.now.2.1)
theorem two_word {K : Int} {μ : Int → Int → Int} (h : IV K μ) (hK : K + 40000 ≤ 500000000) {w what : Int} : Two mi_Poo_word mi_Mod_word [vR 0, vI w, vI what] [vR 219, vI w, vI what] K μ := Two_q h hK (c_Poo_word h.now.ri) (c_Mod_word h.now.2.1 h.now.2.1.2.2.2.2.2.2.2.2.2)
theorem two_task {K : Int} {μ : Int → Int → Int} (h : IV K μ) (hK : K + 40000 ≤ 500000000) {t what : Int} : Two mi_Poo_task mi_Mod_task [vR 0, vI t, vI what] [vR 219, vI t, vI what] K μ := Two_q h hK (c_Poo_task h.now.ri) (c_Mod_task h.now.2.1)
theorem two_size {K : Int} {μ : Int → Int → Int} (h : IV K μ) (hK : K + 40000 ≤ 500000000) {z what : Int} : Two mi_Poo_size mi_Mod_size [vR 0, vI z, vI what] [vR 219, vI z, vI what] K μ := Two_q h hK (c_Poo_size h.now.ri) (c_Mod_size h.now.2.1)
theorem two_reason {K : Int} {μ : Int → Int → Int} (h : IV K μ) (hK : K + 40000 ≤ 500000000) {t w : Int} : Two mi_Poo_reason mi_Mod_reason [vR 0, vI t, vI w] [vR 219, vI t, vI w] K μ := Two_q h hK (c_Poo_reason h.now.ri) (c_Mod_reason h.now.2.1)
theorem two_leak {K : Int} {μ : Int → Int → Int} (h : IV K μ) (hK : K + 40000 ≤ 500000000) {r : Int} : Two mi_Poo_leak mi_Mod_leak [vR 0, vI r] [vR 219, vI r] K μ := Two_q h hK (c_Poo_leak h.now.ri) (c_Mod_leak h.now.2.1)
theorem two_greatest {K : Int} {μ : Int → Int → Int} (h : IV K μ) (hK : K + 40000 ≤ 500000000) {t : Int} : Two mi_Poo_greatest mi_Mod_greatest [vR 0, vI t] [vR 219, vI t] K μ := Two_q h hK (c_Poo_greatest h.now.ri) (c_Mod_greatest h.now.2.1)

theorem two_refused {K : Int} {μ : Int → Int → Int} (h : IV K μ) (hK : K + 40000 ≤ 500000000) {r : Int} : Two mi_Poo_refused mi_Mod_refused [vR 0, vI r] [vR 219, vI r] K μ := by
  have cb := c_Mod_refused (μ := μ) (reason := r)
  have e : (if 1 ≤ r ∧ r ≤ 3 then μ 224 r else -2) = (if 1 ≤ r ∧ r ≤ 3 then μ 218 (r - 1) else -2) := by
    by_cases q : 1 ≤ r ∧ r ≤ 3
    · rw [if_pos q, if_pos q, (h.ref r q.1 q.2).1]
    · rw [if_neg q, if_neg q]
  rw [e] at cb
  exact Two_q h hK c_Poo_refused cb
theorem two_stopped {K : Int} {μ : Int → Int → Int} (h : IV K μ) (hK : K + 40000 ≤ 500000000) {w : Int} : Two mi_Poo_stopped mi_Mod_stopped [vR 0, vI w] [vR 219, vI w] K μ := by
  have cb := c_Mod_stopped (μ := μ) (what := w)
  have e : (if w < 0 ∨ 1 < w then (-2 : Int) else if w = 0 then μ 219 9 else μ 219 10) = (if w < 0 ∨ 1 < w then -2 else if μ 0 7 = 0 then -5 else if w = 0 then μ 0 8 else μ 0 9) := by
    rcases h.stp with ⟨a, b, c⟩ | ⟨a, b, c⟩
    · rw [b, c, a, if_pos rfl, ite_self]
    · rw [b, c, a, if_neg (show ¬ (1 : Int) = 0 by decide)]
  rw [e] at cb
  exact Two_q h hK c_Poo_stopped cb
theorem two_count {K : Int} {μ : Int → Int → Int} (h : IV K μ) (hK : K + 40000 ≤ 500000000) {w : Int} : Two mi_Poo_count mi_Mod_count [vR 0, vI w] [vR 219, vI w] K μ := by
  have cb := c_Mod_count (μ := μ) (what := w) h.now.2.1
  have e : countS μ w = (if w = 10 then μ 79 2 else if w = 11 then μ 185 1 else cntC (μ 220) w) := by
    rw [h.ln.1, h.txt.1]
    unfold countS cntC
    by_cases a : w = 10
    · subst a; rfl
    · by_cases b : w = 11
      · subst b; rfl
      · rw [if_neg a, if_neg b, if_neg a, if_neg b]
  rw [e] at cb
  exact Two_q h hK (c_Poo_count h.now.ri) cb
theorem two_type {K : Int} {μ : Int → Int → Int} (h : IV K μ) (hK : K + 40000 ≤ 500000000) {c : Int} (hc : 0 ≤ c ∧ c ≤ 65535) : Two mi_Poo_type mi_Mod_type [vR 0, vI c] [vR 219, vI c] K μ := by
  have ht := h.txt
  have hch := h.chr
  by_cases q : μ 219 8 = 60
  · have cb := c_Mod_type_e (m := μ 220) (c := c) q
    rw [setO_self] at cb
    exact Two_q h hK (c_Poo_type_e (by omega)) cb
  · have ca := c_Poo_type_o (μ := μ) (c := c) (by omega) hc
    rw [ht.1] at ca
    have cb := c_Mod_type_o (μ := upM (upM μ 186 (μ 219 8) c) 185 1 (μ 219 8 + 1)) (m := μ 220) (c := c) (by rw [upM_ne (Or.inl (by decide)), upM_ne (Or.inl (by decide))]; omega)
    have e : (upM (upM μ 186 (μ 219 8) c) 185 1 (μ 219 8 + 1)) 220 = μ 220 := by
      funext k
      rw [upM_ne (Or.inl (by decide)), upM_ne (Or.inl (by decide))]
    have e2 : setO (upM (upM μ 186 (μ 219 8) c) 185 1 (μ 219 8 + 1)) 220 (μ 220) = upM (upM μ 186 (μ 219 8) c) 185 1 (μ 219 8 + 1) := by
      have h := setO_self (μ := upM (upM μ 186 (μ 219 8) c) 185 1 (μ 219 8 + 1)) (o := 220)
      rw [e] at h
      exact h
    rw [e2, upM_ne (show (219 : Int) ≠ 185 ∨ (8 : Int) ≠ 1 from Or.inl (by decide)), upM_ne (show (219 : Int) ≠ 186 ∨ (8 : Int) ≠ μ 219 8 from Or.inl (by decide))] at cb
    refine ⟨_, _, _, ca, cb, ?_, fun k => by rw [upM_ne (Or.inl (by decide)), upM_ne (Or.inl (by decide))], fun k => by rw [setO_ne (by decide), upM_ne (Or.inl (by decide)), upM_ne (Or.inl (by decide)), upM_ne (Or.inl (by decide)), upM_ne (Or.inl (by decide))]⟩
    have x : ∀ o k, o ≠ 185 → o ≠ 186 → o ≠ 219 → o ≠ 225 → setO (upM (upM (upM (upM μ 186 (μ 219 8) c) 185 1 (μ 219 8 + 1)) 225 (μ 219 8) c) 219 8 (μ 219 8 + 1)) 220 (μ 220) o k = μ o k := fun o k a b c d => by
      by_cases z : o = 220
      · rw [z, setO_at]
      · rw [setO_ne z, upM_ne (Or.inl c), upM_ne (Or.inl d), upM_ne (Or.inl a), upM_ne (Or.inl b)]
    have x9 : ∀ k, k ≠ 8 → setO (upM (upM (upM (upM μ 186 (μ 219 8) c) 185 1 (μ 219 8 + 1)) 225 (μ 219 8) c) 219 8 (μ 219 8 + 1)) 220 (μ 220) 219 k = μ 219 k := fun k a => by
      rw [setO_ne (by decide), upM_ne (Or.inr a), upM_ne (Or.inl (by decide)), upM_ne (Or.inl (by decide)), upM_ne (Or.inl (by decide))]
    have x8 : setO (upM (upM (upM (upM μ 186 (μ 219 8) c) 185 1 (μ 219 8 + 1)) 225 (μ 219 8) c) 219 8 (μ 219 8 + 1)) 220 (μ 220) 219 8 = μ 219 8 + 1 := by
      rw [setO_ne (by decide), upM_eq]
    have x5 : setO (upM (upM (upM (upM μ 186 (μ 219 8) c) 185 1 (μ 219 8 + 1)) 225 (μ 219 8) c) 219 8 (μ 219 8 + 1)) 220 (μ 220) 185 1 = μ 219 8 + 1 := by
      rw [setO_ne (by decide), upM_ne (Or.inl (by decide)), upM_ne (Or.inl (by decide)), upM_eq]
    have x6 : ∀ k, setO (upM (upM (upM (upM μ 186 (μ 219 8) c) 185 1 (μ 219 8 + 1)) 225 (μ 219 8) c) 219 8 (μ 219 8 + 1)) 220 (μ 220) 186 k = if k = μ 219 8 then c else μ 186 k := fun k => by
      rw [setO_ne (by decide), upM_ne (Or.inl (by decide)), upM_ne (Or.inl (by decide)), upM_ne (Or.inl (by decide))]
      by_cases z : k = μ 219 8
      · rw [z, upM_eq, if_pos rfl]
      · rw [upM_ne (Or.inr z), if_neg z]
    have x7 : ∀ k, setO (upM (upM (upM (upM μ 186 (μ 219 8) c) 185 1 (μ 219 8 + 1)) 225 (μ 219 8) c) 219 8 (μ 219 8 + 1)) 220 (μ 220) 225 k = if k = μ 219 8 then c else μ 225 k := fun k => by
      rw [setO_ne (by decide), upM_ne (Or.inl (by decide))]
      by_cases z : k = μ 219 8
      · rw [z, upM_eq, if_pos rfl]
      · rw [upM_ne (Or.inr z), if_neg z, upM_ne (Or.inl (by decide)), upM_ne (Or.inl (by decide))]
    generalize setO (upM (upM (upM (upM μ 186 (μ 219 8) c) 185 1 (μ 219 8 + 1)) 225 (μ 219 8) c) 219 8 (μ 219 8 + 1)) 220 (μ 220) = T at x x9 x8 x5 x6 x7 ⊢
    refine IV_lite h (by omega) hK (fun o k a b => x o k (by omega) (by omega) (by omega) (by omega)) (fun k _ => x 0 k (by decide) (by decide) (by decide) (by decide)) (fun k a => x9 k (by omega)) (fun o k a => x o k (by omega) (by omega) (by omega) (by omega)) (fun k k0 k1 => ?_) ?_ ?_ (fun k k0 k1 => ?_)
    · have r := h.ref k k0 k1
      rw [x 218 _ (by decide) (by decide) (by decide) (by decide), x 224 _ (by decide) (by decide) (by decide) (by decide)]
      omega
    · rw [x 0 7 (by decide) (by decide) (by decide) (by decide), x 0 8 (by decide) (by decide) (by decide) (by decide), x 0 9 (by decide) (by decide) (by decide) (by decide), x9 9 (by decide), x9 10 (by decide)]
      exact h.stp
    · rw [x5, x8]
      omega
    · rw [x6, x7]
      by_cases z : k = μ 219 8
      · rw [if_pos z, if_pos z]
        exact ⟨rfl, hc⟩
      · rw [if_neg z, if_neg z]
        exact hch k k0 k1
theorem two_clearText {K : Int} {μ : Int → Int → Int} (h : IV K μ) (hK : K + 40000 ≤ 500000000) : Two mi_Poo_clearText mi_Mod_clearText [vR 0] [vR 219] K μ := by
  have ca := c_Poo_clearText (μ := μ)
  rw [h.txt.1] at ca
  have cb := c_Mod_clearText (μ := upM μ 185 1 0) (m := μ 220)
  have e : (upM μ 185 1 0) 220 = μ 220 := by
    funext k
    rw [upM_ne (Or.inl (by decide))]
  have e2 : setO (upM μ 185 1 0) 220 (μ 220) = upM μ 185 1 0 := by
    have h := setO_self (μ := upM μ 185 1 0) (o := 220)
    rw [e] at h
    exact h
  rw [e2, upM_ne (Or.inl (by decide))] at cb
  refine ⟨_, _, _, ca, cb, ?_, fun k => by rw [upM_ne (Or.inl (by decide))], fun k => by rw [setO_ne (by decide), upM_ne (Or.inl (by decide)), upM_ne (Or.inl (by decide))]⟩
  have x : ∀ o k, (o ≠ 185 ∨ k ≠ 1) → (o ≠ 219 ∨ k ≠ 8) → setO (upM (upM μ 185 1 0) 219 8 0) 220 (μ 220) o k = μ o k := fun o k a b => by
    by_cases z : o = 220
    · rw [z, setO_at]
    · rw [setO_ne z, upM_ne b, upM_ne a]
  have x8 : setO (upM (upM μ 185 1 0) 219 8 0) 220 (μ 220) 219 8 = 0 := by
    rw [setO_ne (by decide), upM_eq]
  have x5 : setO (upM (upM μ 185 1 0) 219 8 0) 220 (μ 220) 185 1 = 0 := by
    rw [setO_ne (by decide), upM_ne (Or.inl (by decide)), upM_eq]
  generalize setO (upM (upM μ 185 1 0) 219 8 0) 220 (μ 220) = T at x x8 x5 ⊢
  refine IV_lite h (by omega) hK (fun o k a b => x o k (by omega) (by omega)) (fun k _ => x 0 k (by omega) (by omega)) (fun k a => x 219 k (by omega) (by omega)) (fun o k a => x o k (by omega) (by omega)) (fun k k0 k1 => ?_) ?_ ?_ (fun k k0 k1 => ?_)
  · have r := h.ref k k0 k1
    rw [x 218 _ (by omega) (by omega), x 224 _ (by omega) (by omega)]
    omega
  · rw [x 0 7 (by decide) (by decide), x 0 8 (by decide) (by decide), x 0 9 (by decide) (by decide), x 219 9 (by decide) (by decide), x 219 10 (by decide) (by decide)]
    exact h.stp
  · rw [x5, x8]
    exact ⟨rfl, by decide, by decide⟩
  · rw [x 186 _ (by omega) (by omega), x 225 _ (by omega) (by omega)]
    exact h.chr k k0 k1

