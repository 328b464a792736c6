/-! reading, as a step on a place and a fault -/
def tF (μ : Int → Int → Int) (x f : Int) : Int → Int → Int := upM (upM μ 185 4 x) 185 5 f
/-- a text in hand -/
def TB (μ : Int → Int → Int) : Prop := (0 ≤ μ 185 1 ∧ μ 185 1 ≤ 60) ∧ (∀ k, 0 ≤ k → k < 60 → 0 ≤ μ 186 k ∧ μ 186 k ≤ 65535)
theorem upM_cm {μ : Int → Int → Int} {o o' k k' v v' : Int} (h : o ≠ o' ∨ k ≠ k') : upM (upM μ o k v) o' k' v' = upM (upM μ o' k' v') o k v := by
  funext a b
  by_cases h1 : a = o' ∧ b = k'
  · rw [h1.1, h1.2, upM_eq, upM_ne (by omega), upM_eq]
  · rw [upM_ne (by omega)]
    by_cases h2 : a = o ∧ b = k
    · rw [h2.1, h2.2, upM_eq, upM_eq]
    · rw [upM_ne (by omega), upM_ne (by omega), upM_ne (by omega)]
theorem upM_id {μ : Int → Int → Int} {o k : Int} : upM μ o k (μ o k) = μ := by
  funext a b
  by_cases h1 : a = o ∧ b = k
  · rw [h1.1, h1.2, upM_eq]
  · rw [upM_ne (by omega)]
theorem tF_4 {μ : Int → Int → Int} {x f : Int} : tF μ x f 185 4 = x := by
  unfold tF
  rw [upM_ne (Or.inr (by decide)), upM_eq]
theorem tF_5 {μ : Int → Int → Int} {x f : Int} : tF μ x f 185 5 = f := upM_eq
theorem tF_o {μ : Int → Int → Int} {x f o k : Int} (h : o ≠ 185 ∨ (k ≠ 4 ∧ k ≠ 5)) : tF μ x f o k = μ o k := by
  unfold tF
  rw [upM_ne (by omega), upM_ne (by omega)]
theorem tF_186 {μ : Int → Int → Int} {x f : Int} : tF μ x f 186 = μ 186 := by
  funext k
  exact tF_o (Or.inl (by decide))
theorem tF_x {μ : Int → Int → Int} {x f y : Int} : upM (tF μ x f) 185 4 y = tF μ y f := by
  unfold tF
  rw [upM_cm (Or.inr (by decide)), upM_uu]
theorem tF_f {μ : Int → Int → Int} {x f y : Int} : upM (tF μ x f) 185 5 y = tF μ x y := by
  unfold tF
  rw [upM_uu]
theorem tF_u {μ : Int → Int → Int} {x f o k v : Int} (h : o ≠ 185) : upM (tF μ x f) o k v = tF (upM μ o k v) x f := by
  unfold tF
  rw [upM_cm (Or.inl (Ne.symm h)), upM_cm (Or.inl (Ne.symm h))]
theorem tF_id {μ : Int → Int → Int} : tF μ (μ 185 4) (μ 185 5) = μ := by
  unfold tF
  rw [upM_id, upM_id]
theorem TX_F {μ : Int → Int → Int} (h : TB μ) {x f : Int} (hx : 0 ≤ x ∧ x ≤ μ 185 1) : TX (tF μ x f) := by
  unfold TX
  rw [tF_4, tF_186, tF_o (Or.inr (by decide))]
  exact ⟨h.1, h.2, hx⟩
theorem TB_u {μ : Int → Int → Int} (h : TB μ) {o k v : Int} (ho : o ≠ 185 ∧ o ≠ 186) : TB (upM μ o k v) := by
  unfold TB
  rw [upM_ne (Or.inl (Ne.symm ho.1))]
  refine ⟨h.1, fun k a b => ?_⟩
  rw [upM_ne (Or.inl (Ne.symm ho.2))]
  exact h.2 k a b
/-- a number read from place x (fault f): where, with what fault, which -/
abbrev dgt (c : Int → Int) (T x : Int) : Int := dgF (sgF c T x)
def nmQ (c : Int → Int) (T lo hi x : Int) : Int := if lo ≤ dgt c T x ∧ dgt c T x ≤ hi then nQ c T hi 3 (x + 1) (dgt c T x) else x
def nmF (c : Int → Int) (T lo hi x : Int) : Int := if lo ≤ dgt c T x ∧ dgt c T x ≤ hi ∧ ¬ 0 ≤ dgt c T (nmQ c T lo hi x) then 0 else 1
def nmR (c : Int → Int) (T lo hi x : Int) : Int := if lo ≤ dgt c T x ∧ dgt c T x ≤ hi ∧ ¬ 0 ≤ dgt c T (nmQ c T lo hi x) then nZ c T hi 3 (x + 1) (dgt c T x) else 0
theorem nmQ_rg {c : Int → Int} {T lo hi x : Int} (h0 : 0 ≤ lo) (hx : x ≤ T) : x ≤ nmQ c T lo hi x ∧ nmQ c T lo hi x ≤ T := by
  unfold nmQ
  split
  · rename_i q
    have hd := (dg_y (c := c) (T := T) (q := x) (by show 0 ≤ dgt c T x; omega)).1
    have := nQ_rg (c := c) (T := T) (hi := hi) 3 (x + 1) (dgt c T x) (by omega)
    omega
  · omega
theorem c_num {μ : Int → Int → Int} (h : TB μ) {lo hi x : Int} (hl : 0 ≤ lo) (h5 : hi ≤ 500) (hx : 0 ≤ x ∧ x ≤ μ 185 1) : MetC mi_Txt_readNumber [vR 185, vI lo, vI hi] (st (tF μ x 0)) (some (vI (nmR (μ 186) (μ 185 1) lo hi x))) (st (tF μ (nmQ (μ 186) (μ 185 1) lo hi x) (nmF (μ 186) (μ 185 1) lo hi x))) := by
  have hT := TX_F h (f := 0) hx
  by_cases q : lo ≤ dgt (μ 186) (μ 185 1) x ∧ dgt (μ 186) (μ 185 1) x ≤ hi
  · have eq : nmQ (μ 186) (μ 185 1) lo hi x = nQ (μ 186) (μ 185 1) hi 3 (x + 1) (dgt (μ 186) (μ 185 1) x) := if_pos q
    have e1 : dgF (sgF (tF μ x 0 186) (tF μ x 0 185 1) (tF μ x 0 185 4)) = dgt (μ 186) (μ 185 1) x := by rw [tF_186, tF_4, tF_o (Or.inr (by decide))]
    by_cases q2 : 0 ≤ dgt (μ 186) (μ 185 1) (nmQ (μ 186) (μ 185 1) lo hi x)
    · have c := c_Txt_readNumber_e (lo := lo) hT h5 e1 tF_5 ⟨hl, q.1, q.2⟩ (by rw [tF_186, tF_4, tF_o (Or.inr (by decide)), ← eq]; exact q2)
      rw [tF_186, tF_4, tF_o (Or.inr (by decide)), tF_x, tF_f, ← eq] at c
      have ef : nmF (μ 186) (μ 185 1) lo hi x = 1 := if_neg (fun z => z.2.2 q2)
      have er : nmR (μ 186) (μ 185 1) lo hi x = 0 := if_neg (fun z => z.2.2 q2)
      rw [ef, er]
      exact c
    · have c := c_Txt_readNumber_o (lo := lo) hT h5 e1 tF_5 ⟨hl, q.1, q.2⟩ (by rw [tF_186, tF_4, tF_o (Or.inr (by decide)), ← eq]; exact q2)
      rw [tF_186, tF_4, tF_o (Or.inr (by decide)), tF_x, ← eq] at c
      have ef : nmF (μ 186) (μ 185 1) lo hi x = 0 := if_pos ⟨q.1, q.2, q2⟩
      have er : nmR (μ 186) (μ 185 1) lo hi x = nZ (μ 186) (μ 185 1) hi 3 (x + 1) (dgt (μ 186) (μ 185 1) x) := if_pos ⟨q.1, q.2, q2⟩
      rw [ef, er]
      exact c
  · have eq : nmQ (μ 186) (μ 185 1) lo hi x = x := if_neg q
    have ef : nmF (μ 186) (μ 185 1) lo hi x = 1 := if_neg (fun z => q ⟨z.1, z.2.1⟩)
    have er : nmR (μ 186) (μ 185 1) lo hi x = 0 := if_neg (fun z => q ⟨z.1, z.2.1⟩)
    have c := c_Txt_readNumber_f (lo := lo) (hi := hi) hT (Or.inl ⟨tF_5, by rw [tF_186, tF_4, tF_o (Or.inr (by decide))]; show dgt (μ 186) (μ 185 1) x < lo ∨ hi < dgt (μ 186) (μ 185 1) x; omega⟩)
    rw [tF_f] at c
    rw [eq, ef, er]
    exact c
theorem c_numf {μ : Int → Int → Int} (h : TB μ) {lo hi x : Int} (hx : 0 ≤ x ∧ x ≤ μ 185 1) : MetC mi_Txt_readNumber [vR 185, vI lo, vI hi] (st (tF μ x 1)) (some (vI 0)) (st (tF μ x 1)) := by
  have c := c_Txt_readNumber_f (lo := lo) (hi := hi) (TX_F h (f := 1) hx) (Or.inr tF_5)
  rw [tF_f] at c
  exact c
theorem c_sgn_o {μ : Int → Int → Int} (h : TB μ) {c x : Int} (hx : 0 ≤ x ∧ x ≤ μ 185 1) (hs : sgF (μ 186) (μ 185 1) x = c) : MetC mi_Txt_readSign [vR 185, vI c] (st (tF μ x 0)) none (st (tF μ (x + 1) 0)) := by
  have k := c_Txt_readSign_o (c := c) (TX_F h (f := 0) hx) tF_5 (by rw [tF_186, tF_4, tF_o (Or.inr (by decide))]; exact hs)
  rw [tF_4, tF_x] at k
  exact k
theorem c_sgn_e {μ : Int → Int → Int} (h : TB μ) {c x : Int} (hx : 0 ≤ x ∧ x ≤ μ 185 1) (hs : sgF (μ 186) (μ 185 1) x ≠ c) : MetC mi_Txt_readSign [vR 185, vI c] (st (tF μ x 0)) none (st (tF μ x 1)) := by
  have k := c_Txt_readSign_e (c := c) (TX_F h (f := 0) hx) tF_5 (by rw [tF_186, tF_4, tF_o (Or.inr (by decide))]; exact hs)
  rw [tF_f] at k
  exact k
theorem c_sgn_f {μ : Int → Int → Int} (h : TB μ) {c x : Int} (hx : 0 ≤ x ∧ x ≤ μ 185 1) : MetC mi_Txt_readSign [vR 185, vI c] (st (tF μ x 1)) none (st (tF μ x 1)) := by
  have k := c_Txt_readSign_f (c := c) (TX_F h (f := 1) hx) tF_5
  rw [tF_f] at k
  exact k

