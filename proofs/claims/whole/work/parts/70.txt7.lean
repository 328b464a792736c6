/-! a text read by the class, whole; a sign read by the reference -/
theorem c_Txt_read {μ : Int → Int → Int} {r : Int} {F : Int → Int → Int} (kk : SPW mi_Txt_read 226 17 [some (vR 185), some (vI 0)] [] (st (tF (upM μ 185 3 0) 0 0)) (some (vI r)) (st F)) : MetC mi_Txt_read [vR 185] (st μ) (some (vI r)) (st (F)) := by
  refine met_of ?_ (Nat.le_of_ble_eq_true rfl) (by decide) trivial (by decide) (Nat.le_of_ble_eq_true rfl)
  show SPW mi_Txt_read 226 0 [some (vR 185), none] [] (st μ) (some (vI r)) (st (F))
  refine r_aloadn dd_Txt_read_0 rfl ?_
  refine r_iconst dd_Txt_read_1 ⟨by decide, by decide⟩ ?_
  refine r_putI dd_Txt_read_2 fl_Txt_29 (kI := 4) rfl fc_Txt_4 ff_Txt_4 (pi_Txt_4 _) vk_185 ?_
  refine r_aloadn dd_Txt_read_5 rfl ?_
  refine r_iconst dd_Txt_read_6 ⟨by decide, by decide⟩ ?_
  refine r_putI dd_Txt_read_7 fl_Txt_32 (kI := 5) rfl fc_Txt_5 ff_Txt_5 (pb_Txt_5 (by first | exact b2_01 | omega)) vk_185 ?_
  refine r_aloadn dd_Txt_read_10 rfl ?_
  refine r_iconst dd_Txt_read_11 ⟨by decide, by decide⟩ ?_
  refine r_putI dd_Txt_read_12 fl_Txt_26 (kI := 3) rfl fc_Txt_3 ff_Txt_3 (pi_Txt_3 _) vk_185 ?_
  refine r_iconst dd_Txt_read_15 ⟨by decide, by decide⟩ ?_
  refine r_istoren (L' := [_, _]) dd_Txt_read_16 rfl rfl ?_
  rw [← tF_3] at kk
  exact kk
theorem c_read {μ : Int → Int → Int} (h : TB μ) : ∃ μ' x' f', MetC mi_Txt_read [vR 185] (st μ) (some (vI (rdR (μ 186) (μ 185 1) 30 0))) (st (tF μ' x' f')) ∧ (∀ o k, (o < 188 ∨ 218 ≤ o) → (o ≠ 185 ∨ k ≠ 3) → μ' o k = μ o k) ∧ (rdR (μ 186) (μ 185 1) 30 0 = -1 → μ' 185 3 = rdN (μ 186) (μ 185 1) 30 0 ∧ ∀ j : Nat, j < rdN (μ 186) (μ 185 1) 30 0 → cOK (μ 186) (μ 185 1) (ps (μ 186) (μ 185 1) j 0) μ' (188 + j)) := by
  have k1 : upM μ 185 3 0 186 = μ 186 := u186 (by decide)
  have k2 : upM μ 185 3 0 185 1 = μ 185 1 := upM_ne (Or.inr (by decide))
  have hB : TB (upM μ 185 3 0) := by
    unfold TB
    rw [k1, k2]
    exact h
  have hT := h.1
  obtain ⟨μ', x', f', s1, s2, s3⟩ := rd_l 30 0 0 (upM μ 185 3 0) k1 k2 hB rfl (Int.le_refl _) upM_eq (Int.le_refl _) hT.1
  refine ⟨μ', x', f', c_Txt_read s1, fun o k a b => by rw [s2 o k (by omega) b, upM_ne (by omega)], fun q => ?_⟩
  obtain ⟨t1, t2⟩ := s3 q
  refine ⟨by rw [t1]; omega, fun j hj => ?_⟩
  have := t2 j hj
  rw [show 188 + (0 : Int) + (j : Int) = 188 + j by omega] at this
  exact this
def gF (μ : Int → Int → Int) (x f : Int) : Int → Int → Int := upM (upM μ 219 12 f) 219 11 x
theorem gF_11 {μ : Int → Int → Int} {x f : Int} : gF μ x f 219 11 = x := upM_eq
theorem gF_12 {μ : Int → Int → Int} {x f : Int} : gF μ x f 219 12 = f := by
  unfold gF
  rw [upM_ne (Or.inr (by decide)), upM_eq]
theorem gF_o {μ : Int → Int → Int} {x f o k : Int} (h : o ≠ 219 ∨ (k ≠ 11 ∧ k ≠ 12)) : gF μ x f o k = μ o k := by
  unfold gF
  rw [upM_ne (by omega), upM_ne (by omega)]
theorem gF_225 {μ : Int → Int → Int} {x f : Int} : gF μ x f 225 = μ 225 := by
  funext k
  exact gF_o (Or.inl (by decide))
theorem gF_s {μ : Int → Int → Int} {x f x' f' : Int} : upM (upM (gF μ x f) 219 12 f') 219 11 x' = gF μ x' f' := by
  unfold gF
  rw [upM_cm (o := 219) (k := 11) (o' := 219) (k' := 12) (Or.inr (by decide)), upM_uu, upM_uu]

