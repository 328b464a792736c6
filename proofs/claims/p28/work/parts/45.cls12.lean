/-! the class: a word written -/
def kM (m : Int → Int) (w j q : Int) : Int := if q ≠ j then 1 else if 4 * q < w ∧ w < 4 * q + 1 + m (320 + 4 * q) then 0 else 4
theorem kM_rg (m : Int → Int) (w j q : Int) : kM m w j q = 1 ∨ kM m w j q = 0 ∨ kM m w j q = 4 := by
  unfold kM
  split
  · exact Or.inl rfl
  · split
    · exact Or.inr (Or.inl rfl)
    · exact Or.inr (Or.inr rfl)

theorem c_Sta_kindOfHit_3 {μ : Int → Int → Int} {K : Int} {m : Int → Int} (hR : RI K μ m) {w j q : Int} (q0 : 0 ≤ q ∧ q < 16) (j0 : 0 ≤ j ∧ j < 16) (h : ¬ owd m (4 * q)) : MetC mi_Sta_kindOfHit [vI w, vR (3 + j), vR (3 + q)] (st μ) (some (vI 3)) (st (μ)) := by
  refine met_of ?_ (Nat.le_of_ble_eq_true rfl) (by decide) trivial (by decide) (Nat.le_of_ble_eq_true rfl)
  show SPW mi_Sta_kindOfHit 219 0 [some (vI w), some (vR (3 + j)), some (vR (3 + q))] [] (st μ) (some (vI 3)) (st (μ))
  have hb := hR.blk q0.1 q0.2
  have hb1 := hb.1
  have ho := hR.own q0.1 q0.2
  have h14 := (hR.2.1.1 (4 * q) (by omega) (by omega)).2.2.2.2.1
  have hb4 : μ (3 + q) 4 = m (320 + 4 * q) := hb.2.2.2.2.2.1
  refine r_aloadn dd_Sta_kindOfHit_0 rfl ?_
  refine r_V0W dd_Sta_kindOfHit_1 ml_Sta_169 ok_Blk_isOwned vi_Blk_isOwned (by first | assumption | exact vk_blk (by omega) (by omega) | exact vk_tsk (by omega) (by omega) | exact vk_cmd (by omega) (by omega)) (by decide) (clS rfl (Nat.le_refl _) (rmOK_self _ _)) rfl (c_Blk_isOwned (vk_blk q0.1 q0.2)) ?_
  refine r_if_ne_b dd_Sta_kindOfHit_4 (fun c_4 => ?_) (fun c_4 => ?_)
  · exfalso; omega
  · refine r_iconst dd_Sta_kindOfHit_7 ⟨by decide, by decide⟩ ?_
    exact r_retI dd_Sta_kindOfHit_8 (by first | rfl | omega | exact (b2_t (by first | assumption | omega)).symm | exact (b2_f (by first | assumption | omega)).symm) rfl
theorem c_Sta_kindOfHit_2 {μ : Int → Int → Int} {K : Int} {m : Int → Int} (hR : RI K μ m) {w j q : Int} (q0 : 0 ≤ q ∧ q < 16) (j0 : 0 ≤ j ∧ j < 16) (h : owd m (4 * q)) (hg : w = 4 * q ∨ w = 4 * q + m (320 + 4 * q) + 1) : MetC mi_Sta_kindOfHit [vI w, vR (3 + j), vR (3 + q)] (st μ) (some (vI 2)) (st (μ)) := by
  refine met_of ?_ (Nat.le_of_ble_eq_true rfl) (by decide) trivial (by decide) (Nat.le_of_ble_eq_true rfl)
  show SPW mi_Sta_kindOfHit 219 0 [some (vI w), some (vR (3 + j)), some (vR (3 + q))] [] (st μ) (some (vI 2)) (st (μ))
  have hb := hR.blk q0.1 q0.2
  have hb1 := hb.1
  have ho := hR.own q0.1 q0.2
  have h14 := (hR.2.1.1 (4 * q) (by omega) (by omega)).2.2.2.2.1
  have hb4 : μ (3 + q) 4 = m (320 + 4 * q) := hb.2.2.2.2.2.1
  refine r_aloadn dd_Sta_kindOfHit_0 rfl ?_
  refine r_V0W dd_Sta_kindOfHit_1 ml_Sta_169 ok_Blk_isOwned vi_Blk_isOwned (by first | assumption | exact vk_blk (by omega) (by omega) | exact vk_tsk (by omega) (by omega) | exact vk_cmd (by omega) (by omega)) (by decide) (clS rfl (Nat.le_refl _) (rmOK_self _ _)) rfl (c_Blk_isOwned (vk_blk q0.1 q0.2)) ?_
  refine r_if_ne_b dd_Sta_kindOfHit_4 (fun c_4 => ?_) (fun c_4 => ?_)
  · refine r_aloadn dd_Sta_kindOfHit_9 rfl ?_
    refine r_iloadn dd_Sta_kindOfHit_10 rfl ?_
    refine r_V1W dd_Sta_kindOfHit_11 ml_Sta_176 ok_Blk_hasGuardAt vi_Blk_hasGuardAt (by first | assumption | exact vk_blk (by omega) (by omega) | exact vk_tsk (by omega) (by omega) | exact vk_cmd (by omega) (by omega)) (by decide) (clS rfl (Nat.le_refl _) (rmOK_self _ _)) rfl (c_Blk_hasGuardAt (vk_blk q0.1 q0.2) ⟨by omega, by omega⟩ ⟨by omega, by omega⟩) ?_
    refine r_if_eq_b dd_Sta_kindOfHit_14 (fun c_14 => ?_) (fun c_14 => ?_)
    · exfalso; omega
    · refine r_iconst dd_Sta_kindOfHit_17 ⟨by decide, by decide⟩ ?_
      exact r_retI dd_Sta_kindOfHit_18 (by first | rfl | omega | exact (b2_t (by first | assumption | omega)).symm | exact (b2_f (by first | assumption | omega)).symm) rfl
  · exfalso; omega
theorem c_Sta_kindOfHit_1 {μ : Int → Int → Int} {K : Int} {m : Int → Int} (hR : RI K μ m) {w j q : Int} (q0 : 0 ≤ q ∧ q < 16) (j0 : 0 ≤ j ∧ j < 16) (h : owd m (4 * q)) (hg : ¬ (w = 4 * q ∨ w = 4 * q + m (320 + 4 * q) + 1)) : MetC mi_Sta_kindOfHit [vI w, vR (3 + j), vR (3 + q)] (st μ) (some (vI (kM m w j q))) (st (μ)) := by
  refine met_of ?_ (Nat.le_of_ble_eq_true rfl) (by decide) trivial (by decide) (Nat.le_of_ble_eq_true rfl)
  show SPW mi_Sta_kindOfHit 219 0 [some (vI w), some (vR (3 + j)), some (vR (3 + q))] [] (st μ) (some (vI (kM m w j q))) (st (μ))
  have hb := hR.blk q0.1 q0.2
  have hb1 := hb.1
  have ho := hR.own q0.1 q0.2
  have h14 := (hR.2.1.1 (4 * q) (by omega) (by omega)).2.2.2.2.1
  have hb4 : μ (3 + q) 4 = m (320 + 4 * q) := hb.2.2.2.2.2.1
  refine r_aloadn dd_Sta_kindOfHit_0 rfl ?_
  refine r_V0W dd_Sta_kindOfHit_1 ml_Sta_169 ok_Blk_isOwned vi_Blk_isOwned (by first | assumption | exact vk_blk (by omega) (by omega) | exact vk_tsk (by omega) (by omega) | exact vk_cmd (by omega) (by omega)) (by decide) (clS rfl (Nat.le_refl _) (rmOK_self _ _)) rfl (c_Blk_isOwned (vk_blk q0.1 q0.2)) ?_
  refine r_if_ne_b dd_Sta_kindOfHit_4 (fun c_4 => ?_) (fun c_4 => ?_)
  · refine r_aloadn dd_Sta_kindOfHit_9 rfl ?_
    refine r_iloadn dd_Sta_kindOfHit_10 rfl ?_
    refine r_V1W dd_Sta_kindOfHit_11 ml_Sta_176 ok_Blk_hasGuardAt vi_Blk_hasGuardAt (by first | assumption | exact vk_blk (by omega) (by omega) | exact vk_tsk (by omega) (by omega) | exact vk_cmd (by omega) (by omega)) (by decide) (clS rfl (Nat.le_refl _) (rmOK_self _ _)) rfl (c_Blk_hasGuardAt (vk_blk q0.1 q0.2) ⟨by omega, by omega⟩ ⟨by omega, by omega⟩) ?_
    refine r_if_eq_b dd_Sta_kindOfHit_14 (fun c_14 => ?_) (fun c_14 => ?_)
    · refine r_aloadn dd_Sta_kindOfHit_19 rfl ?_
      refine r_aloadn dd_Sta_kindOfHit_20 rfl ?_
      refine r_acmp_eq dd_Sta_kindOfHit_21 (by omega) (by omega) (fun c_21 => ?_) (fun c_21 => ?_)
      · refine r_aloadn dd_Sta_kindOfHit_26 rfl ?_
        refine r_iloadn dd_Sta_kindOfHit_27 rfl ?_
        refine r_V1W dd_Sta_kindOfHit_28 ml_Sta_179 ok_Blk_wasAskedFor vi_Blk_wasAskedFor (by first | assumption | exact vk_blk (by omega) (by omega) | exact vk_tsk (by omega) (by omega) | exact vk_cmd (by omega) (by omega)) (by decide) (clS rfl (Nat.le_refl _) (rmOK_self _ _)) rfl (c_Blk_wasAskedFor (vk_blk q0.1 q0.2) ⟨by omega, by omega⟩ ⟨by omega, by omega⟩) ?_
        refine r_if_eq_b dd_Sta_kindOfHit_31 (fun c_31 => ?_) (fun c_31 => ?_)
        · refine r_iconst dd_Sta_kindOfHit_38 ⟨by decide, by decide⟩ ?_
          exact r_retI dd_Sta_kindOfHit_39 (by unfold kM; (repeat (first | rw [if_pos (by omega)] | rw [if_neg (by omega)])); first | done | omega | (congr 1; omega) | exact (b2_t (by first | assumption | omega)).symm | exact (b2_f (by first | assumption | omega)).symm) rfl
        · refine r_iconst dd_Sta_kindOfHit_34 ⟨by decide, by decide⟩ ?_
          refine r_goto dd_Sta_kindOfHit_35 ?_
          exact r_retI dd_Sta_kindOfHit_39 (by unfold kM; (repeat (first | rw [if_pos (by omega)] | rw [if_neg (by omega)])); first | done | omega | (congr 1; omega) | exact (b2_t (by first | assumption | omega)).symm | exact (b2_f (by first | assumption | omega)).symm) rfl
      · refine r_iconst dd_Sta_kindOfHit_24 ⟨by decide, by decide⟩ ?_
        exact r_retI dd_Sta_kindOfHit_25 (by unfold kM; (repeat (first | rw [if_pos (by omega)] | rw [if_neg (by omega)])); first | done | omega | (congr 1; omega) | exact (b2_t (by first | assumption | omega)).symm | exact (b2_f (by first | assumption | omega)).symm) rfl
    · exfalso; omega
  · exfalso; omega
