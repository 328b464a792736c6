/-! the class: the history -/
theorem stB_27 : stB 27 := Or.inr (Or.inl rfl)
theorem stB_53 : stB 53 := Or.inr (Or.inr (Or.inl rfl))
/-- the tasks of the State at b are alive or not -/
def alS (μ : Int → Int → Int) (b : Int) : Prop := ∀ t, 0 ≤ t → t < 6 → μ (b + 20 + t) 0 = 0 ∨ μ (b + 20 + t) 0 = 1
theorem alS_of {K : Int} {μ : Int → Int → Int} {m : Int → Int} {b : Int} (h : RS μ b m) (hW : MW K m) : alS μ b := fun t t0 t1 => by
  have a := h.2.2.1 t t0 t1
  have b := (hW.2.1 t t0 t1).1
  unfold tskR at a
  omega
def recM (μ : Int → Int → Int) : Int → Int → Int := upM (upM (cS μ (81 + 26 * μ 79 1) 27) 79 1 ((μ 79 1 + 1) % 4)) 79 2 (if 4 < μ 79 2 + 1 then 4 else μ 79 2 + 1)
def tkP (μ : Int → Int → Int) : Int := if μ 79 1 = 0 then 3 else μ 79 1 - 1
def tkM (μ : Int → Int → Int) : Int → Int → Int := upM (upM (cS μ 1 (81 + 26 * tkP μ)) 79 1 (tkP μ)) 79 2 (μ 79 2 - 1)

theorem c_His_record {μ : Int → Int → Int} (hn : 0 ≤ μ 79 1 ∧ μ 79 1 < 4) (hl : 0 ≤ μ 79 2 ∧ μ 79 2 ≤ 4) (ha : alS μ 27) : MetC mi_His_record [vR 79, vR 27] (st μ) (none) (st (recM μ)) := by
  refine met_of ?_ (Nat.le_of_ble_eq_true rfl) (by decide) trivial (by decide) (Nat.le_of_ble_eq_true rfl)
  show SPW mi_His_record 219 0 [some (vR 79), some (vR 27)] [] (st μ) (none) (st (recM μ))
  refine r_aloadn dd_His_record_0 rfl ?_
  refine r_getI dd_His_record_1 fl_His_22 (kI := 1) rfl fi_His_1 vk_79 ?_
  refine r_if_lt dd_His_record_4 (fun c_4 => ?_) (fun c_4 => ?_)
  · exfalso; omega
  · refine r_aloadn dd_His_record_7 rfl ?_
    refine r_getI dd_His_record_8 fl_His_22 (kI := 1) rfl fi_His_1 vk_79 ?_
    refine r_iconst dd_His_record_11 ⟨by decide, by decide⟩ ?_
    refine r_icmp_lt dd_His_record_12 (fun c_12 => ?_) (fun c_12 => ?_)
    · refine r_aloadn dd_His_record_16 rfl ?_
      refine r_getR dd_His_record_17 fl_His_11 (kI := 0) rfl fr_His_0 vk_79 R0_79_0 ?_
      refine r_aloadn dd_His_record_20 rfl ?_
      refine r_getI dd_His_record_21 fl_His_22 (kI := 1) rfl fi_His_1 vk_79 ?_
      refine r_aald dd_His_record_24 (q := 19) (by decide) vk_80 (by omega) (by show _ < ((4 : Nat) : Int); omega) (by first | exact R0_2 | exact R0_20 | exact R0_80 | exact R0_187 | exact R0_b (by assumption) | exact R0_t (by assumption)) ?_
      refine r_aloadn dd_His_record_25 rfl ?_
      refine r_V1N dd_His_record_26 ml_His_25 ok_Sta_copyFrom vi_Sta_copyFrom (vk_hst (by omega) (by omega)) (by decide) (clS rfl (Nat.le_refl _) (rmOK_self _ _)) rfl (c_Sta_copyFrom (stB_h hn.1 hn.2) stB_27 (by omega) ha) ?_
      refine r_aloadn dd_His_record_29 rfl ?_
      refine r_aloadn dd_His_record_30 rfl ?_
      refine r_getI dd_His_record_31 fl_His_22 (kI := 1) rfl fi_His_1 vk_79 ?_
      rw [cS_o (by omega)]
      refine r_iconst dd_His_record_34 ⟨by decide, by decide⟩ ?_
      refine r_iadd dd_His_record_35 ⟨by omega, by omega⟩ ?_
      refine r_iconst dd_His_record_36 ⟨by decide, by decide⟩ ?_
      refine r_irem dd_His_record_37 (by omega) (by omega) ?_
      refine r_putI dd_His_record_38 fl_His_22 (kI := 1) rfl fc_His_1 ff_His_1 (pi_His_1 _) vk_79 ?_
      refine r_aloadn dd_His_record_41 rfl ?_
      refine r_aloadn dd_His_record_42 rfl ?_
      refine r_getI dd_His_record_43 fl_His_18 (kI := 2) rfl fi_His_2 vk_79 ?_
      rw [upM_ne (Or.inr (by decide)), cS_o (by omega)]
      refine r_iconst dd_His_record_46 ⟨by decide, by decide⟩ ?_
      refine r_iadd dd_His_record_47 ⟨by omega, by omega⟩ ?_
      refine r_iconst dd_His_record_48 ⟨by decide, by decide⟩ ?_
      refine r_min dd_His_record_49 ml_His_29 (by decide) (rmOK_self _ _) ?_
      refine r_putI dd_His_record_52 fl_His_18 (kI := 2) rfl fc_His_2 ff_His_2 (pi_His_2 _) vk_79 ?_
      exact r_retV dd_His_record_55 rfl
    · exfalso; omega
theorem c_His_takeLatest_e {μ : Int → Int → Int} (hn : 0 ≤ μ 79 1 ∧ μ 79 1 < 4) (hl : 0 ≤ μ 79 2 ∧ μ 79 2 ≤ 4) (h : μ 79 2 = 0) : MetC mi_His_takeLatest [vR 79, vR 1] (st μ) (some (vI (-5))) (st (μ)) := by
  refine met_of ?_ (Nat.le_of_ble_eq_true rfl) (by decide) trivial (by decide) (Nat.le_of_ble_eq_true rfl)
  show SPW mi_His_takeLatest 219 0 [some (vR 79), some (vR 1), none] [] (st μ) (some (vI (-5))) (st (μ))
  refine r_aloadn dd_His_takeLatest_0 rfl ?_
  refine r_getI dd_His_takeLatest_1 fl_His_22 (kI := 1) rfl fi_His_1 vk_79 ?_
  refine r_if_ne dd_His_takeLatest_4 (fun c_4 => ?_) (fun c_4 => ?_)
  · refine r_aloadn dd_His_takeLatest_11 rfl ?_
    refine r_getI dd_His_takeLatest_12 fl_His_22 (kI := 1) rfl fi_His_1 vk_79 ?_
    refine r_iconst dd_His_takeLatest_15 ⟨by decide, by decide⟩ ?_
    refine r_isub dd_His_takeLatest_16 ⟨by omega, by omega⟩ ?_
    refine r_istoren (L' := [_, _, _]) dd_His_takeLatest_17 rfl rfl ?_
    refine r_aloadn dd_His_takeLatest_18 rfl ?_
    refine r_getI dd_His_takeLatest_19 fl_His_18 (kI := 2) rfl fi_His_2 vk_79 ?_
    refine r_if_eq dd_His_takeLatest_22 (fun c_22 => ?_) (fun c_22 => ?_)
    · refine r_bip dd_His_takeLatest_34 ⟨by decide, by decide⟩ ?_
      exact r_retI dd_His_takeLatest_36 (by first | rfl | omega | exact (b2_t (by first | assumption | omega)).symm | exact (b2_f (by first | assumption | omega)).symm) rfl
    · exfalso; omega
  · refine r_iconst dd_His_takeLatest_7 ⟨by decide, by decide⟩ ?_
    refine r_goto dd_His_takeLatest_8 ?_
    refine r_istoren (L' := [_, _, _]) dd_His_takeLatest_17 rfl rfl ?_
    refine r_aloadn dd_His_takeLatest_18 rfl ?_
    refine r_getI dd_His_takeLatest_19 fl_His_18 (kI := 2) rfl fi_His_2 vk_79 ?_
    refine r_if_eq dd_His_takeLatest_22 (fun c_22 => ?_) (fun c_22 => ?_)
    · refine r_bip dd_His_takeLatest_34 ⟨by decide, by decide⟩ ?_
      exact r_retI dd_His_takeLatest_36 (by first | rfl | omega | exact (b2_t (by first | assumption | omega)).symm | exact (b2_f (by first | assumption | omega)).symm) rfl
    · exfalso; omega
theorem c_His_takeLatest_o {μ : Int → Int → Int} (hn : 0 ≤ μ 79 1 ∧ μ 79 1 < 4) (hl : 0 ≤ μ 79 2 ∧ μ 79 2 ≤ 4) (h : μ 79 2 ≠ 0) (ha : alS μ (81 + 26 * tkP μ)) : MetC mi_His_takeLatest [vR 79, vR 1] (st μ) (some (vI (μ 79 2 - 1))) (st (tkM μ)) := by
  refine met_of ?_ (Nat.le_of_ble_eq_true rfl) (by decide) trivial (by decide) (Nat.le_of_ble_eq_true rfl)
  show SPW mi_His_takeLatest 219 0 [some (vR 79), some (vR 1), none] [] (st μ) (some (vI (μ 79 2 - 1))) (st (tkM μ))
  by_cases h1 : μ 79 1 = 0
  · have e : tkP μ = 3 := if_pos h1
    rw [e] at ha
    refine r_aloadn dd_His_takeLatest_0 rfl ?_
    refine r_getI dd_His_takeLatest_1 fl_His_22 (kI := 1) rfl fi_His_1 vk_79 ?_
    refine r_if_ne dd_His_takeLatest_4 (fun c_4 => ?_) (fun c_4 => ?_)
    · exfalso; omega
    · refine r_iconst dd_His_takeLatest_7 ⟨by decide, by decide⟩ ?_
      refine r_goto dd_His_takeLatest_8 ?_
      refine r_istoren (L' := [_, _, _]) dd_His_takeLatest_17 rfl rfl ?_
      refine r_aloadn dd_His_takeLatest_18 rfl ?_
      refine r_getI dd_His_takeLatest_19 fl_His_18 (kI := 2) rfl fi_His_2 vk_79 ?_
      refine r_if_eq dd_His_takeLatest_22 (fun c_22 => ?_) (fun c_22 => ?_)
      · exfalso; omega
      · refine r_iloadn dd_His_takeLatest_25 rfl ?_
        refine r_if_lt dd_His_takeLatest_26 (fun c_26 => ?_) (fun c_26 => ?_)
        · exfalso; omega
        · refine r_iloadn dd_His_takeLatest_29 rfl ?_
          refine r_iconst dd_His_takeLatest_30 ⟨by decide, by decide⟩ ?_
          refine r_icmp_lt dd_His_takeLatest_31 (fun c_31 => ?_) (fun c_31 => ?_)
          · refine r_aloadn dd_His_takeLatest_37 rfl ?_
            refine r_aloadn dd_His_takeLatest_38 rfl ?_
            refine r_getR dd_His_takeLatest_39 fl_His_11 (kI := 0) rfl fr_His_0 vk_79 R0_79_0 ?_
            refine r_iloadn dd_His_takeLatest_42 rfl ?_
            refine r_aald dd_His_takeLatest_43 (q := 19) (by decide) vk_80 (by omega) (by show _ < ((4 : Nat) : Int); omega) (by first | exact R0_2 | exact R0_20 | exact R0_80 | exact R0_187 | exact R0_b (by assumption) | exact R0_t (by assumption)) ?_
            refine r_V1N dd_His_takeLatest_44 ml_His_25 ok_Sta_copyFrom vi_Sta_copyFrom vk_1 (by decide) (clS rfl (Nat.le_refl _) (rmOK_self _ _)) rfl (c_Sta_copyFrom stB_1 (stB_h (by omega) (by omega)) (by omega) ha) ?_
            refine r_aloadn dd_His_takeLatest_47 rfl ?_
            refine r_iloadn dd_His_takeLatest_48 rfl ?_
            refine r_putI dd_His_takeLatest_49 fl_His_22 (kI := 1) rfl fc_His_1 ff_His_1 (pi_His_1 _) vk_79 ?_
            refine r_aloadn dd_His_takeLatest_52 rfl ?_
            refine r_dup dd_His_takeLatest_53 ?_
            refine r_getI dd_His_takeLatest_54 fl_His_18 (kI := 2) rfl fi_His_2 vk_79 ?_
            rw [upM_ne (Or.inr (by decide)), cS_o (by omega)]
            refine r_iconst dd_His_takeLatest_57 ⟨by decide, by decide⟩ ?_
            refine r_isub dd_His_takeLatest_58 ⟨by omega, by omega⟩ ?_
            refine r_putI dd_His_takeLatest_59 fl_His_18 (kI := 2) rfl fc_His_2 ff_His_2 (pi_His_2 _) vk_79 ?_
            refine r_aloadn dd_His_takeLatest_62 rfl ?_
            refine r_getI dd_His_takeLatest_63 fl_His_18 (kI := 2) rfl fi_His_2 vk_79 ?_
            exact r_retI dd_His_takeLatest_66 (by rw [upM_eq]) (by unfold tkM; rw [e])
          · exfalso; omega
  · have e : tkP μ = μ 79 1 - 1 := if_neg h1
    rw [e] at ha
    refine r_aloadn dd_His_takeLatest_0 rfl ?_
    refine r_getI dd_His_takeLatest_1 fl_His_22 (kI := 1) rfl fi_His_1 vk_79 ?_
    refine r_if_ne dd_His_takeLatest_4 (fun c_4 => ?_) (fun c_4 => ?_)
    · refine r_aloadn dd_His_takeLatest_11 rfl ?_
      refine r_getI dd_His_takeLatest_12 fl_His_22 (kI := 1) rfl fi_His_1 vk_79 ?_
      refine r_iconst dd_His_takeLatest_15 ⟨by decide, by decide⟩ ?_
      refine r_isub dd_His_takeLatest_16 ⟨by omega, by omega⟩ ?_
      refine r_istoren (L' := [_, _, _]) dd_His_takeLatest_17 rfl rfl ?_
      refine r_aloadn dd_His_takeLatest_18 rfl ?_
      refine r_getI dd_His_takeLatest_19 fl_His_18 (kI := 2) rfl fi_His_2 vk_79 ?_
      refine r_if_eq dd_His_takeLatest_22 (fun c_22 => ?_) (fun c_22 => ?_)
      · exfalso; omega
      · refine r_iloadn dd_His_takeLatest_25 rfl ?_
        refine r_if_lt dd_His_takeLatest_26 (fun c_26 => ?_) (fun c_26 => ?_)
        · exfalso; omega
        · refine r_iloadn dd_His_takeLatest_29 rfl ?_
          refine r_iconst dd_His_takeLatest_30 ⟨by decide, by decide⟩ ?_
          refine r_icmp_lt dd_His_takeLatest_31 (fun c_31 => ?_) (fun c_31 => ?_)
          · refine r_aloadn dd_His_takeLatest_37 rfl ?_
            refine r_aloadn dd_His_takeLatest_38 rfl ?_
            refine r_getR dd_His_takeLatest_39 fl_His_11 (kI := 0) rfl fr_His_0 vk_79 R0_79_0 ?_
            refine r_iloadn dd_His_takeLatest_42 rfl ?_
            refine r_aald dd_His_takeLatest_43 (q := 19) (by decide) vk_80 (by omega) (by show _ < ((4 : Nat) : Int); omega) (by first | exact R0_2 | exact R0_20 | exact R0_80 | exact R0_187 | exact R0_b (by assumption) | exact R0_t (by assumption)) ?_
            refine r_V1N dd_His_takeLatest_44 ml_His_25 ok_Sta_copyFrom vi_Sta_copyFrom vk_1 (by decide) (clS rfl (Nat.le_refl _) (rmOK_self _ _)) rfl (c_Sta_copyFrom stB_1 (stB_h (by omega) (by omega)) (by omega) ha) ?_
            refine r_aloadn dd_His_takeLatest_47 rfl ?_
            refine r_iloadn dd_His_takeLatest_48 rfl ?_
            refine r_putI dd_His_takeLatest_49 fl_His_22 (kI := 1) rfl fc_His_1 ff_His_1 (pi_His_1 _) vk_79 ?_
            refine r_aloadn dd_His_takeLatest_52 rfl ?_
            refine r_dup dd_His_takeLatest_53 ?_
            refine r_getI dd_His_takeLatest_54 fl_His_18 (kI := 2) rfl fi_His_2 vk_79 ?_
            rw [upM_ne (Or.inr (by decide)), cS_o (by omega)]
            refine r_iconst dd_His_takeLatest_57 ⟨by decide, by decide⟩ ?_
            refine r_isub dd_His_takeLatest_58 ⟨by omega, by omega⟩ ?_
            refine r_putI dd_His_takeLatest_59 fl_His_18 (kI := 2) rfl fc_His_2 ff_His_2 (pi_His_2 _) vk_79 ?_
            refine r_aloadn dd_His_takeLatest_62 rfl ?_
            refine r_getI dd_His_takeLatest_63 fl_His_18 (kI := 2) rfl fi_His_2 vk_79 ?_
            exact r_retI dd_His_takeLatest_66 (by rw [upM_eq]) (by unfold tkM; rw [e])
          · exfalso; omega
    · exfalso; omega
theorem c_Poo_recorded_e {μ : Int → Int → Int} {r : Int} (hr : r < 0) : MetC mi_Poo_recorded [vR 0, vI r] (st μ) (some (vI r)) (st (μ)) := by
  refine met_of ?_ (Nat.le_of_ble_eq_true rfl) (by decide) trivial (by decide) (Nat.le_of_ble_eq_true rfl)
  show SPW mi_Poo_recorded 219 0 [some (vR 0), some (vI r)] [] (st μ) (some (vI r)) (st (μ))
  refine r_iloadn dd_Poo_recorded_0 rfl ?_
  refine r_if_lt dd_Poo_recorded_1 (fun c_1 => ?_) (fun c_1 => ?_)
  · refine r_iloadn dd_Poo_recorded_15 rfl ?_
    exact r_retI dd_Poo_recorded_16 (by first | rfl | omega | exact (b2_t (by first | assumption | omega)).symm | exact (b2_f (by first | assumption | omega)).symm) rfl
  · exfalso; omega
theorem c_Poo_recorded_o {μ : Int → Int → Int} {r : Int} (hr : 0 ≤ r) (hn : 0 ≤ μ 79 1 ∧ μ 79 1 < 4) (hl : 0 ≤ μ 79 2 ∧ μ 79 2 ≤ 4) (ha : alS μ 27) : MetC mi_Poo_recorded [vR 0, vI r] (st μ) (some (vI r)) (st (recM μ)) := by
  refine met_of ?_ (Nat.le_of_ble_eq_true rfl) (by decide) trivial (by decide) (Nat.le_of_ble_eq_true rfl)
  show SPW mi_Poo_recorded 219 0 [some (vR 0), some (vI r)] [] (st μ) (some (vI r)) (st (recM μ))
  refine r_iloadn dd_Poo_recorded_0 rfl ?_
  refine r_if_lt dd_Poo_recorded_1 (fun c_1 => ?_) (fun c_1 => ?_)
  · exfalso; omega
  · refine r_aloadn dd_Poo_recorded_4 rfl ?_
    refine r_getR dd_Poo_recorded_5 fl_Poo_25 (kI := 4) rfl fr_Poo_4 vk_0 R0_0_4 ?_
    refine r_aloadn dd_Poo_recorded_8 rfl ?_
    refine r_getR dd_Poo_recorded_9 fl_Poo_16 (kI := 1) rfl fr_Poo_1 vk_0 R0_0_1 ?_
    refine r_V1N dd_Poo_recorded_12 ml_Poo_161 ok_His_record vi_His_record vk_79 (by decide) (clS rfl (Nat.le_refl _) (rmOK_self _ _)) rfl (c_His_record hn hl ha) ?_
    refine r_iloadn dd_Poo_recorded_15 rfl ?_
    exact r_retI dd_Poo_recorded_16 (by first | rfl | omega | exact (b2_t (by first | assumption | omega)).symm | exact (b2_f (by first | assumption | omega)).symm) rfl
