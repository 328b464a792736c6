/-! a sign read by the reference -/
theorem c_Mod_sign_f {μ : Int → Int → Int} {lo hi : Int} (ha : 0 ≤ μ 219 11 ∧ μ 219 11 ≤ 60) (ht : 0 ≤ μ 219 8 ∧ μ 219 8 ≤ 60) (hw : μ 219 12 = 1) : MetC mi_Mod_sign [vR 219, vI lo, vI hi] (st μ) (some (vI (sgF (μ 225) (μ 219 8) (μ 219 11)))) (st (upM (upM μ 219 12 1) 219 11 (μ 219 11))) := by
  refine met_of ?_ (Nat.le_of_ble_eq_true rfl) (by decide) trivial (by decide) (Nat.le_of_ble_eq_true rfl)
  show SPW mi_Mod_sign 226 0 [some (vR 219), some (vI lo), some (vI hi), none] [] (st μ) (some (vI (sgF (μ 225) (μ 219 8) (μ 219 11)))) (st (upM (upM μ 219 12 1) 219 11 (μ 219 11)))
  by_cases hlt : μ 219 11 < μ 219 8
  · have hz : sgF (μ 225) (μ 219 8) (μ 219 11) = μ 225 (μ 219 11) := if_pos hlt
    rw [hz]
    refine r_aloadn dd_Mod_sign_0 rfl ?_
    refine r_getI dd_Mod_sign_1 fl_Mod_121 (kI := 11) rfl fi_Mod_11 vk_219 ?_
    refine r_aloadn dd_Mod_sign_4 rfl ?_
    refine r_getI dd_Mod_sign_5 fl_Mod_118 (kI := 8) rfl fi_Mod_8 vk_219 ?_
    refine r_icmp_ge dd_Mod_sign_8 (fun c_8 => ?_) (fun c_8 => ?_)
    · exfalso; omega
    · refine r_aloadn dd_Mod_sign_11 rfl ?_
      refine r_getR dd_Mod_sign_12 fl_Mod_25 (kI := 7) rfl fr_Mod_7 vk_219 R0_219_7 ?_
      refine r_aloadn dd_Mod_sign_15 rfl ?_
      refine r_getI dd_Mod_sign_16 fl_Mod_121 (kI := 11) rfl fi_Mod_11 vk_219 ?_
      refine r_iald dd_Mod_sign_19 (q := 15) (by decide) vk_225 (by omega) (by show _ < ((60 : Nat) : Int); omega) ?_
      refine r_goto dd_Mod_sign_20 ?_
      refine r_istoren (L' := [_, _, _, _]) dd_Mod_sign_24 rfl rfl ?_
      refine r_aloadn dd_Mod_sign_25 rfl ?_
      refine r_aloadn dd_Mod_sign_26 rfl ?_
      refine r_getI dd_Mod_sign_27 fl_Mod_124 (kI := 12) rfl fi_Mod_12 vk_219 ?_
      refine r_if_ne dd_Mod_sign_30 (fun c_30 => ?_) (fun c_30 => ?_)
      · refine r_iconst dd_Mod_sign_42 ⟨by decide, by decide⟩ ?_
        refine r_goto dd_Mod_sign_43 ?_
        refine r_putI dd_Mod_sign_47 fl_Mod_124 (kI := 12) rfl fc_Mod_12 ff_Mod_12 (pb_Mod_12 (by first | exact b2_01 | omega)) vk_219 ?_
        refine r_aloadn dd_Mod_sign_50 rfl ?_
        refine r_dup dd_Mod_sign_51 ?_
        refine r_getI dd_Mod_sign_52 fl_Mod_121 (kI := 11) rfl fi_Mod_11 vk_219 ?_
        rw [upM_ne (Or.inr (by decide))]
        refine r_aloadn dd_Mod_sign_55 rfl ?_
        refine r_getI dd_Mod_sign_56 fl_Mod_124 (kI := 12) rfl fi_Mod_12 vk_219 ?_
        rw [upM_eq]
        refine r_if_eq dd_Mod_sign_59 (fun c_59 => ?_) (fun c_59 => ?_)
        · exfalso; omega
        · refine r_iconst dd_Mod_sign_62 ⟨by decide, by decide⟩ ?_
          refine r_goto dd_Mod_sign_63 ?_
          refine r_iadd dd_Mod_sign_67 ⟨by omega, by omega⟩ ?_
          rw [Int.add_zero]
          refine r_putI dd_Mod_sign_68 fl_Mod_121 (kI := 11) rfl fc_Mod_11 ff_Mod_11 (pi_Mod_11 _) vk_219 ?_
          refine r_iloadn dd_Mod_sign_71 rfl ?_
          exact r_retI dd_Mod_sign_72 (by first | rfl | omega | exact (b2_t (by first | assumption | omega)).symm | exact (b2_f (by first | assumption | omega)).symm) rfl
      · exfalso; omega
  · have hz : sgF (μ 225) (μ 219 8) (μ 219 11) = 0 := if_neg hlt
    rw [hz]
    refine r_aloadn dd_Mod_sign_0 rfl ?_
    refine r_getI dd_Mod_sign_1 fl_Mod_121 (kI := 11) rfl fi_Mod_11 vk_219 ?_
    refine r_aloadn dd_Mod_sign_4 rfl ?_
    refine r_getI dd_Mod_sign_5 fl_Mod_118 (kI := 8) rfl fi_Mod_8 vk_219 ?_
    refine r_icmp_ge dd_Mod_sign_8 (fun c_8 => ?_) (fun c_8 => ?_)
    · refine r_iconst dd_Mod_sign_23 ⟨by decide, by decide⟩ ?_
      refine r_istoren (L' := [_, _, _, _]) dd_Mod_sign_24 rfl rfl ?_
      refine r_aloadn dd_Mod_sign_25 rfl ?_
      refine r_aloadn dd_Mod_sign_26 rfl ?_
      refine r_getI dd_Mod_sign_27 fl_Mod_124 (kI := 12) rfl fi_Mod_12 vk_219 ?_
      refine r_if_ne dd_Mod_sign_30 (fun c_30 => ?_) (fun c_30 => ?_)
      · refine r_iconst dd_Mod_sign_42 ⟨by decide, by decide⟩ ?_
        refine r_goto dd_Mod_sign_43 ?_
        refine r_putI dd_Mod_sign_47 fl_Mod_124 (kI := 12) rfl fc_Mod_12 ff_Mod_12 (pb_Mod_12 (by first | exact b2_01 | omega)) vk_219 ?_
        refine r_aloadn dd_Mod_sign_50 rfl ?_
        refine r_dup dd_Mod_sign_51 ?_
        refine r_getI dd_Mod_sign_52 fl_Mod_121 (kI := 11) rfl fi_Mod_11 vk_219 ?_
        rw [upM_ne (Or.inr (by decide))]
        refine r_aloadn dd_Mod_sign_55 rfl ?_
        refine r_getI dd_Mod_sign_56 fl_Mod_124 (kI := 12) rfl fi_Mod_12 vk_219 ?_
        rw [upM_eq]
        refine r_if_eq dd_Mod_sign_59 (fun c_59 => ?_) (fun c_59 => ?_)
        · exfalso; omega
        · refine r_iconst dd_Mod_sign_62 ⟨by decide, by decide⟩ ?_
          refine r_goto dd_Mod_sign_63 ?_
          refine r_iadd dd_Mod_sign_67 ⟨by omega, by omega⟩ ?_
          rw [Int.add_zero]
          refine r_putI dd_Mod_sign_68 fl_Mod_121 (kI := 11) rfl fc_Mod_11 ff_Mod_11 (pi_Mod_11 _) vk_219 ?_
          refine r_iloadn dd_Mod_sign_71 rfl ?_
          exact r_retI dd_Mod_sign_72 (by first | rfl | omega | exact (b2_t (by first | assumption | omega)).symm | exact (b2_f (by first | assumption | omega)).symm) rfl
      · exfalso; omega
    · exfalso; omega
theorem c_Mod_sign_e {μ : Int → Int → Int} {lo hi : Int} (ha : 0 ≤ μ 219 11 ∧ μ 219 11 ≤ 60) (ht : 0 ≤ μ 219 8 ∧ μ 219 8 ≤ 60) (hw : μ 219 12 = 0) (hr : ¬ (lo ≤ sgF (μ 225) (μ 219 8) (μ 219 11) ∧ sgF (μ 225) (μ 219 8) (μ 219 11) ≤ hi)) : MetC mi_Mod_sign [vR 219, vI lo, vI hi] (st μ) (some (vI (sgF (μ 225) (μ 219 8) (μ 219 11)))) (st (upM (upM μ 219 12 1) 219 11 (μ 219 11))) := by
  refine met_of ?_ (Nat.le_of_ble_eq_true rfl) (by decide) trivial (by decide) (Nat.le_of_ble_eq_true rfl)
  show SPW mi_Mod_sign 226 0 [some (vR 219), some (vI lo), some (vI hi), none] [] (st μ) (some (vI (sgF (μ 225) (μ 219 8) (μ 219 11)))) (st (upM (upM μ 219 12 1) 219 11 (μ 219 11)))
  by_cases hlt : μ 219 11 < μ 219 8
  · have hz : sgF (μ 225) (μ 219 8) (μ 219 11) = μ 225 (μ 219 11) := if_pos hlt
    rw [hz] at hr
    rw [hz]
    refine r_aloadn dd_Mod_sign_0 rfl ?_
    refine r_getI dd_Mod_sign_1 fl_Mod_121 (kI := 11) rfl fi_Mod_11 vk_219 ?_
    refine r_aloadn dd_Mod_sign_4 rfl ?_
    refine r_getI dd_Mod_sign_5 fl_Mod_118 (kI := 8) rfl fi_Mod_8 vk_219 ?_
    refine r_icmp_ge dd_Mod_sign_8 (fun c_8 => ?_) (fun c_8 => ?_)
    · exfalso; omega
    · refine r_aloadn dd_Mod_sign_11 rfl ?_
      refine r_getR dd_Mod_sign_12 fl_Mod_25 (kI := 7) rfl fr_Mod_7 vk_219 R0_219_7 ?_
      refine r_aloadn dd_Mod_sign_15 rfl ?_
      refine r_getI dd_Mod_sign_16 fl_Mod_121 (kI := 11) rfl fi_Mod_11 vk_219 ?_
      refine r_iald dd_Mod_sign_19 (q := 15) (by decide) vk_225 (by omega) (by show _ < ((60 : Nat) : Int); omega) ?_
      refine r_goto dd_Mod_sign_20 ?_
      refine r_istoren (L' := [_, _, _, _]) dd_Mod_sign_24 rfl rfl ?_
      refine r_aloadn dd_Mod_sign_25 rfl ?_
      refine r_aloadn dd_Mod_sign_26 rfl ?_
      refine r_getI dd_Mod_sign_27 fl_Mod_124 (kI := 12) rfl fi_Mod_12 vk_219 ?_
      refine r_if_ne dd_Mod_sign_30 (fun c_30 => ?_) (fun c_30 => ?_)
      · exfalso; omega
      · refine r_iloadn dd_Mod_sign_33 rfl ?_
        refine r_iloadn dd_Mod_sign_34 rfl ?_
        refine r_iloadn dd_Mod_sign_35 rfl ?_
        refine r_S3W dd_Mod_sign_36 ml_Mod_35 ok_Mod_in st_Mod_in (clS rfl (Nat.le_refl _) (rmOK_self _ _)) rfl c_Mod_in ?_
        refine r_if_ne_b dd_Mod_sign_39 (fun c_39 => ?_) (fun c_39 => ?_)
        · exfalso; omega
        · refine r_iconst dd_Mod_sign_42 ⟨by decide, by decide⟩ ?_
          refine r_goto dd_Mod_sign_43 ?_
          refine r_putI dd_Mod_sign_47 fl_Mod_124 (kI := 12) rfl fc_Mod_12 ff_Mod_12 (pb_Mod_12 (by first | exact b2_01 | omega)) vk_219 ?_
          refine r_aloadn dd_Mod_sign_50 rfl ?_
          refine r_dup dd_Mod_sign_51 ?_
          refine r_getI dd_Mod_sign_52 fl_Mod_121 (kI := 11) rfl fi_Mod_11 vk_219 ?_
          rw [upM_ne (Or.inr (by decide))]
          refine r_aloadn dd_Mod_sign_55 rfl ?_
          refine r_getI dd_Mod_sign_56 fl_Mod_124 (kI := 12) rfl fi_Mod_12 vk_219 ?_
          rw [upM_eq]
          refine r_if_eq dd_Mod_sign_59 (fun c_59 => ?_) (fun c_59 => ?_)
          · exfalso; omega
          · refine r_iconst dd_Mod_sign_62 ⟨by decide, by decide⟩ ?_
            refine r_goto dd_Mod_sign_63 ?_
            refine r_iadd dd_Mod_sign_67 ⟨by omega, by omega⟩ ?_
            rw [Int.add_zero]
            refine r_putI dd_Mod_sign_68 fl_Mod_121 (kI := 11) rfl fc_Mod_11 ff_Mod_11 (pi_Mod_11 _) vk_219 ?_
            refine r_iloadn dd_Mod_sign_71 rfl ?_
            exact r_retI dd_Mod_sign_72 (by first | rfl | omega | exact (b2_t (by first | assumption | omega)).symm | exact (b2_f (by first | assumption | omega)).symm) rfl
  · have hz : sgF (μ 225) (μ 219 8) (μ 219 11) = 0 := if_neg hlt
    rw [hz] at hr
    rw [hz]
    refine r_aloadn dd_Mod_sign_0 rfl ?_
    refine r_getI dd_Mod_sign_1 fl_Mod_121 (kI := 11) rfl fi_Mod_11 vk_219 ?_
    refine r_aloadn dd_Mod_sign_4 rfl ?_
    refine r_getI dd_Mod_sign_5 fl_Mod_118 (kI := 8) rfl fi_Mod_8 vk_219 ?_
    refine r_icmp_ge dd_Mod_sign_8 (fun c_8 => ?_) (fun c_8 => ?_)
    · refine r_iconst dd_Mod_sign_23 ⟨by decide, by decide⟩ ?_
      refine r_istoren (L' := [_, _, _, _]) dd_Mod_sign_24 rfl rfl ?_
      refine r_aloadn dd_Mod_sign_25 rfl ?_
      refine r_aloadn dd_Mod_sign_26 rfl ?_
      refine r_getI dd_Mod_sign_27 fl_Mod_124 (kI := 12) rfl fi_Mod_12 vk_219 ?_
      refine r_if_ne dd_Mod_sign_30 (fun c_30 => ?_) (fun c_30 => ?_)
      · exfalso; omega
      · refine r_iloadn dd_Mod_sign_33 rfl ?_
        refine r_iloadn dd_Mod_sign_34 rfl ?_
        refine r_iloadn dd_Mod_sign_35 rfl ?_
        refine r_S3W dd_Mod_sign_36 ml_Mod_35 ok_Mod_in st_Mod_in (clS rfl (Nat.le_refl _) (rmOK_self _ _)) rfl c_Mod_in ?_
        refine r_if_ne_b dd_Mod_sign_39 (fun c_39 => ?_) (fun c_39 => ?_)
        · exfalso; omega
        · refine r_iconst dd_Mod_sign_42 ⟨by decide, by decide⟩ ?_
          refine r_goto dd_Mod_sign_43 ?_
          refine r_putI dd_Mod_sign_47 fl_Mod_124 (kI := 12) rfl fc_Mod_12 ff_Mod_12 (pb_Mod_12 (by first | exact b2_01 | omega)) vk_219 ?_
          refine r_aloadn dd_Mod_sign_50 rfl ?_
          refine r_dup dd_Mod_sign_51 ?_
          refine r_getI dd_Mod_sign_52 fl_Mod_121 (kI := 11) rfl fi_Mod_11 vk_219 ?_
          rw [upM_ne (Or.inr (by decide))]
          refine r_aloadn dd_Mod_sign_55 rfl ?_
          refine r_getI dd_Mod_sign_56 fl_Mod_124 (kI := 12) rfl fi_Mod_12 vk_219 ?_
          rw [upM_eq]
          refine r_if_eq dd_Mod_sign_59 (fun c_59 => ?_) (fun c_59 => ?_)
          · exfalso; omega
          · refine r_iconst dd_Mod_sign_62 ⟨by decide, by decide⟩ ?_
            refine r_goto dd_Mod_sign_63 ?_
            refine r_iadd dd_Mod_sign_67 ⟨by omega, by omega⟩ ?_
            rw [Int.add_zero]
            refine r_putI dd_Mod_sign_68 fl_Mod_121 (kI := 11) rfl fc_Mod_11 ff_Mod_11 (pi_Mod_11 _) vk_219 ?_
            refine r_iloadn dd_Mod_sign_71 rfl ?_
            exact r_retI dd_Mod_sign_72 (by first | rfl | omega | exact (b2_t (by first | assumption | omega)).symm | exact (b2_f (by first | assumption | omega)).symm) rfl
    · exfalso; omega
theorem c_Mod_sign_o {μ : Int → Int → Int} {lo hi : Int} (ha : 0 ≤ μ 219 11 ∧ μ 219 11 ≤ 60) (ht : 0 ≤ μ 219 8 ∧ μ 219 8 ≤ 60) (hw : μ 219 12 = 0) (hr : lo ≤ sgF (μ 225) (μ 219 8) (μ 219 11) ∧ sgF (μ 225) (μ 219 8) (μ 219 11) ≤ hi) : MetC mi_Mod_sign [vR 219, vI lo, vI hi] (st μ) (some (vI (sgF (μ 225) (μ 219 8) (μ 219 11)))) (st (upM (upM μ 219 12 0) 219 11 (μ 219 11 + 1))) := by
  refine met_of ?_ (Nat.le_of_ble_eq_true rfl) (by decide) trivial (by decide) (Nat.le_of_ble_eq_true rfl)
  show SPW mi_Mod_sign 226 0 [some (vR 219), some (vI lo), some (vI hi), none] [] (st μ) (some (vI (sgF (μ 225) (μ 219 8) (μ 219 11)))) (st (upM (upM μ 219 12 0) 219 11 (μ 219 11 + 1)))
  by_cases hlt : μ 219 11 < μ 219 8
  · have hz : sgF (μ 225) (μ 219 8) (μ 219 11) = μ 225 (μ 219 11) := if_pos hlt
    rw [hz] at hr
    rw [hz]
    refine r_aloadn dd_Mod_sign_0 rfl ?_
    refine r_getI dd_Mod_sign_1 fl_Mod_121 (kI := 11) rfl fi_Mod_11 vk_219 ?_
    refine r_aloadn dd_Mod_sign_4 rfl ?_
    refine r_getI dd_Mod_sign_5 fl_Mod_118 (kI := 8) rfl fi_Mod_8 vk_219 ?_
    refine r_icmp_ge dd_Mod_sign_8 (fun c_8 => ?_) (fun c_8 => ?_)
    · exfalso; omega
    · refine r_aloadn dd_Mod_sign_11 rfl ?_
      refine r_getR dd_Mod_sign_12 fl_Mod_25 (kI := 7) rfl fr_Mod_7 vk_219 R0_219_7 ?_
      refine r_aloadn dd_Mod_sign_15 rfl ?_
      refine r_getI dd_Mod_sign_16 fl_Mod_121 (kI := 11) rfl fi_Mod_11 vk_219 ?_
      refine r_iald dd_Mod_sign_19 (q := 15) (by decide) vk_225 (by omega) (by show _ < ((60 : Nat) : Int); omega) ?_
      refine r_goto dd_Mod_sign_20 ?_
      refine r_istoren (L' := [_, _, _, _]) dd_Mod_sign_24 rfl rfl ?_
      refine r_aloadn dd_Mod_sign_25 rfl ?_
      refine r_aloadn dd_Mod_sign_26 rfl ?_
      refine r_getI dd_Mod_sign_27 fl_Mod_124 (kI := 12) rfl fi_Mod_12 vk_219 ?_
      refine r_if_ne dd_Mod_sign_30 (fun c_30 => ?_) (fun c_30 => ?_)
      · exfalso; omega
      · refine r_iloadn dd_Mod_sign_33 rfl ?_
        refine r_iloadn dd_Mod_sign_34 rfl ?_
        refine r_iloadn dd_Mod_sign_35 rfl ?_
        refine r_S3W dd_Mod_sign_36 ml_Mod_35 ok_Mod_in st_Mod_in (clS rfl (Nat.le_refl _) (rmOK_self _ _)) rfl c_Mod_in ?_
        refine r_if_ne_b dd_Mod_sign_39 (fun c_39 => ?_) (fun c_39 => ?_)
        · refine r_iconst dd_Mod_sign_46 ⟨by decide, by decide⟩ ?_
          refine r_putI dd_Mod_sign_47 fl_Mod_124 (kI := 12) rfl fc_Mod_12 ff_Mod_12 (pb_Mod_12 (by first | exact b2_01 | omega)) vk_219 ?_
          refine r_aloadn dd_Mod_sign_50 rfl ?_
          refine r_dup dd_Mod_sign_51 ?_
          refine r_getI dd_Mod_sign_52 fl_Mod_121 (kI := 11) rfl fi_Mod_11 vk_219 ?_
          rw [upM_ne (Or.inr (by decide))]
          refine r_aloadn dd_Mod_sign_55 rfl ?_
          refine r_getI dd_Mod_sign_56 fl_Mod_124 (kI := 12) rfl fi_Mod_12 vk_219 ?_
          rw [upM_eq]
          refine r_if_eq dd_Mod_sign_59 (fun c_59 => ?_) (fun c_59 => ?_)
          · refine r_iconst dd_Mod_sign_66 ⟨by decide, by decide⟩ ?_
            refine r_iadd dd_Mod_sign_67 ⟨by omega, by omega⟩ ?_
            refine r_putI dd_Mod_sign_68 fl_Mod_121 (kI := 11) rfl fc_Mod_11 ff_Mod_11 (pi_Mod_11 _) vk_219 ?_
            refine r_iloadn dd_Mod_sign_71 rfl ?_
            exact r_retI dd_Mod_sign_72 (by first | rfl | omega | exact (b2_t (by first | assumption | omega)).symm | exact (b2_f (by first | assumption | omega)).symm) rfl
          · exfalso; omega
        · exfalso; omega
  · have hz : sgF (μ 225) (μ 219 8) (μ 219 11) = 0 := if_neg hlt
    rw [hz] at hr
    rw [hz]
    refine r_aloadn dd_Mod_sign_0 rfl ?_
    refine r_getI dd_Mod_sign_1 fl_Mod_121 (kI := 11) rfl fi_Mod_11 vk_219 ?_
    refine r_aloadn dd_Mod_sign_4 rfl ?_
    refine r_getI dd_Mod_sign_5 fl_Mod_118 (kI := 8) rfl fi_Mod_8 vk_219 ?_
    refine r_icmp_ge dd_Mod_sign_8 (fun c_8 => ?_) (fun c_8 => ?_)
    · refine r_iconst dd_Mod_sign_23 ⟨by decide, by decide⟩ ?_
      refine r_istoren (L' := [_, _, _, _]) dd_Mod_sign_24 rfl rfl ?_
      refine r_aloadn dd_Mod_sign_25 rfl ?_
      refine r_aloadn dd_Mod_sign_26 rfl ?_
      refine r_getI dd_Mod_sign_27 fl_Mod_124 (kI := 12) rfl fi_Mod_12 vk_219 ?_
      refine r_if_ne dd_Mod_sign_30 (fun c_30 => ?_) (fun c_30 => ?_)
      · exfalso; omega
      · refine r_iloadn dd_Mod_sign_33 rfl ?_
        refine r_iloadn dd_Mod_sign_34 rfl ?_
        refine r_iloadn dd_Mod_sign_35 rfl ?_
        refine r_S3W dd_Mod_sign_36 ml_Mod_35 ok_Mod_in st_Mod_in (clS rfl (Nat.le_refl _) (rmOK_self _ _)) rfl c_Mod_in ?_
        refine r_if_ne_b dd_Mod_sign_39 (fun c_39 => ?_) (fun c_39 => ?_)
        · refine r_iconst dd_Mod_sign_46 ⟨by decide, by decide⟩ ?_
          refine r_putI dd_Mod_sign_47 fl_Mod_124 (kI := 12) rfl fc_Mod_12 ff_Mod_12 (pb_Mod_12 (by first | exact b2_01 | omega)) vk_219 ?_
          refine r_aloadn dd_Mod_sign_50 rfl ?_
          refine r_dup dd_Mod_sign_51 ?_
          refine r_getI dd_Mod_sign_52 fl_Mod_121 (kI := 11) rfl fi_Mod_11 vk_219 ?_
          rw [upM_ne (Or.inr (by decide))]
          refine r_aloadn dd_Mod_sign_55 rfl ?_
          refine r_getI dd_Mod_sign_56 fl_Mod_124 (kI := 12) rfl fi_Mod_12 vk_219 ?_
          rw [upM_eq]
          refine r_if_eq dd_Mod_sign_59 (fun c_59 => ?_) (fun c_59 => ?_)
          · refine r_iconst dd_Mod_sign_66 ⟨by decide, by decide⟩ ?_
            refine r_iadd dd_Mod_sign_67 ⟨by omega, by omega⟩ ?_
            refine r_putI dd_Mod_sign_68 fl_Mod_121 (kI := 11) rfl fc_Mod_11 ff_Mod_11 (pi_Mod_11 _) vk_219 ?_
            refine r_iloadn dd_Mod_sign_71 rfl ?_
            exact r_retI dd_Mod_sign_72 (by first | rfl | omega | exact (b2_t (by first | assumption | omega)).symm | exact (b2_f (by first | assumption | omega)).symm) rfl
          · exfalso; omega
        · exfalso; omega
    · exfalso; omega
/-- the step of a sign on a place and a fault -/
theorem c_gs_f {μ : Int → Int → Int} {lo hi x : Int} (hx : 0 ≤ x ∧ x ≤ 60) (ht : 0 ≤ μ 219 8 ∧ μ 219 8 ≤ 60) : MetC mi_Mod_sign [vR 219, vI lo, vI hi] (st (gF μ x 1)) (some (vI (sgF (μ 225) (μ 219 8) x))) (st (gF μ x 1)) := by
  have k := c_Mod_sign_f (μ := gF μ x 1) (lo := lo) (hi := hi) (by rw [gF_11]; exact hx) (by rw [gF_o (Or.inr ⟨by decide, by decide⟩)]; exact ht) gF_12
  rw [gF_225, gF_11, gF_o (Or.inr ⟨by decide, by decide⟩), gF_s] at k
  exact k
theorem c_gs_e {μ : Int → Int → Int} {lo hi x : Int} (hx : 0 ≤ x ∧ x ≤ 60) (ht : 0 ≤ μ 219 8 ∧ μ 219 8 ≤ 60) (hr : ¬ (lo ≤ sgF (μ 225) (μ 219 8) x ∧ sgF (μ 225) (μ 219 8) x ≤ hi)) : MetC mi_Mod_sign [vR 219, vI lo, vI hi] (st (gF μ x 0)) (some (vI (sgF (μ 225) (μ 219 8) x))) (st (gF μ x 1)) := by
  have k := c_Mod_sign_e (μ := gF μ x 0) (lo := lo) (hi := hi) (by rw [gF_11]; exact hx) (by rw [gF_o (Or.inr ⟨by decide, by decide⟩)]; exact ht) gF_12 (by rw [gF_225, gF_11, gF_o (Or.inr ⟨by decide, by decide⟩)]; exact hr)
  rw [gF_225, gF_11, gF_o (Or.inr ⟨by decide, by decide⟩), gF_s] at k
  exact k
theorem c_gs_o {μ : Int → Int → Int} {lo hi x : Int} (hx : 0 ≤ x ∧ x ≤ 60) (ht : 0 ≤ μ 219 8 ∧ μ 219 8 ≤ 60) (hr : lo ≤ sgF (μ 225) (μ 219 8) x ∧ sgF (μ 225) (μ 219 8) x ≤ hi) : MetC mi_Mod_sign [vR 219, vI lo, vI hi] (st (gF μ x 0)) (some (vI (sgF (μ 225) (μ 219 8) x))) (st (gF μ (x + 1) 0)) := by
  have k := c_Mod_sign_o (μ := gF μ x 0) (lo := lo) (hi := hi) (by rw [gF_11]; exact hx) (by rw [gF_o (Or.inr ⟨by decide, by decide⟩)]; exact ht) gF_12 (by rw [gF_225, gF_11, gF_o (Or.inr ⟨by decide, by decide⟩)]; exact hr)
  rw [gF_225, gF_11, gF_o (Or.inr ⟨by decide, by decide⟩), gF_s] at k
  exact k

