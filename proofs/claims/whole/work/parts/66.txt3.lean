/-! the class: a number, a command read -/
theorem c_Txt_readNumber_o {μ : Int → Int → Int} {lo hi d : Int} (h : TX μ) (h5 : hi ≤ 500) (hd : dgF (sgF (μ 186) (μ 185 1) (μ 185 4)) = d) (hf : μ 185 5 = 0) (hlo : 0 ≤ lo ∧ lo ≤ d ∧ d ≤ hi) (hd2 : ¬ 0 ≤ dgF (sgF (μ 186) (μ 185 1) (nQ (μ 186) (μ 185 1) hi 3 (μ 185 4 + 1) d))) : MetC mi_Txt_readNumber [vR 185, vI lo, vI hi] (st μ) (some (vI (nZ (μ 186) (μ 185 1) hi 3 (μ 185 4 + 1) d))) (st (upM μ 185 4 (nQ (μ 186) (μ 185 1) hi 3 (μ 185 4 + 1) d))) := by
  refine met_of ?_ (Nat.le_of_ble_eq_true rfl) (by decide) trivial (by decide) (Nat.le_of_ble_eq_true rfl)
  show SPW mi_Txt_readNumber 226 0 [some (vR 185), some (vI lo), some (vI hi), none, none, none] [] (st μ) (some (vI (nZ (μ 186) (μ 185 1) hi 3 (μ 185 4 + 1) d))) (st (upM μ 185 4 (nQ (μ 186) (μ 185 1) hi 3 (μ 185 4 + 1) d)))
  have h1 := h.1
  have h3 := h.2.2
  have hy := dg_y (c := μ 186) (T := μ 185 1) (q := μ 185 4) (by rw [hd]; omega)
  have h9 := dg_rg (sgF (μ 186) (μ 185 1) (μ 185 4))
  refine r_aloadn dd_Txt_readNumber_0 rfl ?_
  refine r_V0W dd_Txt_readNumber_1 ml_Txt_65 ok_Txt_digitHere vi_Txt_digitHere vk_185 (by decide) (clS rfl (Nat.le_refl _) (rmOK_self _ _)) rfl (c_Txt_digitHere h) ?_
  rw [hd]
  refine r_istoren (L' := [_, _, _, _, _, _]) dd_Txt_readNumber_4 rfl rfl ?_
  refine r_aloadn dd_Txt_readNumber_5 rfl ?_
  refine r_getI dd_Txt_readNumber_6 fl_Txt_32 (kI := 5) rfl fi_Txt_5 vk_185 ?_
  refine r_if_ne dd_Txt_readNumber_9 (fun c_9 => ?_) (fun c_9 => ?_)
  · exfalso; omega
  · refine r_iloadn dd_Txt_readNumber_12 rfl ?_
    refine r_iloadn dd_Txt_readNumber_13 rfl ?_
    refine r_icmp_lt dd_Txt_readNumber_14 (fun c_14 => ?_) (fun c_14 => ?_)
    · exfalso; omega
    · refine r_iloadn dd_Txt_readNumber_17 rfl ?_
      refine r_iloadn dd_Txt_readNumber_18 rfl ?_
      refine r_icmp_le dd_Txt_readNumber_19 (fun c_19 => ?_) (fun c_19 => ?_)
      · refine r_aloadn dd_Txt_readNumber_29 rfl ?_
        refine r_dup dd_Txt_readNumber_30 ?_
        refine r_getI dd_Txt_readNumber_31 fl_Txt_29 (kI := 4) rfl fi_Txt_4 vk_185 ?_
        refine r_iconst dd_Txt_readNumber_34 ⟨by decide, by decide⟩ ?_
        refine r_iadd dd_Txt_readNumber_35 ⟨by omega, by omega⟩ ?_
        refine r_putI dd_Txt_readNumber_36 fl_Txt_29 (kI := 4) rfl fc_Txt_4 ff_Txt_4 (pi_Txt_4 _) vk_185 ?_
        refine r_iconst dd_Txt_readNumber_39 ⟨by decide, by decide⟩ ?_
        refine r_istore (L' := [_, _, _, _, _, _]) dd_Txt_readNumber_40 rfl rfl ?_
        exact l_Txt_num_o h h5 3 1 (μ 185 4 + 1) d rfl ⟨by omega, by omega⟩ (by omega) (by omega) hd2
      · exfalso; omega
theorem c_Txt_readNumber_e {μ : Int → Int → Int} {lo hi d : Int} (h : TX μ) (h5 : hi ≤ 500) (hd : dgF (sgF (μ 186) (μ 185 1) (μ 185 4)) = d) (hf : μ 185 5 = 0) (hlo : 0 ≤ lo ∧ lo ≤ d ∧ d ≤ hi) (hd2 : 0 ≤ dgF (sgF (μ 186) (μ 185 1) (nQ (μ 186) (μ 185 1) hi 3 (μ 185 4 + 1) d))) : MetC mi_Txt_readNumber [vR 185, vI lo, vI hi] (st μ) (some (vI 0)) (st (upM (upM μ 185 4 (nQ (μ 186) (μ 185 1) hi 3 (μ 185 4 + 1) d)) 185 5 1)) := by
  refine met_of ?_ (Nat.le_of_ble_eq_true rfl) (by decide) trivial (by decide) (Nat.le_of_ble_eq_true rfl)
  show SPW mi_Txt_readNumber 226 0 [some (vR 185), some (vI lo), some (vI hi), none, none, none] [] (st μ) (some (vI 0)) (st (upM (upM μ 185 4 (nQ (μ 186) (μ 185 1) hi 3 (μ 185 4 + 1) d)) 185 5 1))
  have h1 := h.1
  have h3 := h.2.2
  have hy := dg_y (c := μ 186) (T := μ 185 1) (q := μ 185 4) (by rw [hd]; omega)
  have h9 := dg_rg (sgF (μ 186) (μ 185 1) (μ 185 4))
  refine r_aloadn dd_Txt_readNumber_0 rfl ?_
  refine r_V0W dd_Txt_readNumber_1 ml_Txt_65 ok_Txt_digitHere vi_Txt_digitHere vk_185 (by decide) (clS rfl (Nat.le_refl _) (rmOK_self _ _)) rfl (c_Txt_digitHere h) ?_
  rw [hd]
  refine r_istoren (L' := [_, _, _, _, _, _]) dd_Txt_readNumber_4 rfl rfl ?_
  refine r_aloadn dd_Txt_readNumber_5 rfl ?_
  refine r_getI dd_Txt_readNumber_6 fl_Txt_32 (kI := 5) rfl fi_Txt_5 vk_185 ?_
  refine r_if_ne dd_Txt_readNumber_9 (fun c_9 => ?_) (fun c_9 => ?_)
  · exfalso; omega
  · refine r_iloadn dd_Txt_readNumber_12 rfl ?_
    refine r_iloadn dd_Txt_readNumber_13 rfl ?_
    refine r_icmp_lt dd_Txt_readNumber_14 (fun c_14 => ?_) (fun c_14 => ?_)
    · exfalso; omega
    · refine r_iloadn dd_Txt_readNumber_17 rfl ?_
      refine r_iloadn dd_Txt_readNumber_18 rfl ?_
      refine r_icmp_le dd_Txt_readNumber_19 (fun c_19 => ?_) (fun c_19 => ?_)
      · refine r_aloadn dd_Txt_readNumber_29 rfl ?_
        refine r_dup dd_Txt_readNumber_30 ?_
        refine r_getI dd_Txt_readNumber_31 fl_Txt_29 (kI := 4) rfl fi_Txt_4 vk_185 ?_
        refine r_iconst dd_Txt_readNumber_34 ⟨by decide, by decide⟩ ?_
        refine r_iadd dd_Txt_readNumber_35 ⟨by omega, by omega⟩ ?_
        refine r_putI dd_Txt_readNumber_36 fl_Txt_29 (kI := 4) rfl fc_Txt_4 ff_Txt_4 (pi_Txt_4 _) vk_185 ?_
        refine r_iconst dd_Txt_readNumber_39 ⟨by decide, by decide⟩ ?_
        refine r_istore (L' := [_, _, _, _, _, _]) dd_Txt_readNumber_40 rfl rfl ?_
        exact l_Txt_num_e h h5 3 1 (μ 185 4 + 1) d rfl ⟨by omega, by omega⟩ (by omega) (by omega) hd2
      · exfalso; omega
theorem c_Txt_readNumber_f {μ : Int → Int → Int} {lo hi : Int} (h : TX μ) (hb : (μ 185 5 = 0 ∧ (dgF (sgF (μ 186) (μ 185 1) (μ 185 4)) < lo ∨ hi < dgF (sgF (μ 186) (μ 185 1) (μ 185 4)))) ∨ μ 185 5 = 1) : MetC mi_Txt_readNumber [vR 185, vI lo, vI hi] (st μ) (some (vI 0)) (st (upM μ 185 5 1)) := by
  refine met_of ?_ (Nat.le_of_ble_eq_true rfl) (by decide) trivial (by decide) (Nat.le_of_ble_eq_true rfl)
  show SPW mi_Txt_readNumber 226 0 [some (vR 185), some (vI lo), some (vI hi), none, none, none] [] (st μ) (some (vI 0)) (st (upM μ 185 5 1))
  refine r_aloadn dd_Txt_readNumber_0 rfl ?_
  refine r_V0W dd_Txt_readNumber_1 ml_Txt_65 ok_Txt_digitHere vi_Txt_digitHere vk_185 (by decide) (clS rfl (Nat.le_refl _) (rmOK_self _ _)) rfl (c_Txt_digitHere h) ?_
  refine r_istoren (L' := [_, _, _, _, _, _]) dd_Txt_readNumber_4 rfl rfl ?_
  refine r_aloadn dd_Txt_readNumber_5 rfl ?_
  refine r_getI dd_Txt_readNumber_6 fl_Txt_32 (kI := 5) rfl fi_Txt_5 vk_185 ?_
  refine r_if_ne dd_Txt_readNumber_9 (fun c_9 => ?_) (fun c_9 => ?_)
  · refine r_aloadn dd_Txt_readNumber_22 rfl ?_
    refine r_iconst dd_Txt_readNumber_23 ⟨by decide, by decide⟩ ?_
    refine r_putI dd_Txt_readNumber_24 fl_Txt_32 (kI := 5) rfl fc_Txt_5 ff_Txt_5 (pb_Txt_5 (by first | exact b2_01 | omega)) vk_185 ?_
    refine r_iconst dd_Txt_readNumber_27 ⟨by decide, by decide⟩ ?_
    exact r_retI dd_Txt_readNumber_28 (by first | rfl | omega | exact (b2_t (by first | assumption | omega)).symm | exact (b2_f (by first | assumption | omega)).symm) rfl
  · refine r_iloadn dd_Txt_readNumber_12 rfl ?_
    refine r_iloadn dd_Txt_readNumber_13 rfl ?_
    refine r_icmp_lt dd_Txt_readNumber_14 (fun c_14 => ?_) (fun c_14 => ?_)
    · refine r_aloadn dd_Txt_readNumber_22 rfl ?_
      refine r_iconst dd_Txt_readNumber_23 ⟨by decide, by decide⟩ ?_
      refine r_putI dd_Txt_readNumber_24 fl_Txt_32 (kI := 5) rfl fc_Txt_5 ff_Txt_5 (pb_Txt_5 (by first | exact b2_01 | omega)) vk_185 ?_
      refine r_iconst dd_Txt_readNumber_27 ⟨by decide, by decide⟩ ?_
      exact r_retI dd_Txt_readNumber_28 (by first | rfl | omega | exact (b2_t (by first | assumption | omega)).symm | exact (b2_f (by first | assumption | omega)).symm) rfl
    · refine r_iloadn dd_Txt_readNumber_17 rfl ?_
      refine r_iloadn dd_Txt_readNumber_18 rfl ?_
      refine r_icmp_le dd_Txt_readNumber_19 (fun c_19 => ?_) (fun c_19 => ?_)
      · exfalso; omega
      · refine r_aloadn dd_Txt_readNumber_22 rfl ?_
        refine r_iconst dd_Txt_readNumber_23 ⟨by decide, by decide⟩ ?_
        refine r_putI dd_Txt_readNumber_24 fl_Txt_32 (kI := 5) rfl fc_Txt_5 ff_Txt_5 (pb_Txt_5 (by first | exact b2_01 | omega)) vk_185 ?_
        refine r_iconst dd_Txt_readNumber_27 ⟨by decide, by decide⟩ ?_
        exact r_retI dd_Txt_readNumber_28 (by first | rfl | omega | exact (b2_t (by first | assumption | omega)).symm | exact (b2_f (by first | assumption | omega)).symm) rfl
theorem c_Txt_readTwoNumbers {μ : Int → Int → Int} {o lo hi r1 r2 : Int} {ν1 ν2 ν3 : Int → Int → Int} (hv : vk 226 o 1) (h4 : 0 ≤ μ 185 4 ∧ μ 185 4 ≤ 60) (c1 : MetC mi_Txt_readNumber [vR 185, vI 0, vI 5] (st (upM μ 185 4 (μ 185 4 + 1))) (some (vI r1)) (st ν1)) (c2 : MetC mi_Txt_readSign [vR 185, vI 58] (st (upM ν1 o 1 r1)) none (st ν2)) (c3 : MetC mi_Txt_readNumber [vR 185, vI lo, vI hi] (st ν2) (some (vI r2)) (st ν3)) : MetC mi_Txt_readTwoNumbers [vR 185, vR o, vI lo, vI hi] (st μ) (none) (st (upM ν3 o 2 r2)) := by
  refine met_of ?_ (Nat.le_of_ble_eq_true rfl) (by decide) trivial (by decide) (Nat.le_of_ble_eq_true rfl)
  show SPW mi_Txt_readTwoNumbers 226 0 [some (vR 185), some (vR o), some (vI lo), some (vI hi)] [] (st μ) (none) (st (upM ν3 o 2 r2))
  refine r_aloadn dd_Txt_readTwoNumbers_0 rfl ?_
  refine r_dup dd_Txt_readTwoNumbers_1 ?_
  refine r_getI dd_Txt_readTwoNumbers_2 fl_Txt_29 (kI := 4) rfl fi_Txt_4 vk_185 ?_
  refine r_iconst dd_Txt_readTwoNumbers_5 ⟨by decide, by decide⟩ ?_
  refine r_iadd dd_Txt_readTwoNumbers_6 ⟨by omega, by omega⟩ ?_
  refine r_putI dd_Txt_readTwoNumbers_7 fl_Txt_29 (kI := 4) rfl fc_Txt_4 ff_Txt_4 (pi_Txt_4 _) vk_185 ?_
  refine r_aloadn dd_Txt_readTwoNumbers_10 rfl ?_
  refine r_aloadn dd_Txt_readTwoNumbers_11 rfl ?_
  refine r_iconst dd_Txt_readTwoNumbers_12 ⟨by decide, by decide⟩ ?_
  refine r_iconst dd_Txt_readTwoNumbers_13 ⟨by decide, by decide⟩ ?_
  refine r_V2W dd_Txt_readTwoNumbers_14 ml_Txt_55 ok_Txt_readNumber vi_Txt_readNumber vk_185 (by decide) (clS rfl (Nat.le_refl _) (rmOK_self _ _)) rfl c1 ?_
  refine r_putI dd_Txt_readTwoNumbers_17 fl_Txt_59 (kI := 1) rfl fc_Cmd_1 ff_Cmd_1 (pi_Cmd_1 _) hv ?_
  refine r_aloadn dd_Txt_readTwoNumbers_20 rfl ?_
  refine r_bip dd_Txt_readTwoNumbers_21 ⟨by decide, by decide⟩ ?_
  refine r_V1N dd_Txt_readTwoNumbers_23 ml_Txt_40 ok_Txt_readSign vi_Txt_readSign vk_185 (by decide) (clS rfl (Nat.le_refl _) (rmOK_self _ _)) rfl c2 ?_
  refine r_aloadn dd_Txt_readTwoNumbers_26 rfl ?_
  refine r_aloadn dd_Txt_readTwoNumbers_27 rfl ?_
  refine r_iloadn dd_Txt_readTwoNumbers_28 rfl ?_
  refine r_iloadn dd_Txt_readTwoNumbers_29 rfl ?_
  refine r_V2W dd_Txt_readTwoNumbers_30 ml_Txt_55 ok_Txt_readNumber vi_Txt_readNumber vk_185 (by decide) (clS rfl (Nat.le_refl _) (rmOK_self _ _)) rfl c3 ?_
  refine r_putI dd_Txt_readTwoNumbers_33 fl_Txt_62 (kI := 2) rfl fc_Cmd_2 ff_Cmd_2 (pi_Cmd_2 _) hv ?_
  exact r_retV dd_Txt_readTwoNumbers_36 rfl
theorem c_Txt_readCommand_a {μ : Int → Int → Int} {o z : Int}{F : Int → Int → Int} (hv : vk 226 o 1) (ho : o ≠ 185) (h : TX μ) (hz : sgF (μ 186) (μ 185 1) (μ 185 4) = z) (z0 : z = 97) (c : MetC mi_Txt_readTwoNumbers [vR 185, vR o, vI 1, vI 14] (st (upM μ o 0 z)) none (st F)) : MetC mi_Txt_readCommand [vR 185, vR o] (st μ) (none) (st (F)) := by
  refine met_of ?_ (Nat.le_of_ble_eq_true rfl) (by decide) trivial (by decide) (Nat.le_of_ble_eq_true rfl)
  show SPW mi_Txt_readCommand 226 0 [some (vR 185), some (vR o)] [] (st μ) (none) (st (F))
  refine r_aloadn dd_Txt_readCommand_0 rfl ?_
  refine r_aloadn dd_Txt_readCommand_1 rfl ?_
  refine r_V0W dd_Txt_readCommand_2 ml_Txt_44 ok_Txt_signHere vi_Txt_signHere vk_185 (by decide) (clS rfl (Nat.le_refl _) (rmOK_self _ _)) rfl (c_Txt_signHere h) ?_
  rw [hz]
  refine r_putI dd_Txt_readCommand_5 fl_Txt_48 (kI := 0) rfl fc_Cmd_0 ff_Cmd_0 (pi_Cmd_0 _) hv ?_
  refine r_aloadn dd_Txt_readCommand_8 rfl ?_
  refine r_getI dd_Txt_readCommand_9 fl_Txt_48 (kI := 0) rfl fi_Cmd_0 hv ?_
  rw [upM_eq]
  by_cases s12_97 : z = 97
  · refine r_lookAt (tgt := 64) (off := 52) dd_Txt_readCommand_12 s12_97 (by decide) (by decide) rfl ?_
    refine r_aloadn dd_Txt_readCommand_64 rfl ?_
    refine r_aloadn dd_Txt_readCommand_65 rfl ?_
    refine r_iconst dd_Txt_readCommand_66 ⟨by decide, by decide⟩ ?_
    refine r_bip dd_Txt_readCommand_67 ⟨by decide, by decide⟩ ?_
    refine r_V3N dd_Txt_readCommand_69 ml_Txt_51 ok_Txt_readTwoNumbers vi_Txt_readTwoNumbers vk_185 (by decide) (clS rfl (Nat.le_refl _) (rmOK_self _ _)) rfl c ?_
    refine r_goto dd_Txt_readCommand_72 ?_
    exact r_retV dd_Txt_readCommand_153 rfl
  by_cases s12_101 : z = 101
  · refine r_lookAt (tgt := 112) (off := 100) dd_Txt_readCommand_12 s12_101 (by decide) (by decide) rfl ?_
    exfalso; omega
  by_cases s12_102 : z = 102
  · refine r_lookAt (tgt := 75) (off := 63) dd_Txt_readCommand_12 s12_102 (by decide) (by decide) rfl ?_
    exfalso; omega
  by_cases s12_115 : z = 115
  · refine r_lookAt (tgt := 135) (off := 123) dd_Txt_readCommand_12 s12_115 (by decide) (by decide) rfl ?_
    exfalso; omega
  by_cases s12_116 : z = 116
  · refine r_lookAt (tgt := 87) (off := 75) dd_Txt_readCommand_12 s12_116 (by decide) (by decide) rfl ?_
    exfalso; omega
  refine r_look (tgt := 148) (off := 136) dd_Txt_readCommand_12 (by decide) (by simp [Op.lookupswitch.offset, s12_97, Ne.symm s12_97, s12_101, Ne.symm s12_101, s12_102, Ne.symm s12_102, s12_115, Ne.symm s12_115, s12_116, Ne.symm s12_116]) rfl ?_
  exfalso; omega
theorem c_Txt_readCommand_b {μ : Int → Int → Int} {o z : Int}{F : Int → Int → Int} (hv : vk 226 o 1) (ho : o ≠ 185) (h : TX μ) (hz : sgF (μ 186) (μ 185 1) (μ 185 4) = z) (z0 : z = 102) (c : MetC mi_Txt_readTwoNumbers [vR 185, vR o, vI 0, vI 299] (st (upM μ o 0 z)) none (st F)) : MetC mi_Txt_readCommand [vR 185, vR o] (st μ) (none) (st (F)) := by
  refine met_of ?_ (Nat.le_of_ble_eq_true rfl) (by decide) trivial (by decide) (Nat.le_of_ble_eq_true rfl)
  show SPW mi_Txt_readCommand 226 0 [some (vR 185), some (vR o)] [] (st μ) (none) (st (F))
  refine r_aloadn dd_Txt_readCommand_0 rfl ?_
  refine r_aloadn dd_Txt_readCommand_1 rfl ?_
  refine r_V0W dd_Txt_readCommand_2 ml_Txt_44 ok_Txt_signHere vi_Txt_signHere vk_185 (by decide) (clS rfl (Nat.le_refl _) (rmOK_self _ _)) rfl (c_Txt_signHere h) ?_
  rw [hz]
  refine r_putI dd_Txt_readCommand_5 fl_Txt_48 (kI := 0) rfl fc_Cmd_0 ff_Cmd_0 (pi_Cmd_0 _) hv ?_
  refine r_aloadn dd_Txt_readCommand_8 rfl ?_
  refine r_getI dd_Txt_readCommand_9 fl_Txt_48 (kI := 0) rfl fi_Cmd_0 hv ?_
  rw [upM_eq]
  by_cases s12_97 : z = 97
  · refine r_lookAt (tgt := 64) (off := 52) dd_Txt_readCommand_12 s12_97 (by decide) (by decide) rfl ?_
    exfalso; omega
  by_cases s12_101 : z = 101
  · refine r_lookAt (tgt := 112) (off := 100) dd_Txt_readCommand_12 s12_101 (by decide) (by decide) rfl ?_
    exfalso; omega
  by_cases s12_102 : z = 102
  · refine r_lookAt (tgt := 75) (off := 63) dd_Txt_readCommand_12 s12_102 (by decide) (by decide) rfl ?_
    refine r_aloadn dd_Txt_readCommand_75 rfl ?_
    refine r_aloadn dd_Txt_readCommand_76 rfl ?_
    refine r_iconst dd_Txt_readCommand_77 ⟨by decide, by decide⟩ ?_
    refine r_sip dd_Txt_readCommand_78 ⟨by decide, by decide⟩ ?_
    refine r_V3N dd_Txt_readCommand_81 ml_Txt_51 ok_Txt_readTwoNumbers vi_Txt_readTwoNumbers vk_185 (by decide) (clS rfl (Nat.le_refl _) (rmOK_self _ _)) rfl c ?_
    refine r_goto dd_Txt_readCommand_84 ?_
    exact r_retV dd_Txt_readCommand_153 rfl
  by_cases s12_115 : z = 115
  · refine r_lookAt (tgt := 135) (off := 123) dd_Txt_readCommand_12 s12_115 (by decide) (by decide) rfl ?_
    exfalso; omega
  by_cases s12_116 : z = 116
  · refine r_lookAt (tgt := 87) (off := 75) dd_Txt_readCommand_12 s12_116 (by decide) (by decide) rfl ?_
    exfalso; omega
  refine r_look (tgt := 148) (off := 136) dd_Txt_readCommand_12 (by decide) (by simp [Op.lookupswitch.offset, s12_97, Ne.symm s12_97, s12_101, Ne.symm s12_101, s12_102, Ne.symm s12_102, s12_115, Ne.symm s12_115, s12_116, Ne.symm s12_116]) rfl ?_
  exfalso; omega
theorem c_Txt_readCommand_t {μ : Int → Int → Int} {o z : Int}{F : Int → Int → Int} (hv : vk 226 o 1) (ho : o ≠ 185) (h : TX μ) (hz : sgF (μ 186) (μ 185 1) (μ 185 4) = z) {r : Int} (z0 : z = 116) (c : MetC mi_Txt_readNumber [vR 185, vI 1, vI 500] (st (upM (upM μ o 0 z) 185 4 (μ 185 4 + 1))) (some (vI r)) (st F)) : MetC mi_Txt_readCommand [vR 185, vR o] (st μ) (none) (st (upM F o 1 r)) := by
  refine met_of ?_ (Nat.le_of_ble_eq_true rfl) (by decide) trivial (by decide) (Nat.le_of_ble_eq_true rfl)
  show SPW mi_Txt_readCommand 226 0 [some (vR 185), some (vR o)] [] (st μ) (none) (st (upM F o 1 r))
  have h1 := h.1
  have h3 := h.2.2
  refine r_aloadn dd_Txt_readCommand_0 rfl ?_
  refine r_aloadn dd_Txt_readCommand_1 rfl ?_
  refine r_V0W dd_Txt_readCommand_2 ml_Txt_44 ok_Txt_signHere vi_Txt_signHere vk_185 (by decide) (clS rfl (Nat.le_refl _) (rmOK_self _ _)) rfl (c_Txt_signHere h) ?_
  rw [hz]
  refine r_putI dd_Txt_readCommand_5 fl_Txt_48 (kI := 0) rfl fc_Cmd_0 ff_Cmd_0 (pi_Cmd_0 _) hv ?_
  refine r_aloadn dd_Txt_readCommand_8 rfl ?_
  refine r_getI dd_Txt_readCommand_9 fl_Txt_48 (kI := 0) rfl fi_Cmd_0 hv ?_
  rw [upM_eq]
  by_cases s12_97 : z = 97
  · refine r_lookAt (tgt := 64) (off := 52) dd_Txt_readCommand_12 s12_97 (by decide) (by decide) rfl ?_
    exfalso; omega
  by_cases s12_101 : z = 101
  · refine r_lookAt (tgt := 112) (off := 100) dd_Txt_readCommand_12 s12_101 (by decide) (by decide) rfl ?_
    exfalso; omega
  by_cases s12_102 : z = 102
  · refine r_lookAt (tgt := 75) (off := 63) dd_Txt_readCommand_12 s12_102 (by decide) (by decide) rfl ?_
    exfalso; omega
  by_cases s12_115 : z = 115
  · refine r_lookAt (tgt := 135) (off := 123) dd_Txt_readCommand_12 s12_115 (by decide) (by decide) rfl ?_
    exfalso; omega
  by_cases s12_116 : z = 116
  · refine r_lookAt (tgt := 87) (off := 75) dd_Txt_readCommand_12 s12_116 (by decide) (by decide) rfl ?_
    refine r_aloadn dd_Txt_readCommand_87 rfl ?_
    refine r_dup dd_Txt_readCommand_88 ?_
    refine r_getI dd_Txt_readCommand_89 fl_Txt_29 (kI := 4) rfl fi_Txt_4 vk_185 ?_
    rw [upM_ne (Or.inl (Ne.symm ho))]
    refine r_iconst dd_Txt_readCommand_92 ⟨by decide, by decide⟩ ?_
    refine r_iadd dd_Txt_readCommand_93 ⟨by omega, by omega⟩ ?_
    refine r_putI dd_Txt_readCommand_94 fl_Txt_29 (kI := 4) rfl fc_Txt_4 ff_Txt_4 (pi_Txt_4 _) vk_185 ?_
    refine r_aloadn dd_Txt_readCommand_97 rfl ?_
    refine r_aloadn dd_Txt_readCommand_98 rfl ?_
    refine r_iconst dd_Txt_readCommand_99 ⟨by decide, by decide⟩ ?_
    refine r_sip dd_Txt_readCommand_100 ⟨by decide, by decide⟩ ?_
    refine r_V2W dd_Txt_readCommand_103 ml_Txt_55 ok_Txt_readNumber vi_Txt_readNumber vk_185 (by decide) (clS rfl (Nat.le_refl _) (rmOK_self _ _)) rfl c ?_
    refine r_putI dd_Txt_readCommand_106 fl_Txt_59 (kI := 1) rfl fc_Cmd_1 ff_Cmd_1 (pi_Cmd_1 _) hv ?_
    refine r_goto dd_Txt_readCommand_109 ?_
    exact r_retV dd_Txt_readCommand_153 rfl
  refine r_look (tgt := 148) (off := 136) dd_Txt_readCommand_12 (by decide) (by simp [Op.lookupswitch.offset, s12_97, Ne.symm s12_97, s12_101, Ne.symm s12_101, s12_102, Ne.symm s12_102, s12_115, Ne.symm s12_115, s12_116, Ne.symm s12_116]) rfl ?_
  exfalso; omega
theorem c_Txt_readCommand_e {μ : Int → Int → Int} {o z : Int}{F : Int → Int → Int} (hv : vk 226 o 1) (ho : o ≠ 185) (h : TX μ) (hz : sgF (μ 186) (μ 185 1) (μ 185 4) = z) {r : Int} (z0 : z = 101) (c : MetC mi_Txt_readNumber [vR 185, vI 0, vI 5] (st (upM (upM μ o 0 z) 185 4 (μ 185 4 + 1))) (some (vI r)) (st F)) : MetC mi_Txt_readCommand [vR 185, vR o] (st μ) (none) (st (upM F o 1 r)) := by
  refine met_of ?_ (Nat.le_of_ble_eq_true rfl) (by decide) trivial (by decide) (Nat.le_of_ble_eq_true rfl)
  show SPW mi_Txt_readCommand 226 0 [some (vR 185), some (vR o)] [] (st μ) (none) (st (upM F o 1 r))
  have h1 := h.1
  have h3 := h.2.2
  refine r_aloadn dd_Txt_readCommand_0 rfl ?_
  refine r_aloadn dd_Txt_readCommand_1 rfl ?_
  refine r_V0W dd_Txt_readCommand_2 ml_Txt_44 ok_Txt_signHere vi_Txt_signHere vk_185 (by decide) (clS rfl (Nat.le_refl _) (rmOK_self _ _)) rfl (c_Txt_signHere h) ?_
  rw [hz]
  refine r_putI dd_Txt_readCommand_5 fl_Txt_48 (kI := 0) rfl fc_Cmd_0 ff_Cmd_0 (pi_Cmd_0 _) hv ?_
  refine r_aloadn dd_Txt_readCommand_8 rfl ?_
  refine r_getI dd_Txt_readCommand_9 fl_Txt_48 (kI := 0) rfl fi_Cmd_0 hv ?_
  rw [upM_eq]
  by_cases s12_97 : z = 97
  · refine r_lookAt (tgt := 64) (off := 52) dd_Txt_readCommand_12 s12_97 (by decide) (by decide) rfl ?_
    exfalso; omega
  by_cases s12_101 : z = 101
  · refine r_lookAt (tgt := 112) (off := 100) dd_Txt_readCommand_12 s12_101 (by decide) (by decide) rfl ?_
    refine r_aloadn dd_Txt_readCommand_112 rfl ?_
    refine r_dup dd_Txt_readCommand_113 ?_
    refine r_getI dd_Txt_readCommand_114 fl_Txt_29 (kI := 4) rfl fi_Txt_4 vk_185 ?_
    rw [upM_ne (Or.inl (Ne.symm ho))]
    refine r_iconst dd_Txt_readCommand_117 ⟨by decide, by decide⟩ ?_
    refine r_iadd dd_Txt_readCommand_118 ⟨by omega, by omega⟩ ?_
    refine r_putI dd_Txt_readCommand_119 fl_Txt_29 (kI := 4) rfl fc_Txt_4 ff_Txt_4 (pi_Txt_4 _) vk_185 ?_
    refine r_aloadn dd_Txt_readCommand_122 rfl ?_
    refine r_aloadn dd_Txt_readCommand_123 rfl ?_
    refine r_iconst dd_Txt_readCommand_124 ⟨by decide, by decide⟩ ?_
    refine r_iconst dd_Txt_readCommand_125 ⟨by decide, by decide⟩ ?_
    refine r_V2W dd_Txt_readCommand_126 ml_Txt_55 ok_Txt_readNumber vi_Txt_readNumber vk_185 (by decide) (clS rfl (Nat.le_refl _) (rmOK_self _ _)) rfl c ?_
    refine r_putI dd_Txt_readCommand_129 fl_Txt_59 (kI := 1) rfl fc_Cmd_1 ff_Cmd_1 (pi_Cmd_1 _) hv ?_
    refine r_goto dd_Txt_readCommand_132 ?_
    exact r_retV dd_Txt_readCommand_153 rfl
  by_cases s12_102 : z = 102
  · refine r_lookAt (tgt := 75) (off := 63) dd_Txt_readCommand_12 s12_102 (by decide) (by decide) rfl ?_
    exfalso; omega
  by_cases s12_115 : z = 115
  · refine r_lookAt (tgt := 135) (off := 123) dd_Txt_readCommand_12 s12_115 (by decide) (by decide) rfl ?_
    exfalso; omega
  by_cases s12_116 : z = 116
  · refine r_lookAt (tgt := 87) (off := 75) dd_Txt_readCommand_12 s12_116 (by decide) (by decide) rfl ?_
    exfalso; omega
  refine r_look (tgt := 148) (off := 136) dd_Txt_readCommand_12 (by decide) (by simp [Op.lookupswitch.offset, s12_97, Ne.symm s12_97, s12_101, Ne.symm s12_101, s12_102, Ne.symm s12_102, s12_115, Ne.symm s12_115, s12_116, Ne.symm s12_116]) rfl ?_
  exfalso; omega
theorem c_Txt_readCommand_s {μ : Int → Int → Int} {o z : Int} (hv : vk 226 o 1) (ho : o ≠ 185) (h : TX μ) (hz : sgF (μ 186) (μ 185 1) (μ 185 4) = z) (z0 : z = 115) : MetC mi_Txt_readCommand [vR 185, vR o] (st μ) (none) (st (upM (upM μ o 0 z) 185 4 (μ 185 4 + 1))) := by
  refine met_of ?_ (Nat.le_of_ble_eq_true rfl) (by decide) trivial (by decide) (Nat.le_of_ble_eq_true rfl)
  show SPW mi_Txt_readCommand 226 0 [some (vR 185), some (vR o)] [] (st μ) (none) (st (upM (upM μ o 0 z) 185 4 (μ 185 4 + 1)))
  have h1 := h.1
  have h3 := h.2.2
  refine r_aloadn dd_Txt_readCommand_0 rfl ?_
  refine r_aloadn dd_Txt_readCommand_1 rfl ?_
  refine r_V0W dd_Txt_readCommand_2 ml_Txt_44 ok_Txt_signHere vi_Txt_signHere vk_185 (by decide) (clS rfl (Nat.le_refl _) (rmOK_self _ _)) rfl (c_Txt_signHere h) ?_
  rw [hz]
  refine r_putI dd_Txt_readCommand_5 fl_Txt_48 (kI := 0) rfl fc_Cmd_0 ff_Cmd_0 (pi_Cmd_0 _) hv ?_
  refine r_aloadn dd_Txt_readCommand_8 rfl ?_
  refine r_getI dd_Txt_readCommand_9 fl_Txt_48 (kI := 0) rfl fi_Cmd_0 hv ?_
  rw [upM_eq]
  by_cases s12_97 : z = 97
  · refine r_lookAt (tgt := 64) (off := 52) dd_Txt_readCommand_12 s12_97 (by decide) (by decide) rfl ?_
    exfalso; omega
  by_cases s12_101 : z = 101
  · refine r_lookAt (tgt := 112) (off := 100) dd_Txt_readCommand_12 s12_101 (by decide) (by decide) rfl ?_
    exfalso; omega
  by_cases s12_102 : z = 102
  · refine r_lookAt (tgt := 75) (off := 63) dd_Txt_readCommand_12 s12_102 (by decide) (by decide) rfl ?_
    exfalso; omega
  by_cases s12_115 : z = 115
  · refine r_lookAt (tgt := 135) (off := 123) dd_Txt_readCommand_12 s12_115 (by decide) (by decide) rfl ?_
    refine r_aloadn dd_Txt_readCommand_135 rfl ?_
    refine r_dup dd_Txt_readCommand_136 ?_
    refine r_getI dd_Txt_readCommand_137 fl_Txt_29 (kI := 4) rfl fi_Txt_4 vk_185 ?_
    rw [upM_ne (Or.inl (Ne.symm ho))]
    refine r_iconst dd_Txt_readCommand_140 ⟨by decide, by decide⟩ ?_
    refine r_iadd dd_Txt_readCommand_141 ⟨by omega, by omega⟩ ?_
    refine r_putI dd_Txt_readCommand_142 fl_Txt_29 (kI := 4) rfl fc_Txt_4 ff_Txt_4 (pi_Txt_4 _) vk_185 ?_
    refine r_goto dd_Txt_readCommand_145 ?_
    exact r_retV dd_Txt_readCommand_153 rfl
  by_cases s12_116 : z = 116
  · refine r_lookAt (tgt := 87) (off := 75) dd_Txt_readCommand_12 s12_116 (by decide) (by decide) rfl ?_
    exfalso; omega
  refine r_look (tgt := 148) (off := 136) dd_Txt_readCommand_12 (by decide) (by simp [Op.lookupswitch.offset, s12_97, Ne.symm s12_97, s12_101, Ne.symm s12_101, s12_102, Ne.symm s12_102, s12_115, Ne.symm s12_115, s12_116, Ne.symm s12_116]) rfl ?_
  exfalso; omega
theorem c_Txt_readCommand_x {μ : Int → Int → Int} {o z : Int} (hv : vk 226 o 1) (ho : o ≠ 185) (h : TX μ) (hz : sgF (μ 186) (μ 185 1) (μ 185 4) = z) (z0 : z ≠ 97 ∧ z ≠ 102 ∧ z ≠ 116 ∧ z ≠ 101 ∧ z ≠ 115) : MetC mi_Txt_readCommand [vR 185, vR o] (st μ) (none) (st (upM (upM μ o 0 z) 185 5 1)) := by
  refine met_of ?_ (Nat.le_of_ble_eq_true rfl) (by decide) trivial (by decide) (Nat.le_of_ble_eq_true rfl)
  show SPW mi_Txt_readCommand 226 0 [some (vR 185), some (vR o)] [] (st μ) (none) (st (upM (upM μ o 0 z) 185 5 1))
  refine r_aloadn dd_Txt_readCommand_0 rfl ?_
  refine r_aloadn dd_Txt_readCommand_1 rfl ?_
  refine r_V0W dd_Txt_readCommand_2 ml_Txt_44 ok_Txt_signHere vi_Txt_signHere vk_185 (by decide) (clS rfl (Nat.le_refl _) (rmOK_self _ _)) rfl (c_Txt_signHere h) ?_
  rw [hz]
  refine r_putI dd_Txt_readCommand_5 fl_Txt_48 (kI := 0) rfl fc_Cmd_0 ff_Cmd_0 (pi_Cmd_0 _) hv ?_
  refine r_aloadn dd_Txt_readCommand_8 rfl ?_
  refine r_getI dd_Txt_readCommand_9 fl_Txt_48 (kI := 0) rfl fi_Cmd_0 hv ?_
  rw [upM_eq]
  by_cases s12_97 : z = 97
  · refine r_lookAt (tgt := 64) (off := 52) dd_Txt_readCommand_12 s12_97 (by decide) (by decide) rfl ?_
    exfalso; omega
  by_cases s12_101 : z = 101
  · refine r_lookAt (tgt := 112) (off := 100) dd_Txt_readCommand_12 s12_101 (by decide) (by decide) rfl ?_
    exfalso; omega
  by_cases s12_102 : z = 102
  · refine r_lookAt (tgt := 75) (off := 63) dd_Txt_readCommand_12 s12_102 (by decide) (by decide) rfl ?_
    exfalso; omega
  by_cases s12_115 : z = 115
  · refine r_lookAt (tgt := 135) (off := 123) dd_Txt_readCommand_12 s12_115 (by decide) (by decide) rfl ?_
    exfalso; omega
  by_cases s12_116 : z = 116
  · refine r_lookAt (tgt := 87) (off := 75) dd_Txt_readCommand_12 s12_116 (by decide) (by decide) rfl ?_
    exfalso; omega
  refine r_look (tgt := 148) (off := 136) dd_Txt_readCommand_12 (by decide) (by simp [Op.lookupswitch.offset, s12_97, Ne.symm s12_97, s12_101, Ne.symm s12_101, s12_102, Ne.symm s12_102, s12_115, Ne.symm s12_115, s12_116, Ne.symm s12_116]) rfl ?_
  refine r_aloadn dd_Txt_readCommand_148 rfl ?_
  refine r_iconst dd_Txt_readCommand_149 ⟨by decide, by decide⟩ ?_
  refine r_putI dd_Txt_readCommand_150 fl_Txt_32 (kI := 5) rfl fc_Txt_5 ff_Txt_5 (pb_Txt_5 (by first | exact b2_01 | omega)) vk_185 ?_
  exact r_retV dd_Txt_readCommand_153 rfl
