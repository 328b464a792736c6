/-! the class: count, type, clearText -/
theorem c_Poo_count {μ : Int → Int → Int} {K : Int} {m : Int → Int} (hR : RI K μ m) {what : Int} : MetC mi_Poo_count [vR 0, vI what] (st μ) (some (vI (if what = 10 then μ 79 2 else if what = 11 then μ 185 1 else cntC m what))) (st (μ)) := by
  refine met_of ?_ (Nat.le_of_ble_eq_true rfl) (by decide) trivial (by decide) (Nat.le_of_ble_eq_true rfl)
  show SPW mi_Poo_count 226 0 [some (vR 0), some (vI what)] [] (st μ) (some (vI (if what = 10 then μ 79 2 else if what = 11 then μ 185 1 else cntC m what))) (st (μ))
  refine r_iloadn dd_Poo_count_0 rfl ?_
  by_cases s1_10 : what = 10
  · refine r_lookAt (tgt := 28) (off := 27) dd_Poo_count_1 s1_10 (by decide) (by decide) rfl ?_
    refine r_aloadn dd_Poo_count_28 rfl ?_
    refine r_getR dd_Poo_count_29 fl_Poo_25 (kI := 4) rfl fr_Poo_4 vk_0 R0_0_4 ?_
    refine r_V0W dd_Poo_count_32 ml_Poo_154 ok_His_length vi_His_length vk_79 (by decide) (clS rfl (Nat.le_refl _) (rmOK_self _ _)) rfl c_His_length ?_
    exact r_retI dd_Poo_count_35 (by (repeat (first | rw [if_pos (by omega)] | rw [if_neg (by omega)])); first | done | omega | (congr 1; omega) | exact (b2_t (by first | assumption | omega)).symm | exact (b2_f (by first | assumption | omega)).symm) rfl
  by_cases s1_11 : what = 11
  · refine r_lookAt (tgt := 36) (off := 35) dd_Poo_count_1 s1_11 (by decide) (by decide) rfl ?_
    refine r_aloadn dd_Poo_count_36 rfl ?_
    refine r_getR dd_Poo_count_37 fl_Poo_32 (kI := 5) rfl fr_Poo_5 vk_0 R0_0_5 ?_
    refine r_V0W dd_Poo_count_40 ml_Poo_157 ok_Txt_length vi_Txt_length vk_185 (by decide) (clS rfl (Nat.le_refl _) (rmOK_self _ _)) rfl c_Txt_length ?_
    exact r_retI dd_Poo_count_43 (by (repeat (first | rw [if_pos (by omega)] | rw [if_neg (by omega)])); first | done | omega | (congr 1; omega) | exact (b2_t (by first | assumption | omega)).symm | exact (b2_f (by first | assumption | omega)).symm) rfl
  refine r_look (tgt := 44) (off := 43) dd_Poo_count_1 (by decide) (by simp [Op.lookupswitch.offset, s1_10, Ne.symm s1_10, s1_11, Ne.symm s1_11]) rfl ?_
  refine r_aloadn dd_Poo_count_44 rfl ?_
  refine r_getR dd_Poo_count_45 fl_Poo_10 (kI := 0) rfl fr_Poo_0 vk_0 R0_0_0 ?_
  refine r_iloadn dd_Poo_count_48 rfl ?_
  refine r_V1W dd_Poo_count_49 ml_Poo_158 ok_Sta_tellCount vi_Sta_tellCount vk_1 (by decide) (clS rfl (Nat.le_refl _) (rmOK_self _ _)) rfl (c_Sta_tellCount hR) ?_
  exact r_retI dd_Poo_count_52 (by (repeat (first | rw [if_pos (by omega)] | rw [if_neg (by omega)])); first | done | omega | (congr 1; omega) | exact (b2_t (by first | assumption | omega)).symm | exact (b2_f (by first | assumption | omega)).symm) rfl
theorem c_Txt_append_e {μ : Int → Int → Int} {c : Int} (h : μ 185 1 = 60) : MetC mi_Txt_append [vR 185, vI c] (st μ) (some (vI (-3))) (st (μ)) := by
  refine met_of ?_ (Nat.le_of_ble_eq_true rfl) (by decide) trivial (by decide) (Nat.le_of_ble_eq_true rfl)
  show SPW mi_Txt_append 226 0 [some (vR 185), some (vI c)] [] (st μ) (some (vI (-3))) (st (μ))
  refine r_aloadn dd_Txt_append_0 rfl ?_
  refine r_getI dd_Txt_append_1 fl_Txt_22 (kI := 1) rfl fi_Txt_1 vk_185 ?_
  refine r_if_lt dd_Txt_append_4 (fun c_4 => ?_) (fun c_4 => ?_)
  · refine r_bip dd_Txt_append_16 ⟨by decide, by decide⟩ ?_
    exact r_retI dd_Txt_append_18 (by first | rfl | omega | exact (b2_t (by first | assumption | omega)).symm | exact (b2_f (by first | assumption | omega)).symm) rfl
  · refine r_aloadn dd_Txt_append_7 rfl ?_
    refine r_getI dd_Txt_append_8 fl_Txt_22 (kI := 1) rfl fi_Txt_1 vk_185 ?_
    refine r_bip dd_Txt_append_11 ⟨by decide, by decide⟩ ?_
    refine r_icmp_lt dd_Txt_append_13 (fun c_13 => ?_) (fun c_13 => ?_)
    · exfalso; omega
    · refine r_bip dd_Txt_append_16 ⟨by decide, by decide⟩ ?_
      exact r_retI dd_Txt_append_18 (by first | rfl | omega | exact (b2_t (by first | assumption | omega)).symm | exact (b2_f (by first | assumption | omega)).symm) rfl
theorem c_Txt_append_o {μ : Int → Int → Int} {c : Int} (h : 0 ≤ μ 185 1 ∧ μ 185 1 < 60) (hc : 0 ≤ c ∧ c ≤ 65535) : MetC mi_Txt_append [vR 185, vI c] (st μ) (some (vI (μ 185 1 + 1))) (st (upM (upM μ 186 (μ 185 1) c) 185 1 (μ 185 1 + 1))) := by
  refine met_of ?_ (Nat.le_of_ble_eq_true rfl) (by decide) trivial (by decide) (Nat.le_of_ble_eq_true rfl)
  show SPW mi_Txt_append 226 0 [some (vR 185), some (vI c)] [] (st μ) (some (vI (μ 185 1 + 1))) (st (upM (upM μ 186 (μ 185 1) c) 185 1 (μ 185 1 + 1)))
  refine r_aloadn dd_Txt_append_0 rfl ?_
  refine r_getI dd_Txt_append_1 fl_Txt_22 (kI := 1) rfl fi_Txt_1 vk_185 ?_
  refine r_if_lt dd_Txt_append_4 (fun c_4 => ?_) (fun c_4 => ?_)
  · exfalso; omega
  · refine r_aloadn dd_Txt_append_7 rfl ?_
    refine r_getI dd_Txt_append_8 fl_Txt_22 (kI := 1) rfl fi_Txt_1 vk_185 ?_
    refine r_bip dd_Txt_append_11 ⟨by decide, by decide⟩ ?_
    refine r_icmp_lt dd_Txt_append_13 (fun c_13 => ?_) (fun c_13 => ?_)
    · refine r_aloadn dd_Txt_append_19 rfl ?_
      refine r_getR dd_Txt_append_20 fl_Txt_9 (kI := 0) rfl fr_Txt_0 vk_185 R0_185_0 ?_
      refine r_aloadn dd_Txt_append_23 rfl ?_
      refine r_getI dd_Txt_append_24 fl_Txt_22 (kI := 1) rfl fi_Txt_1 vk_185 ?_
      refine r_iloadn dd_Txt_append_27 rfl ?_
      refine r_cast dd_Txt_append_28 (q := 16) (by decide) vk_186 (by omega) (by show _ < ((60 : Nat) : Int); omega) ⟨by omega, by omega⟩ ?_
      refine r_aloadn dd_Txt_append_29 rfl ?_
      refine r_dup dd_Txt_append_30 ?_
      refine r_getI dd_Txt_append_31 fl_Txt_22 (kI := 1) rfl fi_Txt_1 vk_185 ?_
      rw [upM_ne (Or.inl (by decide))]
      refine r_iconst dd_Txt_append_34 ⟨by decide, by decide⟩ ?_
      refine r_iadd dd_Txt_append_35 ⟨by omega, by omega⟩ ?_
      refine r_putI dd_Txt_append_36 fl_Txt_22 (kI := 1) rfl fc_Txt_1 ff_Txt_1 (pi_Txt_1 _) vk_185 ?_
      refine r_aloadn dd_Txt_append_39 rfl ?_
      refine r_getI dd_Txt_append_40 fl_Txt_22 (kI := 1) rfl fi_Txt_1 vk_185 ?_
      exact r_retI dd_Txt_append_43 (by rw [upM_eq]) rfl
    · exfalso; omega
theorem c_Txt_drop {μ : Int → Int → Int}  : MetC mi_Txt_drop [vR 185] (st μ) (some (vI (μ 185 1))) (st (upM μ 185 1 0)) := by
  refine met_of ?_ (Nat.le_of_ble_eq_true rfl) (by decide) trivial (by decide) (Nat.le_of_ble_eq_true rfl)
  show SPW mi_Txt_drop 226 0 [some (vR 185), none] [] (st μ) (some (vI (μ 185 1))) (st (upM μ 185 1 0))
  refine r_aloadn dd_Txt_drop_0 rfl ?_
  refine r_getI dd_Txt_drop_1 fl_Txt_22 (kI := 1) rfl fi_Txt_1 vk_185 ?_
  refine r_istoren (L' := [_, _]) dd_Txt_drop_4 rfl rfl ?_
  refine r_aloadn dd_Txt_drop_5 rfl ?_
  refine r_iconst dd_Txt_drop_6 ⟨by decide, by decide⟩ ?_
  refine r_putI dd_Txt_drop_7 fl_Txt_22 (kI := 1) rfl fc_Txt_1 ff_Txt_1 (pi_Txt_1 _) vk_185 ?_
  refine r_iloadn dd_Txt_drop_10 rfl ?_
  exact r_retI dd_Txt_drop_11 (by first | rfl | omega | exact (b2_t (by first | assumption | omega)).symm | exact (b2_f (by first | assumption | omega)).symm) rfl
theorem c_Poo_type_e {μ : Int → Int → Int} {c : Int} (h : μ 185 1 = 60) : MetC mi_Poo_type [vR 0, vI c] (st μ) (some (vI (-3))) (st (μ)) := by
  refine met_of ?_ (Nat.le_of_ble_eq_true rfl) (by decide) trivial (by decide) (Nat.le_of_ble_eq_true rfl)
  show SPW mi_Poo_type 226 0 [some (vR 0), some (vI c)] [] (st μ) (some (vI (-3))) (st (μ))
  refine r_aloadn dd_Poo_type_0 rfl ?_
  refine r_getR dd_Poo_type_1 fl_Poo_32 (kI := 5) rfl fr_Poo_5 vk_0 R0_0_5 ?_
  refine r_iloadn dd_Poo_type_4 rfl ?_
  refine r_V1W dd_Poo_type_5 ml_Poo_86 ok_Txt_append vi_Txt_append vk_185 (by decide) (clS rfl (Nat.le_refl _) (rmOK_self _ _)) rfl (c_Txt_append_e h) ?_
  exact r_retI dd_Poo_type_8 (by first | rfl | omega | exact (b2_t (by first | assumption | omega)).symm | exact (b2_f (by first | assumption | omega)).symm) rfl
theorem c_Poo_type_o {μ : Int → Int → Int} {c : Int} (h : 0 ≤ μ 185 1 ∧ μ 185 1 < 60) (hc : 0 ≤ c ∧ c ≤ 65535) : MetC mi_Poo_type [vR 0, vI c] (st μ) (some (vI (μ 185 1 + 1))) (st (upM (upM μ 186 (μ 185 1) c) 185 1 (μ 185 1 + 1))) := by
  refine met_of ?_ (Nat.le_of_ble_eq_true rfl) (by decide) trivial (by decide) (Nat.le_of_ble_eq_true rfl)
  show SPW mi_Poo_type 226 0 [some (vR 0), some (vI c)] [] (st μ) (some (vI (μ 185 1 + 1))) (st (upM (upM μ 186 (μ 185 1) c) 185 1 (μ 185 1 + 1)))
  refine r_aloadn dd_Poo_type_0 rfl ?_
  refine r_getR dd_Poo_type_1 fl_Poo_32 (kI := 5) rfl fr_Poo_5 vk_0 R0_0_5 ?_
  refine r_iloadn dd_Poo_type_4 rfl ?_
  refine r_V1W dd_Poo_type_5 ml_Poo_86 ok_Txt_append vi_Txt_append vk_185 (by decide) (clS rfl (Nat.le_refl _) (rmOK_self _ _)) rfl (c_Txt_append_o h hc) ?_
  exact r_retI dd_Poo_type_8 (by first | rfl | omega | exact (b2_t (by first | assumption | omega)).symm | exact (b2_f (by first | assumption | omega)).symm) rfl
theorem c_Poo_clearText {μ : Int → Int → Int}  : MetC mi_Poo_clearText [vR 0] (st μ) (some (vI (μ 185 1))) (st (upM μ 185 1 0)) := by
  refine met_of ?_ (Nat.le_of_ble_eq_true rfl) (by decide) trivial (by decide) (Nat.le_of_ble_eq_true rfl)
  show SPW mi_Poo_clearText 226 0 [some (vR 0)] [] (st μ) (some (vI (μ 185 1))) (st (upM μ 185 1 0))
  refine r_aloadn dd_Poo_clearText_0 rfl ?_
  refine r_getR dd_Poo_clearText_1 fl_Poo_32 (kI := 5) rfl fr_Poo_5 vk_0 R0_0_5 ?_
  refine r_V0W dd_Poo_clearText_4 ml_Poo_90 ok_Txt_drop vi_Txt_drop vk_185 (by decide) (clS rfl (Nat.le_refl _) (rmOK_self _ _)) rfl c_Txt_drop ?_
  exact r_retI dd_Poo_clearText_7 (by first | rfl | omega | exact (b2_t (by first | assumption | omega)).symm | exact (b2_f (by first | assumption | omega)).symm) rfl
