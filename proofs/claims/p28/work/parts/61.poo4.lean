/-! the class: count, type, clearText -/
theorem c_Poo_count {μ : Int → Int → Int} {K : Int} {m : Int → Int} (hR : RI K μ m) {what : Int} : MetC mi_Poo_count [vR 0, vI what] (st μ) (some (vI (if what = 10 then μ 79 2 else if what = 11 then μ 185 1 else cntC m what))) (st (μ)) := by
  refine met_of ?_ (Nat.le_of_ble_eq_true rfl) (by decide) trivial (by decide) (Nat.le_of_ble_eq_true rfl)
  show SPW mi_Poo_count 219 0 [some (vR 0), some (vI what)] [] (st μ) (some (vI (if what = 10 then μ 79 2 else if what = 11 then μ 185 1 else cntC m what))) (st (μ))
  refine r_iloadn dd_Poo_count_0 rfl ?_
  by_cases s1_10 : what = 10
  · refine r_lookAt (tgt := 28) (off := 27) dd_Poo_count_1 s1_10 (by decide) (by decide) rfl ?_
    refine r_aloadn dd_Poo_count_28 rfl ?_
    refine r_getR dd_Poo_count_29 fl_Poo_25 (kI := 4) rfl fr_Poo_4 vk_0 R0_0_4 ?_
    refine r_V0W dd_Poo_count_32 ml_Poo_154 ok_His_length vi_His_length vk_79 (by decide) (clS rfl (Nat.le_refl _) (rmOK_self _ _)) rfl c_His_length ?_
    exact r_retI dd_Poo_count_35 (by (repeat (first | rw [if_pos (by omega)] | rw [if_neg (by omega)])); first | done | omega | (congr 1; omega) | exact (b2_t (by first | assumption | omega)).symm | exact (b2_f (by first | assumption | omega)).symm) rfl
  by_cases s1_11 : what = 11
  · refine r_lookAt (tgt := 36) (off := 35) dd_Poo_count_1 s1_11 (by decide) (by decide) rfl ?_
    refine r_aloadn dd_Poo_count_36 rfl ?_
    refine r_getR dd_Poo_count_37 fl_Poo_32 (kI := 5) rfl fr_Poo_5 vk_0 R0_0_5 ?_
    refine r_V0W dd_Poo_count_40 ml_Poo_157 ok_Txt_length vi_Txt_length vk_185 (by decide) (clS rfl (Nat.le_refl _) (rmOK_self _ _)) rfl c_Txt_length ?_
    exact r_retI dd_Poo_count_43 (by (repeat (first | rw [if_pos (by omega)] | rw [if_neg (by omega)])); first | done | omega | (congr 1; omega) | exact (b2_t (by first | assumption | omega)).symm | exact (b2_f (by first | assumption | omega)).symm) rfl
  refine r_look (tgt := 44) (off := 43) dd_Poo_count_1 (by decide) (by simp [Op.lookupswitch.offset, s1_10, Ne.symm s1_10, s1_11, Ne.symm s1_11]) rfl ?_
  refine r_aloadn dd_Poo_count_44 rfl ?_
  refine r_getR dd_Poo_count_45 fl_Poo_10 (kI := 0) rfl fr_Poo_0 vk_0 R0_0_0 ?_
  refine r_iloadn dd_Poo_count_48 rfl ?_
  refine r_V1W dd_Poo_count_49 ml_Poo_158 ok_Sta_tellCount vi_Sta_tellCount vk_1 (by decide) (clS rfl (Nat.le_refl _) (rmOK_self _ _)) rfl (c_Sta_tellCount hR) ?_
  exact r_retI dd_Poo_count_52 (by (repeat (first | rw [if_pos (by omega)] | rw [if_neg (by omega)])); first | done | omega | (congr 1; omega) | exact (b2_t (by first | assumption | omega)).symm | exact (b2_f (by first | assumption | omega)).symm) rfl