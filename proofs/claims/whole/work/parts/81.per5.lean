/-! perform: a text with a fault, on both sides -/
theorem gF_go {μ : Int → Int → Int} : upM (upM (upM μ 219 11 0) 219 12 0) 219 16 0 = gF (upM μ 219 16 0) 0 0 := by
  unfold gF
  rw [upM_cm (o := 219) (k := 11) (o' := 219) (k' := 12) (Or.inr (by decide)), upM_cm (o := 219) (k := 11) (o' := 219) (k' := 16) (Or.inr (by decide)), upM_cm (o := 219) (k := 12) (o' := 219) (k' := 16) (Or.inr (by decide))]
theorem c_Mod_go {μ : Int → Int → Int} {d r : Int} {F : Int → Int → Int} (kk : SPW mi_Mod_go 226 19 [some (vR 219), some (vI d), some (vI 0), some (vI 1), none] [] (st (gF (upM μ 219 16 0) 0 0)) (some (vI r)) (st F)) : MetC mi_Mod_go [vR 219, vI d] (st μ) (some (vI r)) (st (F)) := by
  refine met_of ?_ (Nat.le_of_ble_eq_true rfl) (by decide) trivial (by decide) (Nat.le_of_ble_eq_true rfl)
  show SPW mi_Mod_go 226 0 [some (vR 219), some (vI d), none, none, none] [] (st μ) (some (vI r)) (st (F))
  refine r_aloadn dd_Mod_go_0 rfl ?_
  refine r_iconst dd_Mod_go_1 ⟨by decide, by decide⟩ ?_
  refine r_putI dd_Mod_go_2 fl_Mod_121 (kI := 11) rfl fc_Mod_11 ff_Mod_11 (pi_Mod_11 _) vk_219 ?_
  refine r_aloadn dd_Mod_go_5 rfl ?_
  refine r_iconst dd_Mod_go_6 ⟨by decide, by decide⟩ ?_
  refine r_putI dd_Mod_go_7 fl_Mod_124 (kI := 12) rfl fc_Mod_12 ff_Mod_12 (pb_Mod_12 (by first | exact b2_01 | omega)) vk_219 ?_
  refine r_aloadn dd_Mod_go_10 rfl ?_
  refine r_iconst dd_Mod_go_11 ⟨by decide, by decide⟩ ?_
  refine r_putI dd_Mod_go_12 fl_Mod_143 (kI := 16) rfl fc_Mod_16 ff_Mod_16 (pi_Mod_16 _) vk_219 ?_
  refine r_iconst dd_Mod_go_15 ⟨by decide, by decide⟩ ?_
  refine r_istoren (L' := [_, _, _, _, _]) dd_Mod_go_16 rfl rfl ?_
  refine r_iconst dd_Mod_go_17 ⟨by decide, by decide⟩ ?_
  refine r_istoren (L' := [_, _, _, _, _]) dd_Mod_go_18 rfl rfl ?_
  rw [gF_go]
  exact kk
theorem c_Mod_perform_f {μ : Int → Int → Int} {k x : Int} {F : Int → Int → Int} (c1 : MetC mi_Mod_go [vR 219, vI 0] (st μ) (some (vI k)) (st F)) (hw : F 219 12 = 1) (hx : F 219 11 = x) (h0 : 0 ≤ x ∧ x ≤ 60) : MetC mi_Mod_perform [vR 219] (st μ) (some (vI (-100 - x))) (st (F)) := by
  refine met_of ?_ (Nat.le_of_ble_eq_true rfl) (by decide) trivial (by decide) (Nat.le_of_ble_eq_true rfl)
  show SPW mi_Mod_perform 226 0 [some (vR 219), none] [] (st μ) (some (vI (-100 - x))) (st (F))
  refine r_aloadn dd_Mod_perform_0 rfl ?_
  refine r_iconst dd_Mod_perform_1 ⟨by decide, by decide⟩ ?_
  refine r_V1W dd_Mod_perform_2 ml_Mod_152 ok_Mod_go vi_Mod_go vk_219 (by decide) (clS rfl (Nat.le_refl _) (rmOK_self _ _)) rfl c1 ?_
  refine r_istoren (L' := [_, _]) dd_Mod_perform_5 rfl rfl ?_
  refine r_aloadn dd_Mod_perform_6 rfl ?_
  refine r_getI dd_Mod_perform_7 fl_Mod_124 (kI := 12) rfl fi_Mod_12 vk_219 ?_
  rw [hw]
  refine r_if_eq dd_Mod_perform_10 (fun c_10 => ?_) (fun c_10 => ?_)
  · exfalso; omega
  · refine r_bip dd_Mod_perform_13 ⟨by decide, by decide⟩ ?_
    refine r_aloadn dd_Mod_perform_15 rfl ?_
    refine r_getI dd_Mod_perform_16 fl_Mod_121 (kI := 11) rfl fi_Mod_11 vk_219 ?_
    rw [hx]
    refine r_isub dd_Mod_perform_19 ⟨by omega, by omega⟩ ?_
    exact r_retI dd_Mod_perform_20 (by first | rfl | omega | exact (b2_t (by first | assumption | omega)).symm | exact (b2_f (by first | assumption | omega)).symm) rfl
theorem c_Poo_perform_f {μ : Int → Int → Int} {r : Int} {F : Int → Int → Int} (c1 : MetC mi_Txt_read [vR 185] (st μ) (some (vI r)) (st F)) (hr : r ≠ -1) (h0 : 0 ≤ r ∧ r ≤ 60) : MetC mi_Poo_perform [vR 0] (st μ) (some (vI (-100 - r))) (st (F)) := by
  refine met_of ?_ (Nat.le_of_ble_eq_true rfl) (by decide) trivial (by decide) (Nat.le_of_ble_eq_true rfl)
  show SPW mi_Poo_perform 226 0 [some (vR 0), none, none, none, none] [] (st μ) (some (vI (-100 - r))) (st (F))
  refine r_aloadn dd_Poo_perform_0 rfl ?_
  refine r_getR dd_Poo_perform_1 fl_Poo_32 (kI := 5) rfl fr_Poo_5 vk_0 R0_0_5 ?_
  refine r_V0W dd_Poo_perform_4 ml_Poo_93 ok_Txt_read vi_Txt_read vk_185 (by decide) (clS rfl (Nat.le_refl _) (rmOK_self _ _)) rfl c1 ?_
  refine r_istoren (L' := [_, _, _, _, _]) dd_Poo_perform_7 rfl rfl ?_
  refine r_iloadn dd_Poo_perform_8 rfl ?_
  refine r_iconst dd_Poo_perform_9 ⟨by decide, by decide⟩ ?_
  refine r_icmp_eq dd_Poo_perform_10 (fun c_10 => ?_) (fun c_10 => ?_)
  · exfalso; omega
  · refine r_bip dd_Poo_perform_13 ⟨by decide, by decide⟩ ?_
    refine r_iloadn dd_Poo_perform_15 rfl ?_
    refine r_isub dd_Poo_perform_16 ⟨by omega, by omega⟩ ?_
    exact r_retI dd_Poo_perform_17 (by first | rfl | omega | exact (b2_t (by first | assumption | omega)).symm | exact (b2_f (by first | assumption | omega)).symm) rfl
