/-! the class: the public methods but the text's, given what the State's methods do -/
theorem RI.fr {K : Int} {μ μ' : Int → Int → Int} {m : Int → Int} (h : RI K μ m) (e : ∀ o k, 1 ≤ o → o < 27 → μ' o k = μ o k) : RI K μ' m := ⟨RS_fr h.1 (fun o k a b => e o k a (by omega)), h.2.1, h.2.2⟩
theorem RI.al {K : Int} {μ : Int → Int → Int} {m : Int → Int} (h : RI K μ m) : alS μ 1 := alS_of h.1 h.2.1

theorem c_Poo_touch_e {μ : Int → Int → Int} {b r : Int} {F : Int → Int → Int} (ha : alS μ 1) (hop : MetC mi_Sta_useNow [vR 1, vI b] (st (cS μ 27 1)) (some (vI r)) (st F)) (hr : r < 0) : MetC mi_Poo_touch [vR 0, vI b] (st μ) (some (vI r)) (st (F)) := by
  refine met_of ?_ (Nat.le_of_ble_eq_true rfl) (by decide) trivial (by decide) (Nat.le_of_ble_eq_true rfl)
  show SPW mi_Poo_touch 219 0 [some (vR 0), some (vI b)] [] (st μ) (some (vI r)) (st (F))
  refine r_aloadn dd_Poo_touch_0 rfl ?_
  refine r_getR dd_Poo_touch_1 fl_Poo_16 (kI := 1) rfl fr_Poo_1 vk_0 R0_0_1 ?_
  refine r_aloadn dd_Poo_touch_4 rfl ?_
  refine r_getR dd_Poo_touch_5 fl_Poo_10 (kI := 0) rfl fr_Poo_0 vk_0 R0_0_0 ?_
  refine r_V1N dd_Poo_touch_8 ml_Poo_40 ok_Sta_copyFrom vi_Sta_copyFrom vk_27 (by decide) (clS rfl (Nat.le_refl _) (rmOK_self _ _)) rfl (c_Sta_copyFrom stB_27 stB_1 (by omega) ha) ?_
  refine r_aloadn dd_Poo_touch_11 rfl ?_
  refine r_aloadn dd_Poo_touch_12 rfl ?_
  refine r_getR dd_Poo_touch_13 fl_Poo_10 (kI := 0) rfl fr_Poo_0 vk_0 R0_0_0 ?_
  refine r_iloadn dd_Poo_touch_16 rfl ?_
  refine r_V1W dd_Poo_touch_17 ml_Poo_66 ok_Sta_useNow vi_Sta_useNow vk_1 (by decide) (clS rfl (Nat.le_refl _) (rmOK_self _ _)) rfl hop ?_
  refine r_V1W dd_Poo_touch_20 ml_Poo_55 ok_Poo_recorded vi_Poo_recorded vk_0 (by decide) (clS rfl (Nat.le_refl _) (rmOK_self _ _)) rfl (c_Poo_recorded_e hr) ?_
  exact r_retI dd_Poo_touch_23 (by first | rfl | omega | exact (b2_t (by first | assumption | omega)).symm | exact (b2_f (by first | assumption | omega)).symm) rfl
theorem c_Poo_touch_o {μ : Int → Int → Int} {b r : Int} {F : Int → Int → Int} (ha : alS μ 1) (hop : MetC mi_Sta_useNow [vR 1, vI b] (st (cS μ 27 1)) (some (vI r)) (st F)) (hr : 0 ≤ r) (hn : 0 ≤ F 79 1 ∧ F 79 1 < 4) (hl : 0 ≤ F 79 2 ∧ F 79 2 ≤ 4) (hb : alS F 27) : MetC mi_Poo_touch [vR 0, vI b] (st μ) (some (vI r)) (st (recM F)) := by
  refine met_of ?_ (Nat.le_of_ble_eq_true rfl) (by decide) trivial (by decide) (Nat.le_of_ble_eq_true rfl)
  show SPW mi_Poo_touch 219 0 [some (vR 0), some (vI b)] [] (st μ) (some (vI r)) (st (recM F))
  refine r_aloadn dd_Poo_touch_0 rfl ?_
  refine r_getR dd_Poo_touch_1 fl_Poo_16 (kI := 1) rfl fr_Poo_1 vk_0 R0_0_1 ?_
  refine r_aloadn dd_Poo_touch_4 rfl ?_
  refine r_getR dd_Poo_touch_5 fl_Poo_10 (kI := 0) rfl fr_Poo_0 vk_0 R0_0_0 ?_
  refine r_V1N dd_Poo_touch_8 ml_Poo_40 ok_Sta_copyFrom vi_Sta_copyFrom vk_27 (by decide) (clS rfl (Nat.le_refl _) (rmOK_self _ _)) rfl (c_Sta_copyFrom stB_27 stB_1 (by omega) ha) ?_
  refine r_aloadn dd_Poo_touch_11 rfl ?_
  refine r_aloadn dd_Poo_touch_12 rfl ?_
  refine r_getR dd_Poo_touch_13 fl_Poo_10 (kI := 0) rfl fr_Poo_0 vk_0 R0_0_0 ?_
  refine r_iloadn dd_Poo_touch_16 rfl ?_
  refine r_V1W dd_Poo_touch_17 ml_Poo_66 ok_Sta_useNow vi_Sta_useNow vk_1 (by decide) (clS rfl (Nat.le_refl _) (rmOK_self _ _)) rfl hop ?_
  refine r_V1W dd_Poo_touch_20 ml_Poo_55 ok_Poo_recorded vi_Poo_recorded vk_0 (by decide) (clS rfl (Nat.le_refl _) (rmOK_self _ _)) rfl (c_Poo_recorded_o hr hn hl hb) ?_
  exact r_retI dd_Poo_touch_23 (by first | rfl | omega | exact (b2_t (by first | assumption | omega)).symm | exact (b2_f (by first | assumption | omega)).symm) rfl
theorem c_Poo_setLimit_e {μ : Int → Int → Int} {t v r : Int} {F : Int → Int → Int} (ha : alS μ 1) (hop : MetC mi_Sta_changeLimit [vR 1, vI t, vI v] (st (cS μ 27 1)) (some (vI r)) (st F)) (hr : r < 0) : MetC mi_Poo_setLimit [vR 0, vI t, vI v] (st μ) (some (vI r)) (st (F)) := by
  refine met_of ?_ (Nat.le_of_ble_eq_true rfl) (by decide) trivial (by decide) (Nat.le_of_ble_eq_true rfl)
  show SPW mi_Poo_setLimit 219 0 [some (vR 0), some (vI t), some (vI v)] [] (st μ) (some (vI r)) (st (F))
  refine r_aloadn dd_Poo_setLimit_0 rfl ?_
  refine r_getR dd_Poo_setLimit_1 fl_Poo_16 (kI := 1) rfl fr_Poo_1 vk_0 R0_0_1 ?_
  refine r_aloadn dd_Poo_setLimit_4 rfl ?_
  refine r_getR dd_Poo_setLimit_5 fl_Poo_10 (kI := 0) rfl fr_Poo_0 vk_0 R0_0_0 ?_
  refine r_V1N dd_Poo_setLimit_8 ml_Poo_40 ok_Sta_copyFrom vi_Sta_copyFrom vk_27 (by decide) (clS rfl (Nat.le_refl _) (rmOK_self _ _)) rfl (c_Sta_copyFrom stB_27 stB_1 (by omega) ha) ?_
  refine r_aloadn dd_Poo_setLimit_11 rfl ?_
  refine r_aloadn dd_Poo_setLimit_12 rfl ?_
  refine r_getR dd_Poo_setLimit_13 fl_Poo_10 (kI := 0) rfl fr_Poo_0 vk_0 R0_0_0 ?_
  refine r_iloadn dd_Poo_setLimit_16 rfl ?_
  refine r_iloadn dd_Poo_setLimit_17 rfl ?_
  refine r_V2W dd_Poo_setLimit_18 ml_Poo_73 ok_Sta_changeLimit vi_Sta_changeLimit vk_1 (by decide) (clS rfl (Nat.le_refl _) (rmOK_self _ _)) rfl hop ?_
  refine r_V1W dd_Poo_setLimit_21 ml_Poo_55 ok_Poo_recorded vi_Poo_recorded vk_0 (by decide) (clS rfl (Nat.le_refl _) (rmOK_self _ _)) rfl (c_Poo_recorded_e hr) ?_
  exact r_retI dd_Poo_setLimit_24 (by first | rfl | omega | exact (b2_t (by first | assumption | omega)).symm | exact (b2_f (by first | assumption | omega)).symm) rfl
theorem c_Poo_setLimit_o {μ : Int → Int → Int} {t v r : Int} {F : Int → Int → Int} (ha : alS μ 1) (hop : MetC mi_Sta_changeLimit [vR 1, vI t, vI v] (st (cS μ 27 1)) (some (vI r)) (st F)) (hr : 0 ≤ r) (hn : 0 ≤ F 79 1 ∧ F 79 1 < 4) (hl : 0 ≤ F 79 2 ∧ F 79 2 ≤ 4) (hb : alS F 27) : MetC mi_Poo_setLimit [vR 0, vI t, vI v] (st μ) (some (vI r)) (st (recM F)) := by
  refine met_of ?_ (Nat.le_of_ble_eq_true rfl) (by decide) trivial (by decide) (Nat.le_of_ble_eq_true rfl)
  show SPW mi_Poo_setLimit 219 0 [some (vR 0), some (vI t), some (vI v)] [] (st μ) (some (vI r)) (st (recM F))
  refine r_aloadn dd_Poo_setLimit_0 rfl ?_
  refine r_getR dd_Poo_setLimit_1 fl_Poo_16 (kI := 1) rfl fr_Poo_1 vk_0 R0_0_1 ?_
  refine r_aloadn dd_Poo_setLimit_4 rfl ?_
  refine r_getR dd_Poo_setLimit_5 fl_Poo_10 (kI := 0) rfl fr_Poo_0 vk_0 R0_0_0 ?_
  refine r_V1N dd_Poo_setLimit_8 ml_Poo_40 ok_Sta_copyFrom vi_Sta_copyFrom vk_27 (by decide) (clS rfl (Nat.le_refl _) (rmOK_self _ _)) rfl (c_Sta_copyFrom stB_27 stB_1 (by omega) ha) ?_
  refine r_aloadn dd_Poo_setLimit_11 rfl ?_
  refine r_aloadn dd_Poo_setLimit_12 rfl ?_
  refine r_getR dd_Poo_setLimit_13 fl_Poo_10 (kI := 0) rfl fr_Poo_0 vk_0 R0_0_0 ?_
  refine r_iloadn dd_Poo_setLimit_16 rfl ?_
  refine r_iloadn dd_Poo_setLimit_17 rfl ?_
  refine r_V2W dd_Poo_setLimit_18 ml_Poo_73 ok_Sta_changeLimit vi_Sta_changeLimit vk_1 (by decide) (clS rfl (Nat.le_refl _) (rmOK_self _ _)) rfl hop ?_
  refine r_V1W dd_Poo_setLimit_21 ml_Poo_55 ok_Poo_recorded vi_Poo_recorded vk_0 (by decide) (clS rfl (Nat.le_refl _) (rmOK_self _ _)) rfl (c_Poo_recorded_o hr hn hl hb) ?_
  exact r_retI dd_Poo_setLimit_24 (by first | rfl | omega | exact (b2_t (by first | assumption | omega)).symm | exact (b2_f (by first | assumption | omega)).symm) rfl
theorem c_Poo_setPatience_e {μ : Int → Int → Int} {t r : Int} {F : Int → Int → Int} (ha : alS μ 1) (hop : MetC mi_Sta_changePatience [vR 1, vI t] (st (cS μ 27 1)) (some (vI r)) (st F)) (hr : r < 0) : MetC mi_Poo_setPatience [vR 0, vI t] (st μ) (some (vI r)) (st (F)) := by
  refine met_of ?_ (Nat.le_of_ble_eq_true rfl) (by decide) trivial (by decide) (Nat.le_of_ble_eq_true rfl)
  show SPW mi_Poo_setPatience 219 0 [some (vR 0), some (vI t)] [] (st μ) (some (vI r)) (st (F))
  refine r_aloadn dd_Poo_setPatience_0 rfl ?_
  refine r_getR dd_Poo_setPatience_1 fl_Poo_16 (kI := 1) rfl fr_Poo_1 vk_0 R0_0_1 ?_
  refine r_aloadn dd_Poo_setPatience_4 rfl ?_
  refine r_getR dd_Poo_setPatience_5 fl_Poo_10 (kI := 0) rfl fr_Poo_0 vk_0 R0_0_0 ?_
  refine r_V1N dd_Poo_setPatience_8 ml_Poo_40 ok_Sta_copyFrom vi_Sta_copyFrom vk_27 (by decide) (clS rfl (Nat.le_refl _) (rmOK_self _ _)) rfl (c_Sta_copyFrom stB_27 stB_1 (by omega) ha) ?_
  refine r_aloadn dd_Poo_setPatience_11 rfl ?_
  refine r_aloadn dd_Poo_setPatience_12 rfl ?_
  refine r_getR dd_Poo_setPatience_13 fl_Poo_10 (kI := 0) rfl fr_Poo_0 vk_0 R0_0_0 ?_
  refine r_iloadn dd_Poo_setPatience_16 rfl ?_
  refine r_V1W dd_Poo_setPatience_17 ml_Poo_76 ok_Sta_changePatience vi_Sta_changePatience vk_1 (by decide) (clS rfl (Nat.le_refl _) (rmOK_self _ _)) rfl hop ?_
  refine r_V1W dd_Poo_setPatience_20 ml_Poo_55 ok_Poo_recorded vi_Poo_recorded vk_0 (by decide) (clS rfl (Nat.le_refl _) (rmOK_self _ _)) rfl (c_Poo_recorded_e hr) ?_
  exact r_retI dd_Poo_setPatience_23 (by first | rfl | omega | exact (b2_t (by first | assumption | omega)).symm | exact (b2_f (by first | assumption | omega)).symm) rfl
theorem c_Poo_setPatience_o {μ : Int → Int → Int} {t r : Int} {F : Int → Int → Int} (ha : alS μ 1) (hop : MetC mi_Sta_changePatience [vR 1, vI t] (st (cS μ 27 1)) (some (vI r)) (st F)) (hr : 0 ≤ r) (hn : 0 ≤ F 79 1 ∧ F 79 1 < 4) (hl : 0 ≤ F 79 2 ∧ F 79 2 ≤ 4) (hb : alS F 27) : MetC mi_Poo_setPatience [vR 0, vI t] (st μ) (some (vI r)) (st (recM F)) := by
  refine met_of ?_ (Nat.le_of_ble_eq_true rfl) (by decide) trivial (by decide) (Nat.le_of_ble_eq_true rfl)
  show SPW mi_Poo_setPatience 219 0 [some (vR 0), some (vI t)] [] (st μ) (some (vI r)) (st (recM F))
  refine r_aloadn dd_Poo_setPatience_0 rfl ?_
  refine r_getR dd_Poo_setPatience_1 fl_Poo_16 (kI := 1) rfl fr_Poo_1 vk_0 R0_0_1 ?_
  refine r_aloadn dd_Poo_setPatience_4 rfl ?_
  refine r_getR dd_Poo_setPatience_5 fl_Poo_10 (kI := 0) rfl fr_Poo_0 vk_0 R0_0_0 ?_
  refine r_V1N dd_Poo_setPatience_8 ml_Poo_40 ok_Sta_copyFrom vi_Sta_copyFrom vk_27 (by decide) (clS rfl (Nat.le_refl _) (rmOK_self _ _)) rfl (c_Sta_copyFrom stB_27 stB_1 (by omega) ha) ?_
  refine r_aloadn dd_Poo_setPatience_11 rfl ?_
  refine r_aloadn dd_Poo_setPatience_12 rfl ?_
  refine r_getR dd_Poo_setPatience_13 fl_Poo_10 (kI := 0) rfl fr_Poo_0 vk_0 R0_0_0 ?_
  refine r_iloadn dd_Poo_setPatience_16 rfl ?_
  refine r_V1W dd_Poo_setPatience_17 ml_Poo_76 ok_Sta_changePatience vi_Sta_changePatience vk_1 (by decide) (clS rfl (Nat.le_refl _) (rmOK_self _ _)) rfl hop ?_
  refine r_V1W dd_Poo_setPatience_20 ml_Poo_55 ok_Poo_recorded vi_Poo_recorded vk_0 (by decide) (clS rfl (Nat.le_refl _) (rmOK_self _ _)) rfl (c_Poo_recorded_o hr hn hl hb) ?_
  exact r_retI dd_Poo_setPatience_23 (by first | rfl | omega | exact (b2_t (by first | assumption | omega)).symm | exact (b2_f (by first | assumption | omega)).symm) rfl
theorem c_Poo_pass_e {μ : Int → Int → Int} {t r : Int} {F : Int → Int → Int} (ha : alS μ 1) (hop : MetC mi_Sta_advance [vR 1, vI t] (st (cS μ 27 1)) (some (vI r)) (st F)) (hr : r < 0) : MetC mi_Poo_pass [vR 0, vI t] (st μ) (some (vI r)) (st (F)) := by
  refine met_of ?_ (Nat.le_of_ble_eq_true rfl) (by decide) trivial (by decide) (Nat.le_of_ble_eq_true rfl)
  show SPW mi_Poo_pass 219 0 [some (vR 0), some (vI t)] [] (st μ) (some (vI r)) (st (F))
  refine r_aloadn dd_Poo_pass_0 rfl ?_
  refine r_getR dd_Poo_pass_1 fl_Poo_16 (kI := 1) rfl fr_Poo_1 vk_0 R0_0_1 ?_
  refine r_aloadn dd_Poo_pass_4 rfl ?_
  refine r_getR dd_Poo_pass_5 fl_Poo_10 (kI := 0) rfl fr_Poo_0 vk_0 R0_0_0 ?_
  refine r_V1N dd_Poo_pass_8 ml_Poo_40 ok_Sta_copyFrom vi_Sta_copyFrom vk_27 (by decide) (clS rfl (Nat.le_refl _) (rmOK_self _ _)) rfl (c_Sta_copyFrom stB_27 stB_1 (by omega) ha) ?_
  refine r_aloadn dd_Poo_pass_11 rfl ?_
  refine r_aloadn dd_Poo_pass_12 rfl ?_
  refine r_getR dd_Poo_pass_13 fl_Poo_10 (kI := 0) rfl fr_Poo_0 vk_0 R0_0_0 ?_
  refine r_iloadn dd_Poo_pass_16 rfl ?_
  refine r_V1W dd_Poo_pass_17 ml_Poo_79 ok_Sta_advance vi_Sta_advance vk_1 (by decide) (clS rfl (Nat.le_refl _) (rmOK_self _ _)) rfl hop ?_
  refine r_V1W dd_Poo_pass_20 ml_Poo_55 ok_Poo_recorded vi_Poo_recorded vk_0 (by decide) (clS rfl (Nat.le_refl _) (rmOK_self _ _)) rfl (c_Poo_recorded_e hr) ?_
  exact r_retI dd_Poo_pass_23 (by first | rfl | omega | exact (b2_t (by first | assumption | omega)).symm | exact (b2_f (by first | assumption | omega)).symm) rfl
theorem c_Poo_pass_o {μ : Int → Int → Int} {t r : Int} {F : Int → Int → Int} (ha : alS μ 1) (hop : MetC mi_Sta_advance [vR 1, vI t] (st (cS μ 27 1)) (some (vI r)) (st F)) (hr : 0 ≤ r) (hn : 0 ≤ F 79 1 ∧ F 79 1 < 4) (hl : 0 ≤ F 79 2 ∧ F 79 2 ≤ 4) (hb : alS F 27) : MetC mi_Poo_pass [vR 0, vI t] (st μ) (some (vI r)) (st (recM F)) := by
  refine met_of ?_ (Nat.le_of_ble_eq_true rfl) (by decide) trivial (by decide) (Nat.le_of_ble_eq_true rfl)
  show SPW mi_Poo_pass 219 0 [some (vR 0), some (vI t)] [] (st μ) (some (vI r)) (st (recM F))
  refine r_aloadn dd_Poo_pass_0 rfl ?_
  refine r_getR dd_Poo_pass_1 fl_Poo_16 (kI := 1) rfl fr_Poo_1 vk_0 R0_0_1 ?_
  refine r_aloadn dd_Poo_pass_4 rfl ?_
  refine r_getR dd_Poo_pass_5 fl_Poo_10 (kI := 0) rfl fr_Poo_0 vk_0 R0_0_0 ?_
  refine r_V1N dd_Poo_pass_8 ml_Poo_40 ok_Sta_copyFrom vi_Sta_copyFrom vk_27 (by decide) (clS rfl (Nat.le_refl _) (rmOK_self _ _)) rfl (c_Sta_copyFrom stB_27 stB_1 (by omega) ha) ?_
  refine r_aloadn dd_Poo_pass_11 rfl ?_
  refine r_aloadn dd_Poo_pass_12 rfl ?_
  refine r_getR dd_Poo_pass_13 fl_Poo_10 (kI := 0) rfl fr_Poo_0 vk_0 R0_0_0 ?_
  refine r_iloadn dd_Poo_pass_16 rfl ?_
  refine r_V1W dd_Poo_pass_17 ml_Poo_79 ok_Sta_advance vi_Sta_advance vk_1 (by decide) (clS rfl (Nat.le_refl _) (rmOK_self _ _)) rfl hop ?_
  refine r_V1W dd_Poo_pass_20 ml_Poo_55 ok_Poo_recorded vi_Poo_recorded vk_0 (by decide) (clS rfl (Nat.le_refl _) (rmOK_self _ _)) rfl (c_Poo_recorded_o hr hn hl hb) ?_
  exact r_retI dd_Poo_pass_23 (by first | rfl | omega | exact (b2_t (by first | assumption | omega)).symm | exact (b2_f (by first | assumption | omega)).symm) rfl
theorem c_Poo_live_e {μ : Int → Int → Int} {t a r : Int} {F : Int → Int → Int} (ha : alS μ 1) (hop : MetC mi_Sta_makeAlive [vR 1, vI t, vI a] (st (cS μ 27 1)) (some (vI r)) (st F)) (hr : r < 0) : MetC mi_Poo_live [vR 0, vI t, vI a] (st μ) (some (vI r)) (st (F)) := by
  refine met_of ?_ (Nat.le_of_ble_eq_true rfl) (by decide) trivial (by decide) (Nat.le_of_ble_eq_true rfl)
  show SPW mi_Poo_live 219 0 [some (vR 0), some (vI t), some (vI a)] [] (st μ) (some (vI r)) (st (F))
  refine r_aloadn dd_Poo_live_0 rfl ?_
  refine r_getR dd_Poo_live_1 fl_Poo_16 (kI := 1) rfl fr_Poo_1 vk_0 R0_0_1 ?_
  refine r_aloadn dd_Poo_live_4 rfl ?_
  refine r_getR dd_Poo_live_5 fl_Poo_10 (kI := 0) rfl fr_Poo_0 vk_0 R0_0_0 ?_
  refine r_V1N dd_Poo_live_8 ml_Poo_40 ok_Sta_copyFrom vi_Sta_copyFrom vk_27 (by decide) (clS rfl (Nat.le_refl _) (rmOK_self _ _)) rfl (c_Sta_copyFrom stB_27 stB_1 (by omega) ha) ?_
  refine r_aloadn dd_Poo_live_11 rfl ?_
  refine r_aloadn dd_Poo_live_12 rfl ?_
  refine r_getR dd_Poo_live_13 fl_Poo_10 (kI := 0) rfl fr_Poo_0 vk_0 R0_0_0 ?_
  refine r_iloadn dd_Poo_live_16 rfl ?_
  refine r_iloadn dd_Poo_live_17 rfl ?_
  refine r_V2W dd_Poo_live_18 ml_Poo_69 ok_Sta_makeAlive vi_Sta_makeAlive vk_1 (by decide) (clS rfl (Nat.le_refl _) (rmOK_self _ _)) rfl hop ?_
  refine r_V1W dd_Poo_live_21 ml_Poo_55 ok_Poo_recorded vi_Poo_recorded vk_0 (by decide) (clS rfl (Nat.le_refl _) (rmOK_self _ _)) rfl (c_Poo_recorded_e hr) ?_
  exact r_retI dd_Poo_live_24 (by first | rfl | omega | exact (b2_t (by first | assumption | omega)).symm | exact (b2_f (by first | assumption | omega)).symm) rfl
theorem c_Poo_live_o {μ : Int → Int → Int} {t a r : Int} {F : Int → Int → Int} (ha : alS μ 1) (hop : MetC mi_Sta_makeAlive [vR 1, vI t, vI a] (st (cS μ 27 1)) (some (vI r)) (st F)) (hr : 0 ≤ r) (hn : 0 ≤ F 79 1 ∧ F 79 1 < 4) (hl : 0 ≤ F 79 2 ∧ F 79 2 ≤ 4) (hb : alS F 27) : MetC mi_Poo_live [vR 0, vI t, vI a] (st μ) (some (vI r)) (st (recM F)) := by
  refine met_of ?_ (Nat.le_of_ble_eq_true rfl) (by decide) trivial (by decide) (Nat.le_of_ble_eq_true rfl)
  show SPW mi_Poo_live 219 0 [some (vR 0), some (vI t), some (vI a)] [] (st μ) (some (vI r)) (st (recM F))
  refine r_aloadn dd_Poo_live_0 rfl ?_
  refine r_getR dd_Poo_live_1 fl_Poo_16 (kI := 1) rfl fr_Poo_1 vk_0 R0_0_1 ?_
  refine r_aloadn dd_Poo_live_4 rfl ?_
  refine r_getR dd_Poo_live_5 fl_Poo_10 (kI := 0) rfl fr_Poo_0 vk_0 R0_0_0 ?_
  refine r_V1N dd_Poo_live_8 ml_Poo_40 ok_Sta_copyFrom vi_Sta_copyFrom vk_27 (by decide) (clS rfl (Nat.le_refl _) (rmOK_self _ _)) rfl (c_Sta_copyFrom stB_27 stB_1 (by omega) ha) ?_
  refine r_aloadn dd_Poo_live_11 rfl ?_
  refine r_aloadn dd_Poo_live_12 rfl ?_
  refine r_getR dd_Poo_live_13 fl_Poo_10 (kI := 0) rfl fr_Poo_0 vk_0 R0_0_0 ?_
  refine r_iloadn dd_Poo_live_16 rfl ?_
  refine r_iloadn dd_Poo_live_17 rfl ?_
  refine r_V2W dd_Poo_live_18 ml_Poo_69 ok_Sta_makeAlive vi_Sta_makeAlive vk_1 (by decide) (clS rfl (Nat.le_refl _) (rmOK_self _ _)) rfl hop ?_
  refine r_V1W dd_Poo_live_21 ml_Poo_55 ok_Poo_recorded vi_Poo_recorded vk_0 (by decide) (clS rfl (Nat.le_refl _) (rmOK_self _ _)) rfl (c_Poo_recorded_o hr hn hl hb) ?_
  exact r_retI dd_Poo_live_24 (by first | rfl | omega | exact (b2_t (by first | assumption | omega)).symm | exact (b2_f (by first | assumption | omega)).symm) rfl
theorem c_Poo_giveBack_e {μ : Int → Int → Int} {t b r : Int} {F : Int → Int → Int} (ha : alS μ 1) (hop : MetC mi_Sta_takeBack [vR 1, vI t, vI b] (st (cS μ 27 1)) (some (vI r)) (st F)) (hr : r < 0) : MetC mi_Poo_giveBack [vR 0, vI t, vI b] (st μ) (some (vI r)) (st (F)) := by
  refine met_of ?_ (Nat.le_of_ble_eq_true rfl) (by decide) trivial (by decide) (Nat.le_of_ble_eq_true rfl)
  show SPW mi_Poo_giveBack 219 0 [some (vR 0), some (vI t), some (vI b)] [] (st μ) (some (vI r)) (st (F))
  refine r_aloadn dd_Poo_giveBack_0 rfl ?_
  refine r_getR dd_Poo_giveBack_1 fl_Poo_16 (kI := 1) rfl fr_Poo_1 vk_0 R0_0_1 ?_
  refine r_aloadn dd_Poo_giveBack_4 rfl ?_
  refine r_getR dd_Poo_giveBack_5 fl_Poo_10 (kI := 0) rfl fr_Poo_0 vk_0 R0_0_0 ?_
  refine r_V1N dd_Poo_giveBack_8 ml_Poo_40 ok_Sta_copyFrom vi_Sta_copyFrom vk_27 (by decide) (clS rfl (Nat.le_refl _) (rmOK_self _ _)) rfl (c_Sta_copyFrom stB_27 stB_1 (by omega) ha) ?_
  refine r_aloadn dd_Poo_giveBack_11 rfl ?_
  refine r_aloadn dd_Poo_giveBack_12 rfl ?_
  refine r_getR dd_Poo_giveBack_13 fl_Poo_10 (kI := 0) rfl fr_Poo_0 vk_0 R0_0_0 ?_
  refine r_iloadn dd_Poo_giveBack_16 rfl ?_
  refine r_iloadn dd_Poo_giveBack_17 rfl ?_
  refine r_V2W dd_Poo_giveBack_18 ml_Poo_59 ok_Sta_takeBack vi_Sta_takeBack vk_1 (by decide) (clS rfl (Nat.le_refl _) (rmOK_self _ _)) rfl hop ?_
  refine r_V1W dd_Poo_giveBack_21 ml_Poo_55 ok_Poo_recorded vi_Poo_recorded vk_0 (by decide) (clS rfl (Nat.le_refl _) (rmOK_self _ _)) rfl (c_Poo_recorded_e hr) ?_
  exact r_retI dd_Poo_giveBack_24 (by first | rfl | omega | exact (b2_t (by first | assumption | omega)).symm | exact (b2_f (by first | assumption | omega)).symm) rfl
theorem c_Poo_giveBack_o {μ : Int → Int → Int} {t b r : Int} {F : Int → Int → Int} (ha : alS μ 1) (hop : MetC mi_Sta_takeBack [vR 1, vI t, vI b] (st (cS μ 27 1)) (some (vI r)) (st F)) (hr : 0 ≤ r) (hn : 0 ≤ F 79 1 ∧ F 79 1 < 4) (hl : 0 ≤ F 79 2 ∧ F 79 2 ≤ 4) (hb : alS F 27) : MetC mi_Poo_giveBack [vR 0, vI t, vI b] (st μ) (some (vI r)) (st (recM F)) := by
  refine met_of ?_ (Nat.le_of_ble_eq_true rfl) (by decide) trivial (by decide) (Nat.le_of_ble_eq_true rfl)
  show SPW mi_Poo_giveBack 219 0 [some (vR 0), some (vI t), some (vI b)] [] (st μ) (some (vI r)) (st (recM F))
  refine r_aloadn dd_Poo_giveBack_0 rfl ?_
  refine r_getR dd_Poo_giveBack_1 fl_Poo_16 (kI := 1) rfl fr_Poo_1 vk_0 R0_0_1 ?_
  refine r_aloadn dd_Poo_giveBack_4 rfl ?_
  refine r_getR dd_Poo_giveBack_5 fl_Poo_10 (kI := 0) rfl fr_Poo_0 vk_0 R0_0_0 ?_
  refine r_V1N dd_Poo_giveBack_8 ml_Poo_40 ok_Sta_copyFrom vi_Sta_copyFrom vk_27 (by decide) (clS rfl (Nat.le_refl _) (rmOK_self _ _)) rfl (c_Sta_copyFrom stB_27 stB_1 (by omega) ha) ?_
  refine r_aloadn dd_Poo_giveBack_11 rfl ?_
  refine r_aloadn dd_Poo_giveBack_12 rfl ?_
  refine r_getR dd_Poo_giveBack_13 fl_Poo_10 (kI := 0) rfl fr_Poo_0 vk_0 R0_0_0 ?_
  refine r_iloadn dd_Poo_giveBack_16 rfl ?_
  refine r_iloadn dd_Poo_giveBack_17 rfl ?_
  refine r_V2W dd_Poo_giveBack_18 ml_Poo_59 ok_Sta_takeBack vi_Sta_takeBack vk_1 (by decide) (clS rfl (Nat.le_refl _) (rmOK_self _ _)) rfl hop ?_
  refine r_V1W dd_Poo_giveBack_21 ml_Poo_55 ok_Poo_recorded vi_Poo_recorded vk_0 (by decide) (clS rfl (Nat.le_refl _) (rmOK_self _ _)) rfl (c_Poo_recorded_o hr hn hl hb) ?_
  exact r_retI dd_Poo_giveBack_24 (by first | rfl | omega | exact (b2_t (by first | assumption | omega)).symm | exact (b2_f (by first | assumption | omega)).symm) rfl
theorem c_Poo_sweep_e {μ : Int → Int → Int} {r : Int} {F : Int → Int → Int} (ha : alS μ 1) (hop : MetC mi_Sta_takeLeaksBack [vR 1] (st (cS μ 27 1)) (some (vI r)) (st F)) (hr : r < 0) : MetC mi_Poo_sweep [vR 0] (st μ) (some (vI r)) (st (F)) := by
  refine met_of ?_ (Nat.le_of_ble_eq_true rfl) (by decide) trivial (by decide) (Nat.le_of_ble_eq_true rfl)
  show SPW mi_Poo_sweep 219 0 [some (vR 0)] [] (st μ) (some (vI r)) (st (F))
  refine r_aloadn dd_Poo_sweep_0 rfl ?_
  refine r_getR dd_Poo_sweep_1 fl_Poo_16 (kI := 1) rfl fr_Poo_1 vk_0 R0_0_1 ?_
  refine r_aloadn dd_Poo_sweep_4 rfl ?_
  refine r_getR dd_Poo_sweep_5 fl_Poo_10 (kI := 0) rfl fr_Poo_0 vk_0 R0_0_0 ?_
  refine r_V1N dd_Poo_sweep_8 ml_Poo_40 ok_Sta_copyFrom vi_Sta_copyFrom vk_27 (by decide) (clS rfl (Nat.le_refl _) (rmOK_self _ _)) rfl (c_Sta_copyFrom stB_27 stB_1 (by omega) ha) ?_
  refine r_aloadn dd_Poo_sweep_11 rfl ?_
  refine r_aloadn dd_Poo_sweep_12 rfl ?_
  refine r_getR dd_Poo_sweep_13 fl_Poo_10 (kI := 0) rfl fr_Poo_0 vk_0 R0_0_0 ?_
  refine r_V0W dd_Poo_sweep_16 ml_Poo_82 ok_Sta_takeLeaksBack vi_Sta_takeLeaksBack vk_1 (by decide) (clS rfl (Nat.le_refl _) (rmOK_self _ _)) rfl hop ?_
  refine r_V1W dd_Poo_sweep_19 ml_Poo_55 ok_Poo_recorded vi_Poo_recorded vk_0 (by decide) (clS rfl (Nat.le_refl _) (rmOK_self _ _)) rfl (c_Poo_recorded_e hr) ?_
  exact r_retI dd_Poo_sweep_22 (by first | rfl | omega | exact (b2_t (by first | assumption | omega)).symm | exact (b2_f (by first | assumption | omega)).symm) rfl
theorem c_Poo_sweep_o {μ : Int → Int → Int} {r : Int} {F : Int → Int → Int} (ha : alS μ 1) (hop : MetC mi_Sta_takeLeaksBack [vR 1] (st (cS μ 27 1)) (some (vI r)) (st F)) (hr : 0 ≤ r) (hn : 0 ≤ F 79 1 ∧ F 79 1 < 4) (hl : 0 ≤ F 79 2 ∧ F 79 2 ≤ 4) (hb : alS F 27) : MetC mi_Poo_sweep [vR 0] (st μ) (some (vI r)) (st (recM F)) := by
  refine met_of ?_ (Nat.le_of_ble_eq_true rfl) (by decide) trivial (by decide) (Nat.le_of_ble_eq_true rfl)
  show SPW mi_Poo_sweep 219 0 [some (vR 0)] [] (st μ) (some (vI r)) (st (recM F))
  refine r_aloadn dd_Poo_sweep_0 rfl ?_
  refine r_getR dd_Poo_sweep_1 fl_Poo_16 (kI := 1) rfl fr_Poo_1 vk_0 R0_0_1 ?_
  refine r_aloadn dd_Poo_sweep_4 rfl ?_
  refine r_getR dd_Poo_sweep_5 fl_Poo_10 (kI := 0) rfl fr_Poo_0 vk_0 R0_0_0 ?_
  refine r_V1N dd_Poo_sweep_8 ml_Poo_40 ok_Sta_copyFrom vi_Sta_copyFrom vk_27 (by decide) (clS rfl (Nat.le_refl _) (rmOK_self _ _)) rfl (c_Sta_copyFrom stB_27 stB_1 (by omega) ha) ?_
  refine r_aloadn dd_Poo_sweep_11 rfl ?_
  refine r_aloadn dd_Poo_sweep_12 rfl ?_
  refine r_getR dd_Poo_sweep_13 fl_Poo_10 (kI := 0) rfl fr_Poo_0 vk_0 R0_0_0 ?_
  refine r_V0W dd_Poo_sweep_16 ml_Poo_82 ok_Sta_takeLeaksBack vi_Sta_takeLeaksBack vk_1 (by decide) (clS rfl (Nat.le_refl _) (rmOK_self _ _)) rfl hop ?_
  refine r_V1W dd_Poo_sweep_19 ml_Poo_55 ok_Poo_recorded vi_Poo_recorded vk_0 (by decide) (clS rfl (Nat.le_refl _) (rmOK_self _ _)) rfl (c_Poo_recorded_o hr hn hl hb) ?_
  exact r_retI dd_Poo_sweep_22 (by first | rfl | omega | exact (b2_t (by first | assumption | omega)).symm | exact (b2_f (by first | assumption | omega)).symm) rfl
theorem c_Poo_write_e {μ : Int → Int → Int} {t b i v r : Int} {F : Int → Int → Int} (ha : alS μ 1) (hop : MetC mi_Sta_put [vR 1, vI t, vI b, vI i, vI v] (st (cS μ 27 1)) (some (vI r)) (st F)) (hr : r < 0) : MetC mi_Poo_write [vR 0, vI t, vI b, vI i, vI v] (st μ) (some (vI r)) (st (F)) := by
  refine met_of ?_ (Nat.le_of_ble_eq_true rfl) (by decide) trivial (by decide) (Nat.le_of_ble_eq_true rfl)
  show SPW mi_Poo_write 219 0 [some (vR 0), some (vI t), some (vI b), some (vI i), some (vI v)] [] (st μ) (some (vI r)) (st (F))
  refine r_aloadn dd_Poo_write_0 rfl ?_
  refine r_getR dd_Poo_write_1 fl_Poo_16 (kI := 1) rfl fr_Poo_1 vk_0 R0_0_1 ?_
  refine r_aloadn dd_Poo_write_4 rfl ?_
  refine r_getR dd_Poo_write_5 fl_Poo_10 (kI := 0) rfl fr_Poo_0 vk_0 R0_0_0 ?_
  refine r_V1N dd_Poo_write_8 ml_Poo_40 ok_Sta_copyFrom vi_Sta_copyFrom vk_27 (by decide) (clS rfl (Nat.le_refl _) (rmOK_self _ _)) rfl (c_Sta_copyFrom stB_27 stB_1 (by omega) ha) ?_
  refine r_aloadn dd_Poo_write_11 rfl ?_
  refine r_aloadn dd_Poo_write_12 rfl ?_
  refine r_getR dd_Poo_write_13 fl_Poo_10 (kI := 0) rfl fr_Poo_0 vk_0 R0_0_0 ?_
  refine r_iloadn dd_Poo_write_16 rfl ?_
  refine r_iloadn dd_Poo_write_17 rfl ?_
  refine r_iloadn dd_Poo_write_18 rfl ?_
  refine r_iload dd_Poo_write_19 rfl ?_
  refine r_V4W dd_Poo_write_21 ml_Poo_62 ok_Sta_put vi_Sta_put vk_1 (by decide) (clS rfl (Nat.le_refl _) (rmOK_self _ _)) rfl hop ?_
  refine r_V1W dd_Poo_write_24 ml_Poo_55 ok_Poo_recorded vi_Poo_recorded vk_0 (by decide) (clS rfl (Nat.le_refl _) (rmOK_self _ _)) rfl (c_Poo_recorded_e hr) ?_
  exact r_retI dd_Poo_write_27 (by first | rfl | omega | exact (b2_t (by first | assumption | omega)).symm | exact (b2_f (by first | assumption | omega)).symm) rfl
theorem c_Poo_write_o {μ : Int → Int → Int} {t b i v r : Int} {F : Int → Int → Int} (ha : alS μ 1) (hop : MetC mi_Sta_put [vR 1, vI t, vI b, vI i, vI v] (st (cS μ 27 1)) (some (vI r)) (st F)) (hr : 0 ≤ r) (hn : 0 ≤ F 79 1 ∧ F 79 1 < 4) (hl : 0 ≤ F 79 2 ∧ F 79 2 ≤ 4) (hb : alS F 27) : MetC mi_Poo_write [vR 0, vI t, vI b, vI i, vI v] (st μ) (some (vI r)) (st (recM F)) := by
  refine met_of ?_ (Nat.le_of_ble_eq_true rfl) (by decide) trivial (by decide) (Nat.le_of_ble_eq_true rfl)
  show SPW mi_Poo_write 219 0 [some (vR 0), some (vI t), some (vI b), some (vI i), some (vI v)] [] (st μ) (some (vI r)) (st (recM F))
  refine r_aloadn dd_Poo_write_0 rfl ?_
  refine r_getR dd_Poo_write_1 fl_Poo_16 (kI := 1) rfl fr_Poo_1 vk_0 R0_0_1 ?_
  refine r_aloadn dd_Poo_write_4 rfl ?_
  refine r_getR dd_Poo_write_5 fl_Poo_10 (kI := 0) rfl fr_Poo_0 vk_0 R0_0_0 ?_
  refine r_V1N dd_Poo_write_8 ml_Poo_40 ok_Sta_copyFrom vi_Sta_copyFrom vk_27 (by decide) (clS rfl (Nat.le_refl _) (rmOK_self _ _)) rfl (c_Sta_copyFrom stB_27 stB_1 (by omega) ha) ?_
  refine r_aloadn dd_Poo_write_11 rfl ?_
  refine r_aloadn dd_Poo_write_12 rfl ?_
  refine r_getR dd_Poo_write_13 fl_Poo_10 (kI := 0) rfl fr_Poo_0 vk_0 R0_0_0 ?_
  refine r_iloadn dd_Poo_write_16 rfl ?_
  refine r_iloadn dd_Poo_write_17 rfl ?_
  refine r_iloadn dd_Poo_write_18 rfl ?_
  refine r_iload dd_Poo_write_19 rfl ?_
  refine r_V4W dd_Poo_write_21 ml_Poo_62 ok_Sta_put vi_Sta_put vk_1 (by decide) (clS rfl (Nat.le_refl _) (rmOK_self _ _)) rfl hop ?_
  refine r_V1W dd_Poo_write_24 ml_Poo_55 ok_Poo_recorded vi_Poo_recorded vk_0 (by decide) (clS rfl (Nat.le_refl _) (rmOK_self _ _)) rfl (c_Poo_recorded_o hr hn hl hb) ?_
  exact r_retI dd_Poo_write_27 (by first | rfl | omega | exact (b2_t (by first | assumption | omega)).symm | exact (b2_f (by first | assumption | omega)).symm) rfl
theorem c_Poo_countRefusal {μ : Int → Int → Int} {w : Int} (h : 1 ≤ w ∧ w ≤ 3) (hc : 0 ≤ μ 218 (w - 1) ∧ μ 218 (w - 1) ≤ 2000000000) : MetC mi_Poo_countRefusal [vR 0, vI w] (st μ) (none) (st (upM μ 218 (w - 1) (μ 218 (w - 1) + 1))) := by
  refine met_of ?_ (Nat.le_of_ble_eq_true rfl) (by decide) trivial (by decide) (Nat.le_of_ble_eq_true rfl)
  show SPW mi_Poo_countRefusal 219 0 [some (vR 0), some (vI w)] [] (st μ) (none) (st (upM μ 218 (w - 1) (μ 218 (w - 1) + 1)))
  refine r_iloadn dd_Poo_countRefusal_0 rfl ?_
  refine r_iconst dd_Poo_countRefusal_1 ⟨by decide, by decide⟩ ?_
  refine r_icmp_lt dd_Poo_countRefusal_2 (fun c_2 => ?_) (fun c_2 => ?_)
  · exfalso; omega
  · refine r_iloadn dd_Poo_countRefusal_5 rfl ?_
    refine r_iconst dd_Poo_countRefusal_6 ⟨by decide, by decide⟩ ?_
    refine r_icmp_gt dd_Poo_countRefusal_7 (fun c_7 => ?_) (fun c_7 => ?_)
    · exfalso; omega
    · refine r_aloadn dd_Poo_countRefusal_10 rfl ?_
      refine r_getR dd_Poo_countRefusal_11 fl_Poo_36 (kI := 6) rfl fr_Poo_6 vk_0 R0_0_6 ?_
      refine r_iloadn dd_Poo_countRefusal_14 rfl ?_
      refine r_iconst dd_Poo_countRefusal_15 ⟨by decide, by decide⟩ ?_
      refine r_isub dd_Poo_countRefusal_16 ⟨by omega, by omega⟩ ?_
      refine r_dup2 dd_Poo_countRefusal_17 ?_
      refine r_iald dd_Poo_countRefusal_18 (q := 11) (by decide) vk_218 (by omega) (by show _ < ((3 : Nat) : Int); omega) ?_
      refine r_iconst dd_Poo_countRefusal_19 ⟨by decide, by decide⟩ ?_
      refine r_iadd dd_Poo_countRefusal_20 ⟨by omega, by omega⟩ ?_
      refine r_iast dd_Poo_countRefusal_21 (q := 11) (by decide) vk_218 (by omega) (by show _ < ((3 : Nat) : Int); omega) ?_
      exact r_retV dd_Poo_countRefusal_22 rfl
theorem c_Poo_ask_e {μ : Int → Int → Int} {t w r : Int} {F : Int → Int → Int} (ha : alS μ 1) (hop : MetC mi_Sta_grant [vR 1, vI t, vI w] (st (cS μ 27 1)) (some (vI r)) (st F)) (hr : r < 0) (h6 : r ≠ -6) : MetC mi_Poo_ask [vR 0, vI t, vI w] (st μ) (some (vI r)) (st (F)) := by
  refine met_of ?_ (Nat.le_of_ble_eq_true rfl) (by decide) trivial (by decide) (Nat.le_of_ble_eq_true rfl)
  show SPW mi_Poo_ask 219 0 [some (vR 0), some (vI t), some (vI w), none] [] (st μ) (some (vI r)) (st (F))
  refine r_aloadn dd_Poo_ask_0 rfl ?_
  refine r_getR dd_Poo_ask_1 fl_Poo_16 (kI := 1) rfl fr_Poo_1 vk_0 R0_0_1 ?_
  refine r_aloadn dd_Poo_ask_4 rfl ?_
  refine r_getR dd_Poo_ask_5 fl_Poo_10 (kI := 0) rfl fr_Poo_0 vk_0 R0_0_0 ?_
  refine r_V1N dd_Poo_ask_8 ml_Poo_40 ok_Sta_copyFrom vi_Sta_copyFrom vk_27 (by decide) (clS rfl (Nat.le_refl _) (rmOK_self _ _)) rfl (c_Sta_copyFrom stB_27 stB_1 (by omega) ha) ?_
  refine r_aloadn dd_Poo_ask_11 rfl ?_
  refine r_getR dd_Poo_ask_12 fl_Poo_10 (kI := 0) rfl fr_Poo_0 vk_0 R0_0_0 ?_
  refine r_iloadn dd_Poo_ask_15 rfl ?_
  refine r_iloadn dd_Poo_ask_16 rfl ?_
  refine r_V2W dd_Poo_ask_17 ml_Poo_44 ok_Sta_grant vi_Sta_grant vk_1 (by decide) (clS rfl (Nat.le_refl _) (rmOK_self _ _)) rfl hop ?_
  refine r_istoren (L' := [_, _, _, _]) dd_Poo_ask_20 rfl rfl ?_
  refine r_iloadn dd_Poo_ask_21 rfl ?_
  refine r_bip dd_Poo_ask_22 ⟨by decide, by decide⟩ ?_
  refine r_icmp_ne dd_Poo_ask_24 (fun c_24 => ?_) (fun c_24 => ?_)
  · refine r_aloadn dd_Poo_ask_40 rfl ?_
    refine r_iloadn dd_Poo_ask_41 rfl ?_
    refine r_V1W dd_Poo_ask_42 ml_Poo_55 ok_Poo_recorded vi_Poo_recorded vk_0 (by decide) (clS rfl (Nat.le_refl _) (rmOK_self _ _)) rfl (c_Poo_recorded_e hr) ?_
    exact r_retI dd_Poo_ask_45 (by first | rfl | omega | exact (b2_t (by first | assumption | omega)).symm | exact (b2_f (by first | assumption | omega)).symm) rfl
  · exfalso; omega
theorem c_Poo_ask_6 {μ : Int → Int → Int} {t w r : Int} {F : Int → Int → Int} (ha : alS μ 1) (hop : MetC mi_Sta_grant [vR 1, vI t, vI w] (st (cS μ 27 1)) (some (vI r)) (st F)) (h6 : r = -6) {y : Int} (hy : MetC mi_Sta_whyNot [vR 1, vI t, vI w] (st F) (some (vI y)) (st F)) (h1 : 1 ≤ y ∧ y ≤ 3) (hc : 0 ≤ F 218 (y - 1) ∧ F 218 (y - 1) ≤ 2000000000) : MetC mi_Poo_ask [vR 0, vI t, vI w] (st μ) (some (vI r)) (st (upM F 218 (y - 1) (F 218 (y - 1) + 1))) := by
  refine met_of ?_ (Nat.le_of_ble_eq_true rfl) (by decide) trivial (by decide) (Nat.le_of_ble_eq_true rfl)
  show SPW mi_Poo_ask 219 0 [some (vR 0), some (vI t), some (vI w), none] [] (st μ) (some (vI r)) (st (upM F 218 (y - 1) (F 218 (y - 1) + 1)))
  refine r_aloadn dd_Poo_ask_0 rfl ?_
  refine r_getR dd_Poo_ask_1 fl_Poo_16 (kI := 1) rfl fr_Poo_1 vk_0 R0_0_1 ?_
  refine r_aloadn dd_Poo_ask_4 rfl ?_
  refine r_getR dd_Poo_ask_5 fl_Poo_10 (kI := 0) rfl fr_Poo_0 vk_0 R0_0_0 ?_
  refine r_V1N dd_Poo_ask_8 ml_Poo_40 ok_Sta_copyFrom vi_Sta_copyFrom vk_27 (by decide) (clS rfl (Nat.le_refl _) (rmOK_self _ _)) rfl (c_Sta_copyFrom stB_27 stB_1 (by omega) ha) ?_
  refine r_aloadn dd_Poo_ask_11 rfl ?_
  refine r_getR dd_Poo_ask_12 fl_Poo_10 (kI := 0) rfl fr_Poo_0 vk_0 R0_0_0 ?_
  refine r_iloadn dd_Poo_ask_15 rfl ?_
  refine r_iloadn dd_Poo_ask_16 rfl ?_
  refine r_V2W dd_Poo_ask_17 ml_Poo_44 ok_Sta_grant vi_Sta_grant vk_1 (by decide) (clS rfl (Nat.le_refl _) (rmOK_self _ _)) rfl hop ?_
  refine r_istoren (L' := [_, _, _, _]) dd_Poo_ask_20 rfl rfl ?_
  refine r_iloadn dd_Poo_ask_21 rfl ?_
  refine r_bip dd_Poo_ask_22 ⟨by decide, by decide⟩ ?_
  refine r_icmp_ne dd_Poo_ask_24 (fun c_24 => ?_) (fun c_24 => ?_)
  · exfalso; omega
  · refine r_aloadn dd_Poo_ask_27 rfl ?_
    refine r_aloadn dd_Poo_ask_28 rfl ?_
    refine r_getR dd_Poo_ask_29 fl_Poo_10 (kI := 0) rfl fr_Poo_0 vk_0 R0_0_0 ?_
    refine r_iloadn dd_Poo_ask_32 rfl ?_
    refine r_iloadn dd_Poo_ask_33 rfl ?_
    refine r_V2W dd_Poo_ask_34 ml_Poo_48 ok_Sta_whyNot vi_Sta_whyNot vk_1 (by decide) (clS rfl (Nat.le_refl _) (rmOK_self _ _)) rfl hy ?_
    refine r_V1N dd_Poo_ask_37 ml_Poo_51 ok_Poo_countRefusal vi_Poo_countRefusal vk_0 (by decide) (clS rfl (Nat.le_refl _) (rmOK_self _ _)) rfl (c_Poo_countRefusal h1 hc) ?_
    refine r_aloadn dd_Poo_ask_40 rfl ?_
    refine r_iloadn dd_Poo_ask_41 rfl ?_
    refine r_V1W dd_Poo_ask_42 ml_Poo_55 ok_Poo_recorded vi_Poo_recorded vk_0 (by decide) (clS rfl (Nat.le_refl _) (rmOK_self _ _)) rfl (c_Poo_recorded_e (by omega)) ?_
    exact r_retI dd_Poo_ask_45 (by first | rfl | omega | exact (b2_t (by first | assumption | omega)).symm | exact (b2_f (by first | assumption | omega)).symm) rfl
theorem c_Poo_ask_o {μ : Int → Int → Int} {t w r : Int} {F : Int → Int → Int} (ha : alS μ 1) (hop : MetC mi_Sta_grant [vR 1, vI t, vI w] (st (cS μ 27 1)) (some (vI r)) (st F)) (hr : 0 ≤ r) (hn : 0 ≤ F 79 1 ∧ F 79 1 < 4) (hl : 0 ≤ F 79 2 ∧ F 79 2 ≤ 4) (hb : alS F 27) : MetC mi_Poo_ask [vR 0, vI t, vI w] (st μ) (some (vI r)) (st (recM F)) := by
  refine met_of ?_ (Nat.le_of_ble_eq_true rfl) (by decide) trivial (by decide) (Nat.le_of_ble_eq_true rfl)
  show SPW mi_Poo_ask 219 0 [some (vR 0), some (vI t), some (vI w), none] [] (st μ) (some (vI r)) (st (recM F))
  refine r_aloadn dd_Poo_ask_0 rfl ?_
  refine r_getR dd_Poo_ask_1 fl_Poo_16 (kI := 1) rfl fr_Poo_1 vk_0 R0_0_1 ?_
  refine r_aloadn dd_Poo_ask_4 rfl ?_
  refine r_getR dd_Poo_ask_5 fl_Poo_10 (kI := 0) rfl fr_Poo_0 vk_0 R0_0_0 ?_
  refine r_V1N dd_Poo_ask_8 ml_Poo_40 ok_Sta_copyFrom vi_Sta_copyFrom vk_27 (by decide) (clS rfl (Nat.le_refl _) (rmOK_self _ _)) rfl (c_Sta_copyFrom stB_27 stB_1 (by omega) ha) ?_
  refine r_aloadn dd_Poo_ask_11 rfl ?_
  refine r_getR dd_Poo_ask_12 fl_Poo_10 (kI := 0) rfl fr_Poo_0 vk_0 R0_0_0 ?_
  refine r_iloadn dd_Poo_ask_15 rfl ?_
  refine r_iloadn dd_Poo_ask_16 rfl ?_
  refine r_V2W dd_Poo_ask_17 ml_Poo_44 ok_Sta_grant vi_Sta_grant vk_1 (by decide) (clS rfl (Nat.le_refl _) (rmOK_self _ _)) rfl hop ?_
  refine r_istoren (L' := [_, _, _, _]) dd_Poo_ask_20 rfl rfl ?_
  refine r_iloadn dd_Poo_ask_21 rfl ?_
  refine r_bip dd_Poo_ask_22 ⟨by decide, by decide⟩ ?_
  refine r_icmp_ne dd_Poo_ask_24 (fun c_24 => ?_) (fun c_24 => ?_)
  · refine r_aloadn dd_Poo_ask_40 rfl ?_
    refine r_iloadn dd_Poo_ask_41 rfl ?_
    refine r_V1W dd_Poo_ask_42 ml_Poo_55 ok_Poo_recorded vi_Poo_recorded vk_0 (by decide) (clS rfl (Nat.le_refl _) (rmOK_self _ _)) rfl (c_Poo_recorded_o hr hn hl hb) ?_
    exact r_retI dd_Poo_ask_45 (by first | rfl | omega | exact (b2_t (by first | assumption | omega)).symm | exact (b2_f (by first | assumption | omega)).symm) rfl
  · exfalso; omega
theorem c_Poo_undo_e {μ : Int → Int → Int} (hn : 0 ≤ μ 79 1 ∧ μ 79 1 < 4) (hl : 0 ≤ μ 79 2 ∧ μ 79 2 ≤ 4) (h : μ 79 2 = 0) : MetC mi_Poo_undo [vR 0] (st μ) (some (vI (-5))) (st (μ)) := by
  refine met_of ?_ (Nat.le_of_ble_eq_true rfl) (by decide) trivial (by decide) (Nat.le_of_ble_eq_true rfl)
  show SPW mi_Poo_undo 219 0 [some (vR 0)] [] (st μ) (some (vI (-5))) (st (μ))
  refine r_aloadn dd_Poo_undo_0 rfl ?_
  refine r_getR dd_Poo_undo_1 fl_Poo_25 (kI := 4) rfl fr_Poo_4 vk_0 R0_0_4 ?_
  refine r_aloadn dd_Poo_undo_4 rfl ?_
  refine r_getR dd_Poo_undo_5 fl_Poo_10 (kI := 0) rfl fr_Poo_0 vk_0 R0_0_0 ?_
  refine r_V1W dd_Poo_undo_8 ml_Poo_126 ok_His_takeLatest vi_His_takeLatest vk_79 (by decide) (clS rfl (Nat.le_refl _) (rmOK_self _ _)) rfl (c_His_takeLatest_e hn hl h) ?_
  exact r_retI dd_Poo_undo_11 (by first | rfl | omega | exact (b2_t (by first | assumption | omega)).symm | exact (b2_f (by first | assumption | omega)).symm) rfl
theorem c_Poo_undo_o {μ : Int → Int → Int} (hn : 0 ≤ μ 79 1 ∧ μ 79 1 < 4) (hl : 0 ≤ μ 79 2 ∧ μ 79 2 ≤ 4) (h : μ 79 2 ≠ 0) (ha : alS μ (81 + 26 * tkP μ)) : MetC mi_Poo_undo [vR 0] (st μ) (some (vI (μ 79 2 - 1))) (st (tkM μ)) := by
  refine met_of ?_ (Nat.le_of_ble_eq_true rfl) (by decide) trivial (by decide) (Nat.le_of_ble_eq_true rfl)
  show SPW mi_Poo_undo 219 0 [some (vR 0)] [] (st μ) (some (vI (μ 79 2 - 1))) (st (tkM μ))
  refine r_aloadn dd_Poo_undo_0 rfl ?_
  refine r_getR dd_Poo_undo_1 fl_Poo_25 (kI := 4) rfl fr_Poo_4 vk_0 R0_0_4 ?_
  refine r_aloadn dd_Poo_undo_4 rfl ?_
  refine r_getR dd_Poo_undo_5 fl_Poo_10 (kI := 0) rfl fr_Poo_0 vk_0 R0_0_0 ?_
  refine r_V1W dd_Poo_undo_8 ml_Poo_126 ok_His_takeLatest vi_His_takeLatest vk_79 (by decide) (clS rfl (Nat.le_refl _) (rmOK_self _ _)) rfl (c_His_takeLatest_o hn hl h ha) ?_
  exact r_retI dd_Poo_undo_11 (by first | rfl | omega | exact (b2_t (by first | assumption | omega)).symm | exact (b2_f (by first | assumption | omega)).symm) rfl
theorem c_Poo_block {μ : Int → Int → Int} {K : Int} {m : Int → Int} (hR : RI K μ m) {b what : Int} : MetC mi_Poo_block [vR 0, vI b, vI what] (st μ) (some (vI (blockS m b what))) (st (μ)) := by
  refine met_of ?_ (Nat.le_of_ble_eq_true rfl) (by decide) trivial (by decide) (Nat.le_of_ble_eq_true rfl)
  show SPW mi_Poo_block 219 0 [some (vR 0), some (vI b), some (vI what)] [] (st μ) (some (vI (blockS m b what))) (st (μ))
  refine r_aloadn dd_Poo_block_0 rfl ?_
  refine r_getR dd_Poo_block_1 fl_Poo_10 (kI := 0) rfl fr_Poo_0 vk_0 R0_0_0 ?_
  refine r_iloadn dd_Poo_block_4 rfl ?_
  refine r_iloadn dd_Poo_block_5 rfl ?_
  refine r_V2W dd_Poo_block_6 ml_Poo_136 ok_Sta_tellBlock vi_Sta_tellBlock vk_1 (by decide) (clS rfl (Nat.le_refl _) (rmOK_self _ _)) rfl (c_Sta_tellBlock hR) ?_
  exact r_retI dd_Poo_block_9 (by first | rfl | omega | exact (b2_t (by first | assumption | omega)).symm | exact (b2_f (by first | assumption | omega)).symm) rfl
theorem c_Poo_word {μ : Int → Int → Int} {K : Int} {m : Int → Int} (hR : RI K μ m) {w what : Int} : MetC mi_Poo_word [vR 0, vI w, vI what] (st μ) (some (vI (wordS m w what))) (st (μ)) := by
  refine met_of ?_ (Nat.le_of_ble_eq_true rfl) (by decide) trivial (by decide) (Nat.le_of_ble_eq_true rfl)
  show SPW mi_Poo_word 219 0 [some (vR 0), some (vI w), some (vI what)] [] (st μ) (some (vI (wordS m w what))) (st (μ))
  refine r_aloadn dd_Poo_word_0 rfl ?_
  refine r_getR dd_Poo_word_1 fl_Poo_10 (kI := 0) rfl fr_Poo_0 vk_0 R0_0_0 ?_
  refine r_iloadn dd_Poo_word_4 rfl ?_
  refine r_iloadn dd_Poo_word_5 rfl ?_
  refine r_V2W dd_Poo_word_6 ml_Poo_139 ok_Sta_tellWord vi_Sta_tellWord vk_1 (by decide) (clS rfl (Nat.le_refl _) (rmOK_self _ _)) rfl (c_Sta_tellWord hR) ?_
  exact r_retI dd_Poo_word_9 (by first | rfl | omega | exact (b2_t (by first | assumption | omega)).symm | exact (b2_f (by first | assumption | omega)).symm) rfl
theorem c_Poo_task {μ : Int → Int → Int} {K : Int} {m : Int → Int} (hR : RI K μ m) {t what : Int} : MetC mi_Poo_task [vR 0, vI t, vI what] (st μ) (some (vI (taskS m t what))) (st (μ)) := by
  refine met_of ?_ (Nat.le_of_ble_eq_true rfl) (by decide) trivial (by decide) (Nat.le_of_ble_eq_true rfl)
  show SPW mi_Poo_task 219 0 [some (vR 0), some (vI t), some (vI what)] [] (st μ) (some (vI (taskS m t what))) (st (μ))
  refine r_aloadn dd_Poo_task_0 rfl ?_
  refine r_getR dd_Poo_task_1 fl_Poo_10 (kI := 0) rfl fr_Poo_0 vk_0 R0_0_0 ?_
  refine r_iloadn dd_Poo_task_4 rfl ?_
  refine r_iloadn dd_Poo_task_5 rfl ?_
  refine r_V2W dd_Poo_task_6 ml_Poo_142 ok_Sta_tellTask vi_Sta_tellTask vk_1 (by decide) (clS rfl (Nat.le_refl _) (rmOK_self _ _)) rfl (c_Sta_tellTask hR) ?_
  exact r_retI dd_Poo_task_9 (by first | rfl | omega | exact (b2_t (by first | assumption | omega)).symm | exact (b2_f (by first | assumption | omega)).symm) rfl
theorem c_Poo_size {μ : Int → Int → Int} {K : Int} {m : Int → Int} (hR : RI K μ m) {z what : Int} : MetC mi_Poo_size [vR 0, vI z, vI what] (st μ) (some (vI (sizeS m z what))) (st (μ)) := by
  refine met_of ?_ (Nat.le_of_ble_eq_true rfl) (by decide) trivial (by decide) (Nat.le_of_ble_eq_true rfl)
  show SPW mi_Poo_size 219 0 [some (vR 0), some (vI z), some (vI what)] [] (st μ) (some (vI (sizeS m z what))) (st (μ))
  refine r_aloadn dd_Poo_size_0 rfl ?_
  refine r_getR dd_Poo_size_1 fl_Poo_10 (kI := 0) rfl fr_Poo_0 vk_0 R0_0_0 ?_
  refine r_iloadn dd_Poo_size_4 rfl ?_
  refine r_iloadn dd_Poo_size_5 rfl ?_
  refine r_V2W dd_Poo_size_6 ml_Poo_151 ok_Sta_tellSize vi_Sta_tellSize vk_1 (by decide) (clS rfl (Nat.le_refl _) (rmOK_self _ _)) rfl (c_Sta_tellSize hR) ?_
  exact r_retI dd_Poo_size_9 (by first | rfl | omega | exact (b2_t (by first | assumption | omega)).symm | exact (b2_f (by first | assumption | omega)).symm) rfl
theorem c_Poo_reason {μ : Int → Int → Int} {K : Int} {m : Int → Int} (hR : RI K μ m) {t w : Int} : MetC mi_Poo_reason [vR 0, vI t, vI w] (st μ) (some (vI (reasS m t w))) (st (μ)) := by
  refine met_of ?_ (Nat.le_of_ble_eq_true rfl) (by decide) trivial (by decide) (Nat.le_of_ble_eq_true rfl)
  show SPW mi_Poo_reason 219 0 [some (vR 0), some (vI t), some (vI w)] [] (st μ) (some (vI (reasS m t w))) (st (μ))
  refine r_aloadn dd_Poo_reason_0 rfl ?_
  refine r_getR dd_Poo_reason_1 fl_Poo_10 (kI := 0) rfl fr_Poo_0 vk_0 R0_0_0 ?_
  refine r_iloadn dd_Poo_reason_4 rfl ?_
  refine r_iloadn dd_Poo_reason_5 rfl ?_
  refine r_V2W dd_Poo_reason_6 ml_Poo_48 ok_Sta_whyNot vi_Sta_whyNot vk_1 (by decide) (clS rfl (Nat.le_refl _) (rmOK_self _ _)) rfl (c_Sta_whyNot hR) ?_
  exact r_retI dd_Poo_reason_9 (by first | rfl | omega | exact (b2_t (by first | assumption | omega)).symm | exact (b2_f (by first | assumption | omega)).symm) rfl
theorem c_Poo_leak {μ : Int → Int → Int} {K : Int} {m : Int → Int} (hR : RI K μ m) {r : Int} : MetC mi_Poo_leak [vR 0, vI r] (st μ) (some (vI (leakS m r))) (st (μ)) := by
  refine met_of ?_ (Nat.le_of_ble_eq_true rfl) (by decide) trivial (by decide) (Nat.le_of_ble_eq_true rfl)
  show SPW mi_Poo_leak 219 0 [some (vR 0), some (vI r)] [] (st μ) (some (vI (leakS m r))) (st (μ))
  refine r_aloadn dd_Poo_leak_0 rfl ?_
  refine r_getR dd_Poo_leak_1 fl_Poo_10 (kI := 0) rfl fr_Poo_0 vk_0 R0_0_0 ?_
  refine r_iloadn dd_Poo_leak_4 rfl ?_
  refine r_V1W dd_Poo_leak_5 ml_Poo_148 ok_Sta_leakOfRank vi_Sta_leakOfRank vk_1 (by decide) (clS rfl (Nat.le_refl _) (rmOK_self _ _)) rfl (c_Sta_leakOfRank hR) ?_
  exact r_retI dd_Poo_leak_8 (by first | rfl | omega | exact (b2_t (by first | assumption | omega)).symm | exact (b2_f (by first | assumption | omega)).symm) rfl
theorem c_Poo_greatest {μ : Int → Int → Int} {K : Int} {m : Int → Int} (hR : RI K μ m) {t : Int} : MetC mi_Poo_greatest [vR 0, vI t] (st μ) (some (vI (greaS m t))) (st (μ)) := by
  refine met_of ?_ (Nat.le_of_ble_eq_true rfl) (by decide) trivial (by decide) (Nat.le_of_ble_eq_true rfl)
  show SPW mi_Poo_greatest 219 0 [some (vR 0), some (vI t)] [] (st μ) (some (vI (greaS m t))) (st (μ))
  refine r_aloadn dd_Poo_greatest_0 rfl ?_
  refine r_getR dd_Poo_greatest_1 fl_Poo_10 (kI := 0) rfl fr_Poo_0 vk_0 R0_0_0 ?_
  refine r_iloadn dd_Poo_greatest_4 rfl ?_
  refine r_V1W dd_Poo_greatest_5 ml_Poo_145 ok_Sta_greatestRequest vi_Sta_greatestRequest vk_1 (by decide) (clS rfl (Nat.le_refl _) (rmOK_self _ _)) rfl (c_Sta_greatestRequest hR) ?_
  exact r_retI dd_Poo_greatest_8 (by first | rfl | omega | exact (b2_t (by first | assumption | omega)).symm | exact (b2_f (by first | assumption | omega)).symm) rfl
theorem c_Poo_refused {μ : Int → Int → Int} {r : Int} : MetC mi_Poo_refused [vR 0, vI r] (st μ) (some (vI (if 1 ≤ r ∧ r ≤ 3 then μ 218 (r - 1) else -2))) (st (μ)) := by
  refine met_of ?_ (Nat.le_of_ble_eq_true rfl) (by decide) trivial (by decide) (Nat.le_of_ble_eq_true rfl)
  show SPW mi_Poo_refused 219 0 [some (vR 0), some (vI r)] [] (st μ) (some (vI (if 1 ≤ r ∧ r ≤ 3 then μ 218 (r - 1) else -2))) (st (μ))
  refine r_iloadn dd_Poo_refused_0 rfl ?_
  refine r_iconst dd_Poo_refused_1 ⟨by decide, by decide⟩ ?_
  refine r_icmp_lt dd_Poo_refused_2 (fun c_2 => ?_) (fun c_2 => ?_)
  · refine r_bip dd_Poo_refused_10 ⟨by decide, by decide⟩ ?_
    exact r_retI dd_Poo_refused_12 (by (repeat (first | rw [if_pos (by omega)] | rw [if_neg (by omega)])); first | done | omega | (congr 1; omega) | exact (b2_t (by first | assumption | omega)).symm | exact (b2_f (by first | assumption | omega)).symm) rfl
  · refine r_iloadn dd_Poo_refused_5 rfl ?_
    refine r_iconst dd_Poo_refused_6 ⟨by decide, by decide⟩ ?_
    refine r_icmp_le dd_Poo_refused_7 (fun c_7 => ?_) (fun c_7 => ?_)
    · refine r_aloadn dd_Poo_refused_13 rfl ?_
      refine r_getR dd_Poo_refused_14 fl_Poo_36 (kI := 6) rfl fr_Poo_6 vk_0 R0_0_6 ?_
      refine r_iloadn dd_Poo_refused_17 rfl ?_
      refine r_iconst dd_Poo_refused_18 ⟨by decide, by decide⟩ ?_
      refine r_isub dd_Poo_refused_19 ⟨by omega, by omega⟩ ?_
      refine r_iald dd_Poo_refused_20 (q := 11) (by decide) vk_218 (by omega) (by show _ < ((3 : Nat) : Int); omega) ?_
      exact r_retI dd_Poo_refused_21 (by (repeat (first | rw [if_pos (by omega)] | rw [if_neg (by omega)])); first | done | omega | (congr 1; omega) | exact (b2_t (by first | assumption | omega)).symm | exact (b2_f (by first | assumption | omega)).symm) rfl
    · refine r_bip dd_Poo_refused_10 ⟨by decide, by decide⟩ ?_
      exact r_retI dd_Poo_refused_12 (by (repeat (first | rw [if_pos (by omega)] | rw [if_neg (by omega)])); first | done | omega | (congr 1; omega) | exact (b2_t (by first | assumption | omega)).symm | exact (b2_f (by first | assumption | omega)).symm) rfl
theorem c_His_length {μ : Int → Int → Int}  : MetC mi_His_length [vR 79] (st μ) (some (vI (μ 79 2))) (st (μ)) := by
  refine met_of ?_ (Nat.le_of_ble_eq_true rfl) (by decide) trivial (by decide) (Nat.le_of_ble_eq_true rfl)
  show SPW mi_His_length 219 0 [some (vR 79)] [] (st μ) (some (vI (μ 79 2))) (st (μ))
  refine r_aloadn dd_His_length_0 rfl ?_
  refine r_getI dd_His_length_1 fl_His_18 (kI := 2) rfl fi_His_2 vk_79 ?_
  exact r_retI dd_His_length_4 (by first | rfl | omega | exact (b2_t (by first | assumption | omega)).symm | exact (b2_f (by first | assumption | omega)).symm) rfl
theorem c_Txt_length {μ : Int → Int → Int}  : MetC mi_Txt_length [vR 185] (st μ) (some (vI (μ 185 1))) (st (μ)) := by
  refine met_of ?_ (Nat.le_of_ble_eq_true rfl) (by decide) trivial (by decide) (Nat.le_of_ble_eq_true rfl)
  show SPW mi_Txt_length 219 0 [some (vR 185)] [] (st μ) (some (vI (μ 185 1))) (st (μ))
  refine r_aloadn dd_Txt_length_0 rfl ?_
  refine r_getI dd_Txt_length_1 fl_Txt_22 (kI := 1) rfl fi_Txt_1 vk_185 ?_
  exact r_retI dd_Txt_length_4 (by first | rfl | omega | exact (b2_t (by first | assumption | omega)).symm | exact (b2_f (by first | assumption | omega)).symm) rfl
