/-! the class: time, limits, patience, life, use -/
theorem c_Sta_advance_e {μ : Int → Int → Int} {K : Int} {m : Int → Int} (hR : RI K μ m) {t : Int} (h : psFM m t < 0) : MetC mi_Sta_advance [vR 1, vI t] (st μ) (some (vI (psFM m t))) (st (μ)) := by
  refine met_of ?_ (Nat.le_of_ble_eq_true rfl) (by decide) trivial (by decide) (Nat.le_of_ble_eq_true rfl)
  show SPW mi_Sta_advance 219 0 [some (vR 1), some (vI t), none] [] (st μ) (some (vI (psFM m t))) (st (μ))
  have h3 : μ 1 3 = m 466 := hR.1.2.2.2.1
  have hc0 := hR.2.1.2.2.1
  have hl := lksM_bd m 6
  have hc := psFM_c m t
  refine r_iloadn dd_Sta_advance_0 rfl ?_
  refine r_iconst dd_Sta_advance_1 ⟨by decide, by decide⟩ ?_
  refine r_icmp_lt dd_Sta_advance_2 (fun c_2 => ?_) (fun c_2 => ?_)
  · refine r_bip dd_Sta_advance_12 ⟨by decide, by decide⟩ ?_
    exact r_retI dd_Sta_advance_14 (by unfold psFM; (repeat (first | rw [if_pos (by omega)] | rw [if_neg (by omega)])); first | done | omega | (congr 1; omega) | exact (b2_t (by first | assumption | omega)).symm | exact (b2_f (by first | assumption | omega)).symm) rfl
  · refine r_iloadn dd_Sta_advance_5 rfl ?_
    refine r_sip dd_Sta_advance_6 ⟨by decide, by decide⟩ ?_
    refine r_icmp_le dd_Sta_advance_9 (fun c_9 => ?_) (fun c_9 => ?_)
    · refine r_aloadn dd_Sta_advance_15 rfl ?_
      refine r_getI dd_Sta_advance_16 fl_Sta_48 (kI := 3) rfl fi_Sta_3 vk_1 ?_
      rw [h3]
      refine r_iloadn dd_Sta_advance_19 rfl ?_
      refine r_iadd dd_Sta_advance_20 ⟨by omega, by omega⟩ ?_
      refine r_sip dd_Sta_advance_21 ⟨by decide, by decide⟩ ?_
      refine r_icmp_le dd_Sta_advance_24 (fun c_24 => ?_) (fun c_24 => ?_)
      · exfalso; unfold psFM at h; rw [if_neg (by omega), if_neg (by omega)] at h; omega
      · refine r_bip dd_Sta_advance_27 ⟨by decide, by decide⟩ ?_
        exact r_retI dd_Sta_advance_29 (by unfold psFM; (repeat (first | rw [if_pos (by omega)] | rw [if_neg (by omega)])); first | done | omega | (congr 1; omega) | exact (b2_t (by first | assumption | omega)).symm | exact (b2_f (by first | assumption | omega)).symm) rfl
    · refine r_bip dd_Sta_advance_12 ⟨by decide, by decide⟩ ?_
      exact r_retI dd_Sta_advance_14 (by unfold psFM; (repeat (first | rw [if_pos (by omega)] | rw [if_neg (by omega)])); first | done | omega | (congr 1; omega) | exact (b2_t (by first | assumption | omega)).symm | exact (b2_f (by first | assumption | omega)).symm) rfl
theorem c_Sta_advance_o {μ : Int → Int → Int} {K : Int} {m : Int → Int} (hR : RI K μ m) {t : Int} (h : psFM m t = 0) : MetC mi_Sta_advance [vR 1, vI t] (st μ) (some (vI (lksM (psM m t) 6 - lksM m 6))) (st (upM μ 1 3 (m 466 + t))) := by
  refine met_of ?_ (Nat.le_of_ble_eq_true rfl) (by decide) trivial (by decide) (Nat.le_of_ble_eq_true rfl)
  show SPW mi_Sta_advance 219 0 [some (vR 1), some (vI t), none] [] (st μ) (some (vI (lksM (psM m t) 6 - lksM m 6))) (st (upM μ 1 3 (m 466 + t)))
  have h3 : μ 1 3 = m 466 := hR.1.2.2.2.1
  have hc0 := hR.2.1.2.2.1
  have hl := lksM_bd m 6
  have hc := psFM_c m t
  have hl2 := lksM_bd (psM m t) 6
  refine r_iloadn dd_Sta_advance_0 rfl ?_
  refine r_iconst dd_Sta_advance_1 ⟨by decide, by decide⟩ ?_
  refine r_icmp_lt dd_Sta_advance_2 (fun c_2 => ?_) (fun c_2 => ?_)
  · exfalso; omega
  · refine r_iloadn dd_Sta_advance_5 rfl ?_
    refine r_sip dd_Sta_advance_6 ⟨by decide, by decide⟩ ?_
    refine r_icmp_le dd_Sta_advance_9 (fun c_9 => ?_) (fun c_9 => ?_)
    · refine r_aloadn dd_Sta_advance_15 rfl ?_
      refine r_getI dd_Sta_advance_16 fl_Sta_48 (kI := 3) rfl fi_Sta_3 vk_1 ?_
      rw [h3]
      refine r_iloadn dd_Sta_advance_19 rfl ?_
      refine r_iadd dd_Sta_advance_20 ⟨by omega, by omega⟩ ?_
      refine r_sip dd_Sta_advance_21 ⟨by decide, by decide⟩ ?_
      refine r_icmp_le dd_Sta_advance_24 (fun c_24 => ?_) (fun c_24 => ?_)
      · refine r_aloadn dd_Sta_advance_30 rfl ?_
        refine r_V0W dd_Sta_advance_31 ml_Sta_130 ok_Sta_leaks vi_Sta_leaks vk_1 (by decide) (clS rfl (Nat.le_refl _) (rmOK_self _ _)) rfl (c_Sta_leaks hR) ?_
        refine r_istoren (L' := [_, _, _]) dd_Sta_advance_34 rfl rfl ?_
        refine r_aloadn dd_Sta_advance_35 rfl ?_
        refine r_dup dd_Sta_advance_36 ?_
        refine r_getI dd_Sta_advance_37 fl_Sta_48 (kI := 3) rfl fi_Sta_3 vk_1 ?_
        rw [h3]
        refine r_iloadn dd_Sta_advance_40 rfl ?_
        refine r_iadd dd_Sta_advance_41 ⟨by omega, by omega⟩ ?_
        refine r_putI dd_Sta_advance_42 fl_Sta_48 (kI := 3) rfl fc_Sta_3 ff_Sta_3 (pi_Sta_3 _) vk_1 ?_
        refine r_aloadn dd_Sta_advance_45 rfl ?_
        refine r_V0W dd_Sta_advance_46 ml_Sta_130 ok_Sta_leaks vi_Sta_leaks vk_1 (by decide) (clS rfl (Nat.le_refl _) (rmOK_self _ _)) rfl (c_Sta_leaks (m := psM m t) (RI_clock hR (v := m 466 + t) ⟨by omega, by omega⟩)) ?_
        refine r_iloadn dd_Sta_advance_49 rfl ?_
        refine r_isub dd_Sta_advance_50 ⟨by omega, by omega⟩ ?_
        exact r_retI dd_Sta_advance_51 (by first | rfl | omega | exact (b2_t (by first | assumption | omega)).symm | exact (b2_f (by first | assumption | omega)).symm) rfl
      · exfalso; omega
    · exfalso; omega
theorem c_Sta_changeLimit_e {μ : Int → Int → Int} {K : Int} {m : Int → Int} (hR : RI K μ m) {t v : Int} (h : (t < 0 ∨ 5 < t) ∨ v < 0 ∨ 64 < v ∨ m (454 + t) = v) : MetC mi_Sta_changeLimit [vR 1, vI t, vI v] (st μ) (some (vI (if t < 0 ∨ 5 < t then -1 else if v < 0 ∨ 64 < v then -2 else -5))) (st (μ)) := by
  refine met_of ?_ (Nat.le_of_ble_eq_true rfl) (by decide) trivial (by decide) (Nat.le_of_ble_eq_true rfl)
  show SPW mi_Sta_changeLimit 219 0 [some (vR 1), some (vI t), some (vI v), none, none] [] (st μ) (some (vI (if t < 0 ∨ 5 < t then -1 else if v < 0 ∨ 64 < v then -2 else -5))) (st (μ))
  rcases (show (t < 0 ∨ 6 ≤ t) ∨ (0 ≤ t ∧ t < 6) by omega) with h1 | h1
  · refine r_aloadn dd_Sta_changeLimit_0 rfl ?_
    refine r_iloadn dd_Sta_changeLimit_1 rfl ?_
    refine r_V1W dd_Sta_changeLimit_2 ml_Sta_90 ok_Sta_taskOf vi_Sta_taskOf vk_1 (by decide) (clS rfl (Nat.le_refl _) (rmOK_self _ _)) rfl (c_Sta_taskOf_n (by omega)) ?_
    refine r_astoren (L' := [_, _, _, _, _]) dd_Sta_changeLimit_5 rfl rfl ?_
    refine r_aloadn dd_Sta_changeLimit_6 rfl ?_
    refine r_ifnonnullN dd_Sta_changeLimit_7 ?_
    refine r_iconst dd_Sta_changeLimit_10 ⟨by decide, by decide⟩ ?_
    exact r_retI dd_Sta_changeLimit_11 (by (repeat (first | rw [if_pos (by omega)] | rw [if_neg (by omega)])); first | done | omega | (congr 1; omega) | exact (b2_t (by first | assumption | omega)).symm | exact (b2_f (by first | assumption | omega)).symm) rfl
  · have ht := (hR.tsk (t := t) (by omega) (by omega)).2.1
    refine r_aloadn dd_Sta_changeLimit_0 rfl ?_
    refine r_iloadn dd_Sta_changeLimit_1 rfl ?_
    refine r_V1W dd_Sta_changeLimit_2 ml_Sta_90 ok_Sta_taskOf vi_Sta_taskOf vk_1 (by decide) (clS rfl (Nat.le_refl _) (rmOK_self _ _)) rfl (c_Sta_taskOf_s (by omega)) ?_
    refine r_astoren (L' := [_, _, _, _, _]) dd_Sta_changeLimit_5 rfl rfl ?_
    refine r_aloadn dd_Sta_changeLimit_6 rfl ?_
    refine r_ifnonnullR dd_Sta_changeLimit_7 ?_
    refine r_iloadn dd_Sta_changeLimit_12 rfl ?_
    refine r_if_lt dd_Sta_changeLimit_13 (fun c_13 => ?_) (fun c_13 => ?_)
    · refine r_bip dd_Sta_changeLimit_22 ⟨by decide, by decide⟩ ?_
      exact r_retI dd_Sta_changeLimit_24 (by (repeat (first | rw [if_pos (by omega)] | rw [if_neg (by omega)])); first | done | omega | (congr 1; omega) | exact (b2_t (by first | assumption | omega)).symm | exact (b2_f (by first | assumption | omega)).symm) rfl
    · refine r_iloadn dd_Sta_changeLimit_16 rfl ?_
      refine r_bip dd_Sta_changeLimit_17 ⟨by decide, by decide⟩ ?_
      refine r_icmp_le dd_Sta_changeLimit_19 (fun c_19 => ?_) (fun c_19 => ?_)
      · refine r_aloadn dd_Sta_changeLimit_25 rfl ?_
        refine r_getI dd_Sta_changeLimit_26 fl_Sta_127 (kI := 1) rfl fi_Tsk_1 (vk_tsk (by omega) (by omega)) ?_
        rw [ht]
        refine r_iloadn dd_Sta_changeLimit_29 rfl ?_
        refine r_icmp_ne dd_Sta_changeLimit_30 (fun c_30 => ?_) (fun c_30 => ?_)
        · exfalso; omega
        · refine r_bip dd_Sta_changeLimit_33 ⟨by decide, by decide⟩ ?_
          exact r_retI dd_Sta_changeLimit_35 (by (repeat (first | rw [if_pos (by omega)] | rw [if_neg (by omega)])); first | done | omega | (congr 1; omega) | exact (b2_t (by first | assumption | omega)).symm | exact (b2_f (by first | assumption | omega)).symm) rfl
      · refine r_bip dd_Sta_changeLimit_22 ⟨by decide, by decide⟩ ?_
        exact r_retI dd_Sta_changeLimit_24 (by (repeat (first | rw [if_pos (by omega)] | rw [if_neg (by omega)])); first | done | omega | (congr 1; omega) | exact (b2_t (by first | assumption | omega)).symm | exact (b2_f (by first | assumption | omega)).symm) rfl
theorem c_Sta_changeLimit_o {μ : Int → Int → Int} {K : Int} {m : Int → Int} (hR : RI K μ m) {t v : Int} (h : 0 ≤ t ∧ t ≤ 5) (h1 : 0 ≤ v ∧ v ≤ 64) (h2 : m (454 + t) ≠ v) : MetC mi_Sta_changeLimit [vR 1, vI t, vI v] (st μ) (some (vI (m (454 + t)))) (st (upM μ (21 + t) 1 v)) := by
  refine met_of ?_ (Nat.le_of_ble_eq_true rfl) (by decide) trivial (by decide) (Nat.le_of_ble_eq_true rfl)
  show SPW mi_Sta_changeLimit 219 0 [some (vR 1), some (vI t), some (vI v), none, none] [] (st μ) (some (vI (m (454 + t)))) (st (upM μ (21 + t) 1 v))
  have ht := (hR.tsk (t := t) (by omega) (by omega)).2.1
  refine r_aloadn dd_Sta_changeLimit_0 rfl ?_
  refine r_iloadn dd_Sta_changeLimit_1 rfl ?_
  refine r_V1W dd_Sta_changeLimit_2 ml_Sta_90 ok_Sta_taskOf vi_Sta_taskOf vk_1 (by decide) (clS rfl (Nat.le_refl _) (rmOK_self _ _)) rfl (c_Sta_taskOf_s (by omega)) ?_
  refine r_astoren (L' := [_, _, _, _, _]) dd_Sta_changeLimit_5 rfl rfl ?_
  refine r_aloadn dd_Sta_changeLimit_6 rfl ?_
  refine r_ifnonnullR dd_Sta_changeLimit_7 ?_
  refine r_iloadn dd_Sta_changeLimit_12 rfl ?_
  refine r_if_lt dd_Sta_changeLimit_13 (fun c_13 => ?_) (fun c_13 => ?_)
  · exfalso; omega
  · refine r_iloadn dd_Sta_changeLimit_16 rfl ?_
    refine r_bip dd_Sta_changeLimit_17 ⟨by decide, by decide⟩ ?_
    refine r_icmp_le dd_Sta_changeLimit_19 (fun c_19 => ?_) (fun c_19 => ?_)
    · refine r_aloadn dd_Sta_changeLimit_25 rfl ?_
      refine r_getI dd_Sta_changeLimit_26 fl_Sta_127 (kI := 1) rfl fi_Tsk_1 (vk_tsk (by omega) (by omega)) ?_
      rw [ht]
      refine r_iloadn dd_Sta_changeLimit_29 rfl ?_
      refine r_icmp_ne dd_Sta_changeLimit_30 (fun c_30 => ?_) (fun c_30 => ?_)
      · refine r_aloadn dd_Sta_changeLimit_36 rfl ?_
        refine r_getI dd_Sta_changeLimit_37 fl_Sta_127 (kI := 1) rfl fi_Tsk_1 (vk_tsk (by omega) (by omega)) ?_
        rw [ht]
        refine r_istore (L' := [_, _, _, _, _]) dd_Sta_changeLimit_40 rfl rfl ?_
        refine r_aloadn dd_Sta_changeLimit_42 rfl ?_
        refine r_iloadn dd_Sta_changeLimit_43 rfl ?_
        refine r_putI dd_Sta_changeLimit_44 fl_Sta_127 (kI := 1) rfl fc_Tsk_1 ff_Tsk_1 (pi_Tsk_1 _) (vk_tsk (by omega) (by omega)) ?_
        refine r_iload dd_Sta_changeLimit_47 rfl ?_
        exact r_retI dd_Sta_changeLimit_49 (by first | rfl | omega | exact (b2_t (by first | assumption | omega)).symm | exact (b2_f (by first | assumption | omega)).symm) rfl
      · exfalso; omega
    · exfalso; omega
theorem c_Sta_changePatience_e {μ : Int → Int → Int} {K : Int} {m : Int → Int} (hR : RI K μ m) {t : Int} (h : t < 1 ∨ 500 < t) : MetC mi_Sta_changePatience [vR 1, vI t] (st μ) (some (vI (-2))) (st (μ)) := by
  refine met_of ?_ (Nat.le_of_ble_eq_true rfl) (by decide) trivial (by decide) (Nat.le_of_ble_eq_true rfl)
  show SPW mi_Sta_changePatience 219 0 [some (vR 1), some (vI t), none] [] (st μ) (some (vI (-2))) (st (μ))
  refine r_iloadn dd_Sta_changePatience_0 rfl ?_
  refine r_iconst dd_Sta_changePatience_1 ⟨by decide, by decide⟩ ?_
  refine r_icmp_lt dd_Sta_changePatience_2 (fun c_2 => ?_) (fun c_2 => ?_)
  · refine r_bip dd_Sta_changePatience_12 ⟨by decide, by decide⟩ ?_
    exact r_retI dd_Sta_changePatience_14 (by first | rfl | omega | exact (b2_t (by first | assumption | omega)).symm | exact (b2_f (by first | assumption | omega)).symm) rfl
  · refine r_iloadn dd_Sta_changePatience_5 rfl ?_
    refine r_sip dd_Sta_changePatience_6 ⟨by decide, by decide⟩ ?_
    refine r_icmp_le dd_Sta_changePatience_9 (fun c_9 => ?_) (fun c_9 => ?_)
    · exfalso; omega
    · refine r_bip dd_Sta_changePatience_12 ⟨by decide, by decide⟩ ?_
      exact r_retI dd_Sta_changePatience_14 (by first | rfl | omega | exact (b2_t (by first | assumption | omega)).symm | exact (b2_f (by first | assumption | omega)).symm) rfl
theorem c_Sta_changePatience_n {μ : Int → Int → Int} {K : Int} {m : Int → Int} (hR : RI K μ m) {t : Int} (h : 1 ≤ t ∧ t ≤ 500) (h2 : m 467 = t) : MetC mi_Sta_changePatience [vR 1, vI t] (st μ) (some (vI (-5))) (st (μ)) := by
  refine met_of ?_ (Nat.le_of_ble_eq_true rfl) (by decide) trivial (by decide) (Nat.le_of_ble_eq_true rfl)
  show SPW mi_Sta_changePatience 219 0 [some (vR 1), some (vI t), none] [] (st μ) (some (vI (-5))) (st (μ))
  have h4 : μ 1 4 = m 467 := hR.1.2.2.2.2.1
  refine r_iloadn dd_Sta_changePatience_0 rfl ?_
  refine r_iconst dd_Sta_changePatience_1 ⟨by decide, by decide⟩ ?_
  refine r_icmp_lt dd_Sta_changePatience_2 (fun c_2 => ?_) (fun c_2 => ?_)
  · exfalso; omega
  · refine r_iloadn dd_Sta_changePatience_5 rfl ?_
    refine r_sip dd_Sta_changePatience_6 ⟨by decide, by decide⟩ ?_
    refine r_icmp_le dd_Sta_changePatience_9 (fun c_9 => ?_) (fun c_9 => ?_)
    · refine r_aloadn dd_Sta_changePatience_15 rfl ?_
      refine r_getI dd_Sta_changePatience_16 fl_Sta_31 (kI := 4) rfl fi_Sta_4 vk_1 ?_
      rw [h4]
      refine r_iloadn dd_Sta_changePatience_19 rfl ?_
      refine r_icmp_ne dd_Sta_changePatience_20 (fun c_20 => ?_) (fun c_20 => ?_)
      · exfalso; omega
      · refine r_bip dd_Sta_changePatience_23 ⟨by decide, by decide⟩ ?_
        exact r_retI dd_Sta_changePatience_25 (by first | rfl | omega | exact (b2_t (by first | assumption | omega)).symm | exact (b2_f (by first | assumption | omega)).symm) rfl
    · exfalso; omega
theorem c_Sta_changePatience_o {μ : Int → Int → Int} {K : Int} {m : Int → Int} (hR : RI K μ m) {t : Int} (h : 1 ≤ t ∧ t ≤ 500) (h2 : m 467 ≠ t) : MetC mi_Sta_changePatience [vR 1, vI t] (st μ) (some (vI (m 467))) (st (upM μ 1 4 t)) := by
  refine met_of ?_ (Nat.le_of_ble_eq_true rfl) (by decide) trivial (by decide) (Nat.le_of_ble_eq_true rfl)
  show SPW mi_Sta_changePatience 219 0 [some (vR 1), some (vI t), none] [] (st μ) (some (vI (m 467))) (st (upM μ 1 4 t))
  have h4 : μ 1 4 = m 467 := hR.1.2.2.2.2.1
  refine r_iloadn dd_Sta_changePatience_0 rfl ?_
  refine r_iconst dd_Sta_changePatience_1 ⟨by decide, by decide⟩ ?_
  refine r_icmp_lt dd_Sta_changePatience_2 (fun c_2 => ?_) (fun c_2 => ?_)
  · exfalso; omega
  · refine r_iloadn dd_Sta_changePatience_5 rfl ?_
    refine r_sip dd_Sta_changePatience_6 ⟨by decide, by decide⟩ ?_
    refine r_icmp_le dd_Sta_changePatience_9 (fun c_9 => ?_) (fun c_9 => ?_)
    · refine r_aloadn dd_Sta_changePatience_15 rfl ?_
      refine r_getI dd_Sta_changePatience_16 fl_Sta_31 (kI := 4) rfl fi_Sta_4 vk_1 ?_
      rw [h4]
      refine r_iloadn dd_Sta_changePatience_19 rfl ?_
      refine r_icmp_ne dd_Sta_changePatience_20 (fun c_20 => ?_) (fun c_20 => ?_)
      · refine r_aloadn dd_Sta_changePatience_26 rfl ?_
        refine r_getI dd_Sta_changePatience_27 fl_Sta_31 (kI := 4) rfl fi_Sta_4 vk_1 ?_
        rw [h4]
        refine r_istoren (L' := [_, _, _]) dd_Sta_changePatience_30 rfl rfl ?_
        refine r_aloadn dd_Sta_changePatience_31 rfl ?_
        refine r_iloadn dd_Sta_changePatience_32 rfl ?_
        refine r_putI dd_Sta_changePatience_33 fl_Sta_31 (kI := 4) rfl fc_Sta_4 ff_Sta_4 (pi_Sta_4 _) vk_1 ?_
        refine r_iloadn dd_Sta_changePatience_36 rfl ?_
        exact r_retI dd_Sta_changePatience_37 (by first | rfl | omega | exact (b2_t (by first | assumption | omega)).symm | exact (b2_f (by first | assumption | omega)).symm) rfl
      · exfalso; omega
    · exfalso; omega
theorem c_Sta_makeAlive_e {μ : Int → Int → Int} {K : Int} {m : Int → Int} (hR : RI K μ m) {t a : Int} (ha : a = 0 ∨ a = 1) (h : (t < 0 ∨ 5 < t) ∨ (m (448 + t) = 0 ∧ a = 1) ∨ (m (448 + t) ≠ 0 ∧ a = 0)) : MetC mi_Sta_makeAlive [vR 1, vI t, vI a] (st μ) (some (vI (if t < 0 ∨ 5 < t then -1 else -5))) (st (μ)) := by
  refine met_of ?_ (Nat.le_of_ble_eq_true rfl) (by decide) trivial (by decide) (Nat.le_of_ble_eq_true rfl)
  show SPW mi_Sta_makeAlive 219 0 [some (vR 1), some (vI t), some (vI a), none] [] (st μ) (some (vI (if t < 0 ∨ 5 < t then -1 else -5))) (st (μ))
  rcases (show (t < 0 ∨ 6 ≤ t) ∨ (0 ≤ t ∧ t < 6) by omega) with h1 | h1
  · refine r_aloadn dd_Sta_makeAlive_0 rfl ?_
    refine r_iloadn dd_Sta_makeAlive_1 rfl ?_
    refine r_V1W dd_Sta_makeAlive_2 ml_Sta_90 ok_Sta_taskOf vi_Sta_taskOf vk_1 (by decide) (clS rfl (Nat.le_refl _) (rmOK_self _ _)) rfl (c_Sta_taskOf_n (by omega)) ?_
    refine r_astoren (L' := [_, _, _, _]) dd_Sta_makeAlive_5 rfl rfl ?_
    refine r_aloadn dd_Sta_makeAlive_6 rfl ?_
    refine r_ifnonnullN dd_Sta_makeAlive_7 ?_
    refine r_iconst dd_Sta_makeAlive_10 ⟨by decide, by decide⟩ ?_
    exact r_retI dd_Sta_makeAlive_11 (by (repeat (first | rw [if_pos (by omega)] | rw [if_neg (by omega)])); first | done | omega | (congr 1; omega) | exact (b2_t (by first | assumption | omega)).symm | exact (b2_f (by first | assumption | omega)).symm) rfl
  · have ht := (hR.tsk (t := t) (by omega) (by omega)).1
    have hb := (hR.2.1.2.1 t (by omega) (by omega)).1
    refine r_aloadn dd_Sta_makeAlive_0 rfl ?_
    refine r_iloadn dd_Sta_makeAlive_1 rfl ?_
    refine r_V1W dd_Sta_makeAlive_2 ml_Sta_90 ok_Sta_taskOf vi_Sta_taskOf vk_1 (by decide) (clS rfl (Nat.le_refl _) (rmOK_self _ _)) rfl (c_Sta_taskOf_s (by omega)) ?_
    refine r_astoren (L' := [_, _, _, _]) dd_Sta_makeAlive_5 rfl rfl ?_
    refine r_aloadn dd_Sta_makeAlive_6 rfl ?_
    refine r_ifnonnullR dd_Sta_makeAlive_7 ?_
    refine r_aloadn dd_Sta_makeAlive_12 rfl ?_
    refine r_getI dd_Sta_makeAlive_13 fl_Sta_104 (kI := 0) rfl fi_Tsk_0 (vk_tsk (by omega) (by omega)) ?_
    rw [ht]
    refine r_iloadn dd_Sta_makeAlive_16 rfl ?_
    refine r_icmp_ne dd_Sta_makeAlive_17 (fun c_17 => ?_) (fun c_17 => ?_)
    · exfalso; omega
    · refine r_bip dd_Sta_makeAlive_20 ⟨by decide, by decide⟩ ?_
      exact r_retI dd_Sta_makeAlive_22 (by (repeat (first | rw [if_pos (by omega)] | rw [if_neg (by omega)])); first | done | omega | (congr 1; omega) | exact (b2_t (by first | assumption | omega)).symm | exact (b2_f (by first | assumption | omega)).symm) rfl
theorem c_Sta_makeAlive_o {μ : Int → Int → Int} {K : Int} {m : Int → Int} (hR : RI K μ m) {t a : Int} (ha : a = 0 ∨ a = 1) (h : 0 ≤ t ∧ t ≤ 5) (h2 : m (448 + t) = a) : MetC mi_Sta_makeAlive [vR 1, vI t, vI a] (st μ) (some (vI (blksM (up1 m (448 + t) (1 - a)) t))) (st (upM μ (21 + t) 0 a)) := by
  refine met_of ?_ (Nat.le_of_ble_eq_true rfl) (by decide) trivial (by decide) (Nat.le_of_ble_eq_true rfl)
  show SPW mi_Sta_makeAlive 219 0 [some (vR 1), some (vI t), some (vI a), none] [] (st μ) (some (vI (blksM (up1 m (448 + t) (1 - a)) t))) (st (upM μ (21 + t) 0 a))
  have ht := (hR.tsk (t := t) (by omega) (by omega)).1
  have hb := (hR.2.1.2.1 t (by omega) (by omega)).1
  refine r_aloadn dd_Sta_makeAlive_0 rfl ?_
  refine r_iloadn dd_Sta_makeAlive_1 rfl ?_
  refine r_V1W dd_Sta_makeAlive_2 ml_Sta_90 ok_Sta_taskOf vi_Sta_taskOf vk_1 (by decide) (clS rfl (Nat.le_refl _) (rmOK_self _ _)) rfl (c_Sta_taskOf_s (by omega)) ?_
  refine r_astoren (L' := [_, _, _, _]) dd_Sta_makeAlive_5 rfl rfl ?_
  refine r_aloadn dd_Sta_makeAlive_6 rfl ?_
  refine r_ifnonnullR dd_Sta_makeAlive_7 ?_
  refine r_aloadn dd_Sta_makeAlive_12 rfl ?_
  refine r_getI dd_Sta_makeAlive_13 fl_Sta_104 (kI := 0) rfl fi_Tsk_0 (vk_tsk (by omega) (by omega)) ?_
  rw [ht]
  refine r_iloadn dd_Sta_makeAlive_16 rfl ?_
  refine r_icmp_ne dd_Sta_makeAlive_17 (fun c_17 => ?_) (fun c_17 => ?_)
  · refine r_aloadn dd_Sta_makeAlive_23 rfl ?_
    refine r_iloadn dd_Sta_makeAlive_24 rfl ?_
    refine r_putI dd_Sta_makeAlive_25 fl_Sta_104 (kI := 0) rfl fc_Tsk_0 ff_Tsk_0 (pb_Tsk_0 (by first | exact b2_01 | omega)) (vk_tsk (by omega) (by omega)) ?_
    refine r_aloadn dd_Sta_makeAlive_28 rfl ?_
    refine r_iloadn dd_Sta_makeAlive_29 rfl ?_
    refine r_V1W dd_Sta_makeAlive_30 ml_Sta_124 ok_Sta_blocksOf vi_Sta_blocksOf vk_1 (by decide) (clS rfl (Nat.le_refl _) (rmOK_self _ _)) rfl (c_Sta_blocksOf (RI_live hR (t := t) (v := a) (v' := 1 - a) (by omega) (by omega) ⟨by omega, by omega⟩ (by omega)) h) ?_
    exact r_retI dd_Sta_makeAlive_33 (by first | rfl | omega | exact (b2_t (by first | assumption | omega)).symm | exact (b2_f (by first | assumption | omega)).symm) rfl
  · exfalso; omega
theorem c_Sta_useNow_n {μ : Int → Int → Int} {K : Int} {m : Int → Int} (hR : RI K μ m) {b : Int} (h : begOf m b = -5) : MetC mi_Sta_useNow [vR 1, vI b] (st μ) (some (vI (-1))) (st (μ)) := by
  refine met_of ?_ (Nat.le_of_ble_eq_true rfl) (by decide) trivial (by decide) (Nat.le_of_ble_eq_true rfl)
  show SPW mi_Sta_useNow 219 0 [some (vR 1), some (vI b), none, none] [] (st μ) (some (vI (-1))) (st (μ))
  refine r_aloadn dd_Sta_useNow_0 rfl ?_
  refine r_iloadn dd_Sta_useNow_1 rfl ?_
  refine r_V1W dd_Sta_useNow_2 ml_Sta_87 ok_Sta_blockOf vi_Sta_blockOf vk_1 (by decide) (clS rfl (Nat.le_refl _) (rmOK_self _ _)) rfl (c_Sta_blockOf_n hR h) ?_
  refine r_astoren (L' := [_, _, _, _]) dd_Sta_useNow_5 rfl rfl ?_
  refine r_aloadn dd_Sta_useNow_6 rfl ?_
  refine r_ifnonnullN dd_Sta_useNow_7 ?_
  refine r_iconst dd_Sta_useNow_10 ⟨by decide, by decide⟩ ?_
  exact r_retI dd_Sta_useNow_11 (by first | rfl | omega | exact (b2_t (by first | assumption | omega)).symm | exact (b2_f (by first | assumption | omega)).symm) rfl
theorem c_Sta_useNow_z {μ : Int → Int → Int} {K : Int} {m : Int → Int} (hR : RI K μ m) {b j : Int} (hj : begOf m b = 4 * j) (j0 : 0 ≤ j) (j1 : j < 16) (h : m (384 + 4 * j) = m 466) : MetC mi_Sta_useNow [vR 1, vI b] (st μ) (some (vI (-5))) (st (μ)) := by
  refine met_of ?_ (Nat.le_of_ble_eq_true rfl) (by decide) trivial (by decide) (Nat.le_of_ble_eq_true rfl)
  show SPW mi_Sta_useNow 219 0 [some (vR 1), some (vI b), none, none] [] (st μ) (some (vI (-5))) (st (μ))
  have hc0 := hR.2.1.2.2.1
  have hu := (hR.2.1.1 (4 * j) (by omega) (by omega)).2.2.2.2.2.1
  have h3 : μ 1 3 = m 466 := hR.1.2.2.2.1
  refine r_aloadn dd_Sta_useNow_0 rfl ?_
  refine r_iloadn dd_Sta_useNow_1 rfl ?_
  refine r_V1W dd_Sta_useNow_2 ml_Sta_87 ok_Sta_blockOf vi_Sta_blockOf vk_1 (by decide) (clS rfl (Nat.le_refl _) (rmOK_self _ _)) rfl (c_Sta_blockOf_s hR hj j0) ?_
  refine r_astoren (L' := [_, _, _, _]) dd_Sta_useNow_5 rfl rfl ?_
  refine r_aloadn dd_Sta_useNow_6 rfl ?_
  refine r_ifnonnullR dd_Sta_useNow_7 ?_
  refine r_aloadn dd_Sta_useNow_12 rfl ?_
  refine r_aloadn dd_Sta_useNow_13 rfl ?_
  refine r_V1W dd_Sta_useNow_14 ml_Sta_121 ok_Sta_ageOf vi_Sta_ageOf vk_1 (by decide) (clS rfl (Nat.le_refl _) (rmOK_self _ _)) rfl (c_Sta_ageOf hR j0 j1) ?_
  refine r_istoren (L' := [_, _, _, _]) dd_Sta_useNow_17 rfl rfl ?_
  refine r_iloadn dd_Sta_useNow_18 rfl ?_
  refine r_if_ne dd_Sta_useNow_19 (fun c_19 => ?_) (fun c_19 => ?_)
  · exfalso; omega
  · refine r_bip dd_Sta_useNow_22 ⟨by decide, by decide⟩ ?_
    exact r_retI dd_Sta_useNow_24 (by first | rfl | omega | exact (b2_t (by first | assumption | omega)).symm | exact (b2_f (by first | assumption | omega)).symm) rfl
theorem c_Sta_useNow_o {μ : Int → Int → Int} {K : Int} {m : Int → Int} (hR : RI K μ m) {b j : Int} (hj : begOf m b = 4 * j) (j0 : 0 ≤ j) (j1 : j < 16) (h : m (384 + 4 * j) ≠ m 466) : MetC mi_Sta_useNow [vR 1, vI b] (st μ) (some (vI (m 466 - m (384 + 4 * j)))) (st (upM μ (3 + j) 5 (m 466))) := by
  refine met_of ?_ (Nat.le_of_ble_eq_true rfl) (by decide) trivial (by decide) (Nat.le_of_ble_eq_true rfl)
  show SPW mi_Sta_useNow 219 0 [some (vR 1), some (vI b), none, none] [] (st μ) (some (vI (m 466 - m (384 + 4 * j)))) (st (upM μ (3 + j) 5 (m 466)))
  have hc0 := hR.2.1.2.2.1
  have hu := (hR.2.1.1 (4 * j) (by omega) (by omega)).2.2.2.2.2.1
  have h3 : μ 1 3 = m 466 := hR.1.2.2.2.1
  refine r_aloadn dd_Sta_useNow_0 rfl ?_
  refine r_iloadn dd_Sta_useNow_1 rfl ?_
  refine r_V1W dd_Sta_useNow_2 ml_Sta_87 ok_Sta_blockOf vi_Sta_blockOf vk_1 (by decide) (clS rfl (Nat.le_refl _) (rmOK_self _ _)) rfl (c_Sta_blockOf_s hR hj j0) ?_
  refine r_astoren (L' := [_, _, _, _]) dd_Sta_useNow_5 rfl rfl ?_
  refine r_aloadn dd_Sta_useNow_6 rfl ?_
  refine r_ifnonnullR dd_Sta_useNow_7 ?_
  refine r_aloadn dd_Sta_useNow_12 rfl ?_
  refine r_aloadn dd_Sta_useNow_13 rfl ?_
  refine r_V1W dd_Sta_useNow_14 ml_Sta_121 ok_Sta_ageOf vi_Sta_ageOf vk_1 (by decide) (clS rfl (Nat.le_refl _) (rmOK_self _ _)) rfl (c_Sta_ageOf hR j0 j1) ?_
  refine r_istoren (L' := [_, _, _, _]) dd_Sta_useNow_17 rfl rfl ?_
  refine r_iloadn dd_Sta_useNow_18 rfl ?_
  refine r_if_ne dd_Sta_useNow_19 (fun c_19 => ?_) (fun c_19 => ?_)
  · refine r_aloadn dd_Sta_useNow_25 rfl ?_
    refine r_aloadn dd_Sta_useNow_26 rfl ?_
    refine r_getI dd_Sta_useNow_27 fl_Sta_48 (kI := 3) rfl fi_Sta_3 vk_1 ?_
    rw [h3]
    refine r_putI dd_Sta_useNow_30 fl_Sta_84 (kI := 5) rfl fc_Blk_5 ff_Blk_5 (pi_Blk_5 _) (vk_blk j0 j1) ?_
    refine r_iloadn dd_Sta_useNow_33 rfl ?_
    exact r_retI dd_Sta_useNow_34 (by first | rfl | omega | exact (b2_t (by first | assumption | omega)).symm | exact (b2_f (by first | assumption | omega)).symm) rfl
  · exfalso; omega
