/-! the class: signs read -/
/-- a text is in hand, and so is a place in it -/
def TX (μ : Int → Int → Int) : Prop := (0 ≤ μ 185 1 ∧ μ 185 1 ≤ 60) ∧ (∀ k, 0 ≤ k → k < 60 → 0 ≤ μ 186 k ∧ μ 186 k ≤ 65535) ∧ (0 ≤ μ 185 4 ∧ μ 185 4 ≤ μ 185 1)
def sgF (c : Int → Int) (T p : Int) : Int := if p < T then c p else 0
theorem sgF_rg {μ : Int → Int → Int} (h : TX μ) : 0 ≤ sgF (μ 186) (μ 185 1) (μ 185 4) ∧ sgF (μ 186) (μ 185 1) (μ 185 4) ≤ 65535 := by
  have h1 := h.1
  have h2 := h.2.2
  unfold sgF
  split
  · exact h.2.1 _ (by omega) (by omega)
  · exact ⟨by decide, by decide⟩
def dgF (z : Int) : Int := if 48 ≤ z ∧ z ≤ 57 then z - 48 else -1

theorem c_Txt_signHere {μ : Int → Int → Int} (h : TX μ) : MetC mi_Txt_signHere [vR 185] (st μ) (some (vI (sgF (μ 186) (μ 185 1) (μ 185 4)))) (st (μ)) := by
  refine met_of ?_ (Nat.le_of_ble_eq_true rfl) (by decide) (show (0 : Int) ≤ sgF (μ 186) (μ 185 1) (μ 185 4) ∧ sgF (μ 186) (μ 185 1) (μ 185 4) < 65536 from ⟨(sgF_rg h).1, by have := (sgF_rg h).2; omega⟩) (by decide) (Nat.le_of_ble_eq_true rfl)
  show SPW mi_Txt_signHere 226 0 [some (vR 185), none] [] (st μ) (some (vI (sgF (μ 186) (μ 185 1) (μ 185 4)))) (st (μ))
  have h1 := h.1
  have h3 := h.2.2
  refine r_aloadn dd_Txt_signHere_0 rfl ?_
  refine r_getI dd_Txt_signHere_1 fl_Txt_29 (kI := 4) rfl fi_Txt_4 vk_185 ?_
  refine r_if_lt dd_Txt_signHere_4 (fun c_4 => ?_) (fun c_4 => ?_)
  · refine r_iconst dd_Txt_signHere_31 ⟨by decide, by decide⟩ ?_
    refine r_istoren (L' := [_, _]) dd_Txt_signHere_32 rfl rfl ?_
    refine r_iloadn dd_Txt_signHere_33 rfl ?_
    refine r_if_eq dd_Txt_signHere_34 (fun c_34 => ?_) (fun c_34 => ?_)
    · refine r_iconst dd_Txt_signHere_49 ⟨by decide, by decide⟩ ?_
      exact r_retI dd_Txt_signHere_50 (by unfold sgF; (repeat (first | rw [if_pos (by omega)] | rw [if_neg (by omega)])); first | done | omega | (congr 1; omega) | exact (b2_t (by first | assumption | omega)).symm | exact (b2_f (by first | assumption | omega)).symm) rfl
    · exfalso; omega
  · refine r_aloadn dd_Txt_signHere_7 rfl ?_
    refine r_getI dd_Txt_signHere_8 fl_Txt_29 (kI := 4) rfl fi_Txt_4 vk_185 ?_
    refine r_aloadn dd_Txt_signHere_11 rfl ?_
    refine r_getI dd_Txt_signHere_12 fl_Txt_22 (kI := 1) rfl fi_Txt_1 vk_185 ?_
    refine r_icmp_ge dd_Txt_signHere_15 (fun c_15 => ?_) (fun c_15 => ?_)
    · refine r_iconst dd_Txt_signHere_31 ⟨by decide, by decide⟩ ?_
      refine r_istoren (L' := [_, _]) dd_Txt_signHere_32 rfl rfl ?_
      refine r_iloadn dd_Txt_signHere_33 rfl ?_
      refine r_if_eq dd_Txt_signHere_34 (fun c_34 => ?_) (fun c_34 => ?_)
      · refine r_iconst dd_Txt_signHere_49 ⟨by decide, by decide⟩ ?_
        exact r_retI dd_Txt_signHere_50 (by unfold sgF; (repeat (first | rw [if_pos (by omega)] | rw [if_neg (by omega)])); first | done | omega | (congr 1; omega) | exact (b2_t (by first | assumption | omega)).symm | exact (b2_f (by first | assumption | omega)).symm) rfl
      · exfalso; omega
    · refine r_aloadn dd_Txt_signHere_18 rfl ?_
      refine r_getI dd_Txt_signHere_19 fl_Txt_29 (kI := 4) rfl fi_Txt_4 vk_185 ?_
      refine r_bip dd_Txt_signHere_22 ⟨by decide, by decide⟩ ?_
      refine r_icmp_ge dd_Txt_signHere_24 (fun c_24 => ?_) (fun c_24 => ?_)
      · refine r_iconst dd_Txt_signHere_31 ⟨by decide, by decide⟩ ?_
        refine r_istoren (L' := [_, _]) dd_Txt_signHere_32 rfl rfl ?_
        refine r_iloadn dd_Txt_signHere_33 rfl ?_
        refine r_if_eq dd_Txt_signHere_34 (fun c_34 => ?_) (fun c_34 => ?_)
        · refine r_iconst dd_Txt_signHere_49 ⟨by decide, by decide⟩ ?_
          exact r_retI dd_Txt_signHere_50 (by unfold sgF; (repeat (first | rw [if_pos (by omega)] | rw [if_neg (by omega)])); first | done | omega | (congr 1; omega) | exact (b2_t (by first | assumption | omega)).symm | exact (b2_f (by first | assumption | omega)).symm) rfl
        · exfalso; omega
      · refine r_iconst dd_Txt_signHere_27 ⟨by decide, by decide⟩ ?_
        refine r_goto dd_Txt_signHere_28 ?_
        refine r_istoren (L' := [_, _]) dd_Txt_signHere_32 rfl rfl ?_
        refine r_iloadn dd_Txt_signHere_33 rfl ?_
        refine r_if_eq dd_Txt_signHere_34 (fun c_34 => ?_) (fun c_34 => ?_)
        · exfalso; omega
        · refine r_aloadn dd_Txt_signHere_37 rfl ?_
          refine r_getR dd_Txt_signHere_38 fl_Txt_9 (kI := 0) rfl fr_Txt_0 vk_185 R0_185_0 ?_
          refine r_aloadn dd_Txt_signHere_41 rfl ?_
          refine r_getI dd_Txt_signHere_42 fl_Txt_29 (kI := 4) rfl fi_Txt_4 vk_185 ?_
          refine r_cald dd_Txt_signHere_45 (q := 16) (by decide) vk_186 (by omega) (by show _ < ((60 : Nat) : Int); omega) ?_
          refine r_goto dd_Txt_signHere_46 ?_
          exact r_retI dd_Txt_signHere_50 (by unfold sgF; (repeat (first | rw [if_pos (by omega)] | rw [if_neg (by omega)])); first | done | omega | (congr 1; omega) | exact (b2_t (by first | assumption | omega)).symm | exact (b2_f (by first | assumption | omega)).symm) rfl
theorem c_Txt_digitHere {μ : Int → Int → Int} (h : TX μ) : MetC mi_Txt_digitHere [vR 185] (st μ) (some (vI (dgF (sgF (μ 186) (μ 185 1) (μ 185 4))))) (st (μ)) := by
  refine met_of ?_ (Nat.le_of_ble_eq_true rfl) (by decide) trivial (by decide) (Nat.le_of_ble_eq_true rfl)
  show SPW mi_Txt_digitHere 226 0 [some (vR 185), none] [] (st μ) (some (vI (dgF (sgF (μ 186) (μ 185 1) (μ 185 4))))) (st (μ))
  have hs := sgF_rg h
  refine r_aloadn dd_Txt_digitHere_0 rfl ?_
  refine r_V0W dd_Txt_digitHere_1 ml_Txt_44 ok_Txt_signHere vi_Txt_signHere vk_185 (by decide) (clS rfl (Nat.le_refl _) (rmOK_self _ _)) rfl (c_Txt_signHere h) ?_
  refine r_istoren (L' := [_, _]) dd_Txt_digitHere_4 rfl rfl ?_
  refine r_iloadn dd_Txt_digitHere_5 rfl ?_
  refine r_bip dd_Txt_digitHere_6 ⟨by decide, by decide⟩ ?_
  refine r_icmp_lt dd_Txt_digitHere_8 (fun c_8 => ?_) (fun c_8 => ?_)
  · refine r_iconst dd_Txt_digitHere_24 ⟨by decide, by decide⟩ ?_
    exact r_retI dd_Txt_digitHere_25 (by unfold dgF; (repeat (first | rw [if_pos (by omega)] | rw [if_neg (by omega)])); first | done | omega | (congr 1; omega) | exact (b2_t (by first | assumption | omega)).symm | exact (b2_f (by first | assumption | omega)).symm) rfl
  · refine r_iloadn dd_Txt_digitHere_11 rfl ?_
    refine r_bip dd_Txt_digitHere_12 ⟨by decide, by decide⟩ ?_
    refine r_icmp_gt dd_Txt_digitHere_14 (fun c_14 => ?_) (fun c_14 => ?_)
    · refine r_iconst dd_Txt_digitHere_24 ⟨by decide, by decide⟩ ?_
      exact r_retI dd_Txt_digitHere_25 (by unfold dgF; (repeat (first | rw [if_pos (by omega)] | rw [if_neg (by omega)])); first | done | omega | (congr 1; omega) | exact (b2_t (by first | assumption | omega)).symm | exact (b2_f (by first | assumption | omega)).symm) rfl
    · refine r_iloadn dd_Txt_digitHere_17 rfl ?_
      refine r_bip dd_Txt_digitHere_18 ⟨by decide, by decide⟩ ?_
      refine r_isub dd_Txt_digitHere_20 ⟨by omega, by omega⟩ ?_
      refine r_goto dd_Txt_digitHere_21 ?_
      exact r_retI dd_Txt_digitHere_25 (by unfold dgF; (repeat (first | rw [if_pos (by omega)] | rw [if_neg (by omega)])); first | done | omega | (congr 1; omega) | exact (b2_t (by first | assumption | omega)).symm | exact (b2_f (by first | assumption | omega)).symm) rfl
theorem c_Txt_readSign_e {μ : Int → Int → Int} {c : Int} (h : TX μ) (hf : μ 185 5 = 0) (hs : sgF (μ 186) (μ 185 1) (μ 185 4) ≠ c) : MetC mi_Txt_readSign [vR 185, vI c] (st μ) (none) (st (upM μ 185 5 1)) := by
  refine met_of ?_ (Nat.le_of_ble_eq_true rfl) (by decide) trivial (by decide) (Nat.le_of_ble_eq_true rfl)
  show SPW mi_Txt_readSign 226 0 [some (vR 185), some (vI c)] [] (st μ) (none) (st (upM μ 185 5 1))
  refine r_aloadn dd_Txt_readSign_0 rfl ?_
  refine r_getI dd_Txt_readSign_1 fl_Txt_32 (kI := 5) rfl fi_Txt_5 vk_185 ?_
  refine r_if_ne dd_Txt_readSign_4 (fun c_4 => ?_) (fun c_4 => ?_)
  · exfalso; omega
  · refine r_aloadn dd_Txt_readSign_7 rfl ?_
    refine r_V0W dd_Txt_readSign_8 ml_Txt_44 ok_Txt_signHere vi_Txt_signHere vk_185 (by decide) (clS rfl (Nat.le_refl _) (rmOK_self _ _)) rfl (c_Txt_signHere h) ?_
    refine r_iloadn dd_Txt_readSign_11 rfl ?_
    refine r_icmp_eq dd_Txt_readSign_12 (fun c_12 => ?_) (fun c_12 => ?_)
    · exfalso; omega
    · refine r_aloadn dd_Txt_readSign_15 rfl ?_
      refine r_iconst dd_Txt_readSign_16 ⟨by decide, by decide⟩ ?_
      refine r_putI dd_Txt_readSign_17 fl_Txt_32 (kI := 5) rfl fc_Txt_5 ff_Txt_5 (pb_Txt_5 (by first | exact b2_01 | omega)) vk_185 ?_
      exact r_retV dd_Txt_readSign_20 rfl
theorem c_Txt_readSign_o {μ : Int → Int → Int} {c : Int} (h : TX μ) (hf : μ 185 5 = 0) (hs : sgF (μ 186) (μ 185 1) (μ 185 4) = c) : MetC mi_Txt_readSign [vR 185, vI c] (st μ) (none) (st (upM μ 185 4 (μ 185 4 + 1))) := by
  refine met_of ?_ (Nat.le_of_ble_eq_true rfl) (by decide) trivial (by decide) (Nat.le_of_ble_eq_true rfl)
  show SPW mi_Txt_readSign 226 0 [some (vR 185), some (vI c)] [] (st μ) (none) (st (upM μ 185 4 (μ 185 4 + 1)))
  have h1 := h.1
  have h3 := h.2.2
  refine r_aloadn dd_Txt_readSign_0 rfl ?_
  refine r_getI dd_Txt_readSign_1 fl_Txt_32 (kI := 5) rfl fi_Txt_5 vk_185 ?_
  refine r_if_ne dd_Txt_readSign_4 (fun c_4 => ?_) (fun c_4 => ?_)
  · exfalso; omega
  · refine r_aloadn dd_Txt_readSign_7 rfl ?_
    refine r_V0W dd_Txt_readSign_8 ml_Txt_44 ok_Txt_signHere vi_Txt_signHere vk_185 (by decide) (clS rfl (Nat.le_refl _) (rmOK_self _ _)) rfl (c_Txt_signHere h) ?_
    refine r_iloadn dd_Txt_readSign_11 rfl ?_
    refine r_icmp_eq dd_Txt_readSign_12 (fun c_12 => ?_) (fun c_12 => ?_)
    · refine r_aloadn dd_Txt_readSign_21 rfl ?_
      refine r_dup dd_Txt_readSign_22 ?_
      refine r_getI dd_Txt_readSign_23 fl_Txt_29 (kI := 4) rfl fi_Txt_4 vk_185 ?_
      refine r_iconst dd_Txt_readSign_26 ⟨by decide, by decide⟩ ?_
      refine r_iadd dd_Txt_readSign_27 ⟨by omega, by omega⟩ ?_
      refine r_putI dd_Txt_readSign_28 fl_Txt_29 (kI := 4) rfl fc_Txt_4 ff_Txt_4 (pi_Txt_4 _) vk_185 ?_
      exact r_retV dd_Txt_readSign_31 rfl
    · exfalso; omega
theorem c_Txt_readSign_f {μ : Int → Int → Int} {c : Int} (h : TX μ) (hf : μ 185 5 = 1) : MetC mi_Txt_readSign [vR 185, vI c] (st μ) (none) (st (upM μ 185 5 1)) := by
  refine met_of ?_ (Nat.le_of_ble_eq_true rfl) (by decide) trivial (by decide) (Nat.le_of_ble_eq_true rfl)
  show SPW mi_Txt_readSign 226 0 [some (vR 185), some (vI c)] [] (st μ) (none) (st (upM μ 185 5 1))
  refine r_aloadn dd_Txt_readSign_0 rfl ?_
  refine r_getI dd_Txt_readSign_1 fl_Txt_32 (kI := 5) rfl fi_Txt_5 vk_185 ?_
  refine r_if_ne dd_Txt_readSign_4 (fun c_4 => ?_) (fun c_4 => ?_)
  · refine r_aloadn dd_Txt_readSign_15 rfl ?_
    refine r_iconst dd_Txt_readSign_16 ⟨by decide, by decide⟩ ?_
    refine r_putI dd_Txt_readSign_17 fl_Txt_32 (kI := 5) rfl fc_Txt_5 ff_Txt_5 (pb_Txt_5 (by first | exact b2_01 | omega)) vk_185 ?_
    exact r_retV dd_Txt_readSign_20 rfl
  · exfalso; omega
theorem c_Txt_commandCount {μ : Int → Int → Int}  : MetC mi_Txt_commandCount [vR 185] (st μ) (some (vI (μ 185 3))) (st (μ)) := by
  refine met_of ?_ (Nat.le_of_ble_eq_true rfl) (by decide) trivial (by decide) (Nat.le_of_ble_eq_true rfl)
  show SPW mi_Txt_commandCount 226 0 [some (vR 185)] [] (st μ) (some (vI (μ 185 3))) (st (μ))
  refine r_aloadn dd_Txt_commandCount_0 rfl ?_
  refine r_getI dd_Txt_commandCount_1 fl_Txt_26 (kI := 3) rfl fi_Txt_3 vk_185 ?_
  exact r_retI dd_Txt_commandCount_4 (by first | rfl | omega | exact (b2_t (by first | assumption | omega)).symm | exact (b2_f (by first | assumption | omega)).symm) rfl
