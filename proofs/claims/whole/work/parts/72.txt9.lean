/-! a number read by the reference -/
/-- the reference has a text in hand -/
def TM (μ : Int → Int → Int) : Prop := (0 ≤ μ 219 8 ∧ μ 219 8 ≤ 60) ∧ (∀ k, 0 ≤ k → k < 60 → 0 ≤ μ 225 k ∧ μ 225 k ≤ 65535)
theorem l_Mod_num {μ : Int → Int → Int} {lo hi : Int} (h : TM μ) (h5 : hi ≤ 500) : ∀ (n : Nat) (q z : Int), (0 ≤ q ∧ q ≤ μ 219 8) → ((n = 3 ∧ 0 ≤ z) ∨ (n = 2 ∧ 10 ≤ z) ∨ (n = 1 ∧ 100 ≤ z) ∨ (n = 0 ∧ 1000 ≤ z)) → z ≤ 9999 → SPW mi_Mod_number 226 14 [some (vR 219), some (vI lo), some (vI hi), some (vI z)] [] (st (gF μ q 0)) (some (vI (nZ (μ 225) (μ 219 8) hi n q z))) (st (gF μ (nQ (μ 225) (μ 219 8) hi n q z) 0)) := by
  intro n
  have hT := h.1
  induction n with
  | zero =>
    intro q z hq hz h9
    refine r_aloadn dd_Mod_number_14 rfl ?_
    refine r_getI dd_Mod_number_15 fl_Mod_124 (kI := 12) rfl fi_Mod_12 vk_219 ?_
    rw [gF_12]
    refine r_if_ne dd_Mod_number_18 (fun c_18 => ?_) (fun c_18 => ?_)
    · exfalso; omega
    · refine r_iloadn dd_Mod_number_21 rfl ?_
      refine r_if_le dd_Mod_number_22 (fun c_22 => ?_) (fun c_22 => ?_)
      · refine r_iloadn dd_Mod_number_96 rfl ?_
        exact r_retI dd_Mod_number_97 (by first | rfl | omega | exact (b2_t (by first | assumption | omega)).symm | exact (b2_f (by first | assumption | omega)).symm) rfl
      · refine r_aloadn dd_Mod_number_25 rfl ?_
        refine r_getI dd_Mod_number_26 fl_Mod_121 (kI := 11) rfl fi_Mod_11 vk_219 ?_
        rw [gF_11]
        refine r_aloadn dd_Mod_number_29 rfl ?_
        refine r_getI dd_Mod_number_30 fl_Mod_118 (kI := 8) rfl fi_Mod_8 vk_219 ?_
        rw [gF_o (Or.inr ⟨by decide, by decide⟩)]
        refine r_icmp_ge dd_Mod_number_33 (fun c_33 => ?_) (fun c_33 => ?_)
        · refine r_iloadn dd_Mod_number_96 rfl ?_
          exact r_retI dd_Mod_number_97 (by first | rfl | omega | exact (b2_t (by first | assumption | omega)).symm | exact (b2_f (by first | assumption | omega)).symm) rfl
        · refine r_aloadn dd_Mod_number_36 rfl ?_
          refine r_getR dd_Mod_number_37 fl_Mod_25 (kI := 7) rfl fr_Mod_7 vk_219 R0_219_7 ?_
          refine r_aloadn dd_Mod_number_40 rfl ?_
          refine r_getI dd_Mod_number_41 fl_Mod_121 (kI := 11) rfl fi_Mod_11 vk_219 ?_
          rw [gF_11]
          refine r_iald dd_Mod_number_44 (q := 15) (by decide) vk_225 (by omega) (by show _ < ((60 : Nat) : Int); omega) ?_
          rw [gF_225]
          have hch := h.2 q (by omega) (by omega)
          refine r_bip dd_Mod_number_45 ⟨by decide, by decide⟩ ?_
          refine r_bip dd_Mod_number_47 ⟨by decide, by decide⟩ ?_
          refine r_S3W dd_Mod_number_49 ml_Mod_35 ok_Mod_in st_Mod_in (clS rfl (Nat.le_refl _) (rmOK_self _ _)) rfl c_Mod_in ?_
          refine r_if_eq_b dd_Mod_number_52 (fun c_52 => ?_) (fun c_52 => ?_)
          · refine r_iloadn dd_Mod_number_96 rfl ?_
            exact r_retI dd_Mod_number_97 (by first | rfl | omega | exact (b2_t (by first | assumption | omega)).symm | exact (b2_f (by first | assumption | omega)).symm) rfl
          · refine r_bip dd_Mod_number_55 ⟨by decide, by decide⟩ ?_
            refine r_iloadn dd_Mod_number_57 rfl ?_
            refine r_imul dd_Mod_number_58 ⟨by omega, by omega⟩ ?_
            refine r_aloadn dd_Mod_number_59 rfl ?_
            refine r_getR dd_Mod_number_60 fl_Mod_25 (kI := 7) rfl fr_Mod_7 vk_219 R0_219_7 ?_
            refine r_aloadn dd_Mod_number_63 rfl ?_
            refine r_getI dd_Mod_number_64 fl_Mod_121 (kI := 11) rfl fi_Mod_11 vk_219 ?_
            rw [gF_11]
            refine r_iald dd_Mod_number_67 (q := 15) (by decide) vk_225 (by omega) (by show _ < ((60 : Nat) : Int); omega) ?_
            rw [gF_225]
            refine r_iadd dd_Mod_number_68 ⟨by omega, by omega⟩ ?_
            refine r_bip dd_Mod_number_69 ⟨by decide, by decide⟩ ?_
            refine r_isub dd_Mod_number_71 ⟨by omega, by omega⟩ ?_
            refine r_iloadn dd_Mod_number_72 rfl ?_
            refine r_icmp_gt dd_Mod_number_73 (fun c_73 => ?_) (fun c_73 => ?_)
            · refine r_iloadn dd_Mod_number_96 rfl ?_
              exact r_retI dd_Mod_number_97 (by first | rfl | omega | exact (b2_t (by first | assumption | omega)).symm | exact (b2_f (by first | assumption | omega)).symm) rfl
            · exfalso; omega
  | succ n ih =>
    intro q z hq hz h9
    refine r_aloadn dd_Mod_number_14 rfl ?_
    refine r_getI dd_Mod_number_15 fl_Mod_124 (kI := 12) rfl fi_Mod_12 vk_219 ?_
    rw [gF_12]
    refine r_if_ne dd_Mod_number_18 (fun c_18 => ?_) (fun c_18 => ?_)
    · exfalso; omega
    · refine r_iloadn dd_Mod_number_21 rfl ?_
      refine r_if_le dd_Mod_number_22 (fun c_22 => ?_) (fun c_22 => ?_)
      · refine r_iloadn dd_Mod_number_96 rfl ?_
        exact r_retI dd_Mod_number_97 (by rw [nZ_n (fun k => by omega)]) (by rw [nQ_n (fun k => by omega)])
      · refine r_aloadn dd_Mod_number_25 rfl ?_
        refine r_getI dd_Mod_number_26 fl_Mod_121 (kI := 11) rfl fi_Mod_11 vk_219 ?_
        rw [gF_11]
        refine r_aloadn dd_Mod_number_29 rfl ?_
        refine r_getI dd_Mod_number_30 fl_Mod_118 (kI := 8) rfl fi_Mod_8 vk_219 ?_
        rw [gF_o (Or.inr ⟨by decide, by decide⟩)]
        refine r_icmp_ge dd_Mod_number_33 (fun c_33 => ?_) (fun c_33 => ?_)
        · refine r_iloadn dd_Mod_number_96 rfl ?_
          exact r_retI dd_Mod_number_97 (by rw [nZ_n (fun k => by omega)]) (by rw [nQ_n (fun k => by omega)])
        · refine r_aloadn dd_Mod_number_36 rfl ?_
          refine r_getR dd_Mod_number_37 fl_Mod_25 (kI := 7) rfl fr_Mod_7 vk_219 R0_219_7 ?_
          refine r_aloadn dd_Mod_number_40 rfl ?_
          refine r_getI dd_Mod_number_41 fl_Mod_121 (kI := 11) rfl fi_Mod_11 vk_219 ?_
          rw [gF_11]
          refine r_iald dd_Mod_number_44 (q := 15) (by decide) vk_225 (by omega) (by show _ < ((60 : Nat) : Int); omega) ?_
          rw [gF_225]
          have hch := h.2 q (by omega) (by omega)
          refine r_bip dd_Mod_number_45 ⟨by decide, by decide⟩ ?_
          refine r_bip dd_Mod_number_47 ⟨by decide, by decide⟩ ?_
          refine r_S3W dd_Mod_number_49 ml_Mod_35 ok_Mod_in st_Mod_in (clS rfl (Nat.le_refl _) (rmOK_self _ _)) rfl c_Mod_in ?_
          refine r_if_eq_b dd_Mod_number_52 (fun c_52 => ?_) (fun c_52 => ?_)
          · refine r_iloadn dd_Mod_number_96 rfl ?_
            exact r_retI dd_Mod_number_97 (by rw [nZ_n (fun k => by omega)]) (by rw [nQ_n (fun k => by omega)])
          · refine r_bip dd_Mod_number_55 ⟨by decide, by decide⟩ ?_
            refine r_iloadn dd_Mod_number_57 rfl ?_
            refine r_imul dd_Mod_number_58 ⟨by omega, by omega⟩ ?_
            refine r_aloadn dd_Mod_number_59 rfl ?_
            refine r_getR dd_Mod_number_60 fl_Mod_25 (kI := 7) rfl fr_Mod_7 vk_219 R0_219_7 ?_
            refine r_aloadn dd_Mod_number_63 rfl ?_
            refine r_getI dd_Mod_number_64 fl_Mod_121 (kI := 11) rfl fi_Mod_11 vk_219 ?_
            rw [gF_11]
            refine r_iald dd_Mod_number_67 (q := 15) (by decide) vk_225 (by omega) (by show _ < ((60 : Nat) : Int); omega) ?_
            rw [gF_225]
            refine r_iadd dd_Mod_number_68 ⟨by omega, by omega⟩ ?_
            refine r_bip dd_Mod_number_69 ⟨by decide, by decide⟩ ?_
            refine r_isub dd_Mod_number_71 ⟨by omega, by omega⟩ ?_
            refine r_iloadn dd_Mod_number_72 rfl ?_
            refine r_icmp_gt dd_Mod_number_73 (fun c_73 => ?_) (fun c_73 => ?_)
            · refine r_iloadn dd_Mod_number_96 rfl ?_
              exact r_retI dd_Mod_number_97 (by rw [nZ_n (fun k => by omega)]) (by rw [nQ_n (fun k => by omega)])
            · refine r_bip dd_Mod_number_76 ⟨by decide, by decide⟩ ?_
              refine r_iloadn dd_Mod_number_78 rfl ?_
              refine r_imul dd_Mod_number_79 ⟨by omega, by omega⟩ ?_
              refine r_aloadn dd_Mod_number_80 rfl ?_
              refine r_bip dd_Mod_number_81 ⟨by decide, by decide⟩ ?_
              refine r_bip dd_Mod_number_83 ⟨by decide, by decide⟩ ?_
              refine r_V2W dd_Mod_number_85 ml_Mod_128 ok_Mod_sign vi_Mod_sign vk_219 (by decide) (clS rfl (Nat.le_refl _) (rmOK_self _ _)) rfl (c_gs_o (lo := 48) (hi := 57) ⟨by omega, by omega⟩ hT (by rw [show sgF (μ 225) (μ 219 8) q = μ 225 q from if_pos (by omega)]; exact c_52)) ?_
              rw [show sgF (μ 225) (μ 219 8) q = μ 225 q from if_pos (by omega)]
              refine r_iadd dd_Mod_number_88 ⟨by omega, by omega⟩ ?_
              refine r_bip dd_Mod_number_89 ⟨by decide, by decide⟩ ?_
              refine r_isub dd_Mod_number_91 ⟨by omega, by omega⟩ ?_
              refine r_istoren (L' := [_, _, _, _]) dd_Mod_number_92 rfl rfl ?_
              refine r_goto dd_Mod_number_93 ?_
              have hn : nst (μ 225) (μ 219 8) hi q z := ⟨by omega, by omega, c_52, by omega⟩
              rw [nQ_y hn, nZ_y hn, show 10 * z + μ 225 q - 48 = 10 * z + (μ 225 q - 48) by omega]
              exact ih (q + 1) _ ⟨by omega, by omega⟩ (by omega) (by omega)
theorem gs_rg {μ : Int → Int → Int} (h : TM μ) {x : Int} (hx : 0 ≤ x ∧ x ≤ μ 219 8) : 0 ≤ sgF (μ 225) (μ 219 8) x ∧ sgF (μ 225) (μ 219 8) x ≤ 65535 := by
  have h1 := h.1
  unfold sgF
  split
  · exact h.2 _ (by omega) (by omega)
  · exact ⟨by decide, by decide⟩
theorem c_Mod_number_f {μ : Int → Int → Int} {lo hi x : Int} (h : TM μ) (h5 : hi ≤ 500) (h0 : 0 ≤ lo ∧ lo ≤ 9) (hx : 0 ≤ x ∧ x ≤ μ 219 8) : MetC mi_Mod_number [vR 219, vI lo, vI hi] (st (gF μ x 1)) (some (vI (sgF (μ 225) (μ 219 8) x - 48))) (st (gF μ x 1)) := by
  refine met_of ?_ (Nat.le_of_ble_eq_true rfl) (by decide) trivial (by decide) (Nat.le_of_ble_eq_true rfl)
  show SPW mi_Mod_number 226 0 [some (vR 219), some (vI lo), some (vI hi), none] [] (st (gF μ x 1)) (some (vI (sgF (μ 225) (μ 219 8) x - 48))) (st (gF μ x 1))
  have hT := h.1
  have hs := gs_rg h hx
  refine r_aloadn dd_Mod_number_0 rfl ?_
  refine r_bip dd_Mod_number_1 ⟨by decide, by decide⟩ ?_
  refine r_iloadn dd_Mod_number_3 rfl ?_
  refine r_iadd dd_Mod_number_4 ⟨by omega, by omega⟩ ?_
  refine r_bip dd_Mod_number_5 ⟨by decide, by decide⟩ ?_
  refine r_V2W dd_Mod_number_7 ml_Mod_128 ok_Mod_sign vi_Mod_sign vk_219 (by decide) (clS rfl (Nat.le_refl _) (rmOK_self _ _)) rfl (c_gs_f ⟨by omega, by omega⟩ hT) ?_
  refine r_bip dd_Mod_number_10 ⟨by decide, by decide⟩ ?_
  refine r_isub dd_Mod_number_12 ⟨by omega, by omega⟩ ?_
  refine r_istoren (L' := [_, _, _, _]) dd_Mod_number_13 rfl rfl ?_
  refine r_aloadn dd_Mod_number_14 rfl ?_
  refine r_getI dd_Mod_number_15 fl_Mod_124 (kI := 12) rfl fi_Mod_12 vk_219 ?_
  rw [gF_12]
  refine r_if_ne dd_Mod_number_18 (fun c_18 => ?_) (fun c_18 => ?_)
  · refine r_iloadn dd_Mod_number_96 rfl ?_
    exact r_retI dd_Mod_number_97 (by first | rfl | omega | exact (b2_t (by first | assumption | omega)).symm | exact (b2_f (by first | assumption | omega)).symm) rfl
  · exfalso; omega
theorem c_Mod_number_e {μ : Int → Int → Int} {lo hi x : Int} (h : TM μ) (h5 : hi ≤ 500) (h0 : 0 ≤ lo ∧ lo ≤ 9) (hx : 0 ≤ x ∧ x ≤ μ 219 8) (hr : ¬ (48 + lo ≤ sgF (μ 225) (μ 219 8) x ∧ sgF (μ 225) (μ 219 8) x ≤ 57)) : MetC mi_Mod_number [vR 219, vI lo, vI hi] (st (gF μ x 0)) (some (vI (sgF (μ 225) (μ 219 8) x - 48))) (st (gF μ x 1)) := by
  refine met_of ?_ (Nat.le_of_ble_eq_true rfl) (by decide) trivial (by decide) (Nat.le_of_ble_eq_true rfl)
  show SPW mi_Mod_number 226 0 [some (vR 219), some (vI lo), some (vI hi), none] [] (st (gF μ x 0)) (some (vI (sgF (μ 225) (μ 219 8) x - 48))) (st (gF μ x 1))
  have hT := h.1
  have hs := gs_rg h hx
  refine r_aloadn dd_Mod_number_0 rfl ?_
  refine r_bip dd_Mod_number_1 ⟨by decide, by decide⟩ ?_
  refine r_iloadn dd_Mod_number_3 rfl ?_
  refine r_iadd dd_Mod_number_4 ⟨by omega, by omega⟩ ?_
  refine r_bip dd_Mod_number_5 ⟨by decide, by decide⟩ ?_
  refine r_V2W dd_Mod_number_7 ml_Mod_128 ok_Mod_sign vi_Mod_sign vk_219 (by decide) (clS rfl (Nat.le_refl _) (rmOK_self _ _)) rfl (c_gs_e ⟨by omega, by omega⟩ hT hr) ?_
  refine r_bip dd_Mod_number_10 ⟨by decide, by decide⟩ ?_
  refine r_isub dd_Mod_number_12 ⟨by omega, by omega⟩ ?_
  refine r_istoren (L' := [_, _, _, _]) dd_Mod_number_13 rfl rfl ?_
  refine r_aloadn dd_Mod_number_14 rfl ?_
  refine r_getI dd_Mod_number_15 fl_Mod_124 (kI := 12) rfl fi_Mod_12 vk_219 ?_
  rw [gF_12]
  refine r_if_ne dd_Mod_number_18 (fun c_18 => ?_) (fun c_18 => ?_)
  · refine r_iloadn dd_Mod_number_96 rfl ?_
    exact r_retI dd_Mod_number_97 (by first | rfl | omega | exact (b2_t (by first | assumption | omega)).symm | exact (b2_f (by first | assumption | omega)).symm) rfl
  · exfalso; omega
theorem c_Mod_number_o {μ : Int → Int → Int} {lo hi x : Int} (h : TM μ) (h5 : hi ≤ 500) (h0 : 0 ≤ lo ∧ lo ≤ 9) (hx : 0 ≤ x ∧ x ≤ μ 219 8) (hl : lo ≤ 9) (hr : 48 + lo ≤ sgF (μ 225) (μ 219 8) x ∧ sgF (μ 225) (μ 219 8) x ≤ 57) : MetC mi_Mod_number [vR 219, vI lo, vI hi] (st (gF μ x 0)) (some (vI (nZ (μ 225) (μ 219 8) hi 3 (x + 1) (sgF (μ 225) (μ 219 8) x - 48)))) (st (gF μ (nQ (μ 225) (μ 219 8) hi 3 (x + 1) (sgF (μ 225) (μ 219 8) x - 48)) 0)) := by
  refine met_of ?_ (Nat.le_of_ble_eq_true rfl) (by decide) trivial (by decide) (Nat.le_of_ble_eq_true rfl)
  show SPW mi_Mod_number 226 0 [some (vR 219), some (vI lo), some (vI hi), none] [] (st (gF μ x 0)) (some (vI (nZ (μ 225) (μ 219 8) hi 3 (x + 1) (sgF (μ 225) (μ 219 8) x - 48)))) (st (gF μ (nQ (μ 225) (μ 219 8) hi 3 (x + 1) (sgF (μ 225) (μ 219 8) x - 48)) 0))
  have hT := h.1
  have hs := gs_rg h hx
  have hlt := sgF_lt (c := μ 225) (T := μ 219 8) (x := x) (by omega)
  refine r_aloadn dd_Mod_number_0 rfl ?_
  refine r_bip dd_Mod_number_1 ⟨by decide, by decide⟩ ?_
  refine r_iloadn dd_Mod_number_3 rfl ?_
  refine r_iadd dd_Mod_number_4 ⟨by omega, by omega⟩ ?_
  refine r_bip dd_Mod_number_5 ⟨by decide, by decide⟩ ?_
  refine r_V2W dd_Mod_number_7 ml_Mod_128 ok_Mod_sign vi_Mod_sign vk_219 (by decide) (clS rfl (Nat.le_refl _) (rmOK_self _ _)) rfl (c_gs_o ⟨by omega, by omega⟩ hT hr) ?_
  refine r_bip dd_Mod_number_10 ⟨by decide, by decide⟩ ?_
  refine r_isub dd_Mod_number_12 ⟨by omega, by omega⟩ ?_
  refine r_istoren (L' := [_, _, _, _]) dd_Mod_number_13 rfl rfl ?_
  exact l_Mod_num h h5 3 (x + 1) _ ⟨by omega, by omega⟩ (by omega) (by omega)
