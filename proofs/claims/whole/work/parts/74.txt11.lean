/-! a command read by the reference: no letter; and what reading does on both sides -/
theorem c_Mod_read_x {μ : Int → Int → Int} {x z r1 : Int} (h : TM μ) (hx : 0 ≤ x ∧ x ≤ μ 219 8) (hs : sgF (μ 225) (μ 219 8) x = z) (z0 : z ≠ 97 ∧ z ≠ 102 ∧ z ≠ 116 ∧ z ≠ 101 ∧ z ≠ 115) (b1 : 0 ≤ r1 ∧ r1 ≤ 65535) (c1 : MetC mi_Mod_sign [vR 219, vI 48, vI 53] (st (gF (upM μ 219 13 z) x 1)) (some (vI r1)) (st (gF (upM μ 219 13 z) x 1))) : MetC mi_Mod_read [vR 219] (st (gF μ x 0)) (none) (st (gF (upM (upM (upM μ 219 13 z) 219 14 (r1 - 48)) 219 15 0) x 1)) := by
  refine met_of ?_ (Nat.le_of_ble_eq_true rfl) (by decide) trivial (by decide) (Nat.le_of_ble_eq_true rfl)
  show SPW mi_Mod_read 226 0 [some (vR 219), none, none, none] [] (st (gF μ x 0)) (none) (st (gF (upM (upM (upM μ 219 13 z) 219 14 (r1 - 48)) 219 15 0) x 1))
  have hT := h.1
  by_cases hlt : x < μ 219 8
  · have hv : μ 225 x = z := by rw [← hs]; exact (if_pos hlt).symm
    refine r_aloadn dd_Mod_read_0 rfl ?_
    refine r_getI dd_Mod_read_1 fl_Mod_121 (kI := 11) rfl fi_Mod_11 vk_219 ?_
    rw [gF_11]
    refine r_aloadn dd_Mod_read_4 rfl ?_
    refine r_getI dd_Mod_read_5 fl_Mod_118 (kI := 8) rfl fi_Mod_8 vk_219 ?_
    rw [gF_o (Or.inr ⟨by decide, by decide⟩)]
    refine r_icmp_ge dd_Mod_read_8 (fun c_8 => ?_) (fun c_8 => ?_)
    · exfalso; omega
    · refine r_aloadn dd_Mod_read_11 rfl ?_
      refine r_getR dd_Mod_read_12 fl_Mod_25 (kI := 7) rfl fr_Mod_7 vk_219 R0_219_7 ?_
      refine r_aloadn dd_Mod_read_15 rfl ?_
      refine r_getI dd_Mod_read_16 fl_Mod_121 (kI := 11) rfl fi_Mod_11 vk_219 ?_
      rw [gF_11]
      refine r_iald dd_Mod_read_19 (q := 15) (by decide) vk_225 (by omega) (by show _ < ((60 : Nat) : Int); omega) ?_
      rw [gF_225, hv]
      refine r_goto dd_Mod_read_20 ?_
      refine r_istoren (L' := [_, _, _, _]) dd_Mod_read_24 rfl rfl ?_
      refine r_aloadn dd_Mod_read_25 rfl ?_
      refine r_aloadn dd_Mod_read_26 rfl ?_
      refine r_getI dd_Mod_read_27 fl_Mod_124 (kI := 12) rfl fi_Mod_12 vk_219 ?_
      rw [gF_12]
      refine r_if_ne dd_Mod_read_30 (fun c_30 => ?_) (fun c_30 => ?_)
      · exfalso; omega
      · refine r_iloadn dd_Mod_read_33 rfl ?_
        refine r_bip dd_Mod_read_34 ⟨by decide, by decide⟩ ?_
        refine r_icmp_eq dd_Mod_read_36 (fun c_36 => ?_) (fun c_36 => ?_)
        · exfalso; omega
        · refine r_iloadn dd_Mod_read_39 rfl ?_
          refine r_bip dd_Mod_read_40 ⟨by decide, by decide⟩ ?_
          refine r_icmp_eq dd_Mod_read_42 (fun c_42 => ?_) (fun c_42 => ?_)
          · exfalso; omega
          · refine r_iloadn dd_Mod_read_45 rfl ?_
            refine r_bip dd_Mod_read_46 ⟨by decide, by decide⟩ ?_
            refine r_icmp_eq dd_Mod_read_48 (fun c_48 => ?_) (fun c_48 => ?_)
            · exfalso; omega
            · refine r_iloadn dd_Mod_read_51 rfl ?_
              refine r_bip dd_Mod_read_52 ⟨by decide, by decide⟩ ?_
              refine r_icmp_eq dd_Mod_read_54 (fun c_54 => ?_) (fun c_54 => ?_)
              · exfalso; omega
              · refine r_iloadn dd_Mod_read_57 rfl ?_
                refine r_bip dd_Mod_read_58 ⟨by decide, by decide⟩ ?_
                refine r_icmp_eq dd_Mod_read_60 (fun c_60 => ?_) (fun c_60 => ?_)
                · exfalso; omega
                · refine r_iconst dd_Mod_read_63 ⟨by decide, by decide⟩ ?_
                  refine r_goto dd_Mod_read_64 ?_
                  refine r_putI dd_Mod_read_68 fl_Mod_124 (kI := 12) rfl fc_Mod_12 ff_Mod_12 (pb_Mod_12 (by first | exact b2_01 | omega)) vk_219 ?_
                  refine r_aloadn dd_Mod_read_71 rfl ?_
                  refine r_dup dd_Mod_read_72 ?_
                  refine r_getI dd_Mod_read_73 fl_Mod_121 (kI := 11) rfl fi_Mod_11 vk_219 ?_
                  rw [upM_ne (Or.inr (by decide)), gF_11]
                  refine r_aloadn dd_Mod_read_76 rfl ?_
                  refine r_getI dd_Mod_read_77 fl_Mod_124 (kI := 12) rfl fi_Mod_12 vk_219 ?_
                  rw [upM_eq]
                  refine r_if_eq dd_Mod_read_80 (fun c_80 => ?_) (fun c_80 => ?_)
                  · exfalso; omega
                  · refine r_iconst dd_Mod_read_83 ⟨by decide, by decide⟩ ?_
                    refine r_goto dd_Mod_read_84 ?_
                    refine r_iadd dd_Mod_read_88 ⟨by omega, by omega⟩ ?_
                    rw [Int.add_zero]
                    refine r_putI dd_Mod_read_89 fl_Mod_121 (kI := 11) rfl fc_Mod_11 ff_Mod_11 (pi_Mod_11 _) vk_219 ?_
                    rw [gF_s]
                    refine r_aloadn dd_Mod_read_92 rfl ?_
                    refine r_iloadn dd_Mod_read_93 rfl ?_
                    refine r_putI dd_Mod_read_94 fl_Mod_131 (kI := 13) rfl fc_Mod_13 ff_Mod_13 (pi_Mod_13 _) vk_219 ?_
                    rw [gF_u ⟨by decide, by decide⟩]
                    refine r_aloadn dd_Mod_read_97 rfl ?_
                    refine r_iloadn dd_Mod_read_98 rfl ?_
                    refine r_bip dd_Mod_read_99 ⟨by decide, by decide⟩ ?_
                    refine r_icmp_ne dd_Mod_read_101 (fun c_101 => ?_) (fun c_101 => ?_)
                    · refine r_iloadn dd_Mod_read_115 rfl ?_
                      refine r_bip dd_Mod_read_116 ⟨by decide, by decide⟩ ?_
                      refine r_icmp_ne dd_Mod_read_118 (fun c_118 => ?_) (fun c_118 => ?_)
                      · refine r_aloadn dd_Mod_read_125 rfl ?_
                        refine r_bip dd_Mod_read_126 ⟨by decide, by decide⟩ ?_
                        refine r_bip dd_Mod_read_128 ⟨by decide, by decide⟩ ?_
                        refine r_V2W dd_Mod_read_130 ml_Mod_128 ok_Mod_sign vi_Mod_sign vk_219 (by decide) (clS rfl (Nat.le_refl _) (rmOK_self _ _)) rfl c1 ?_
                        refine r_bip dd_Mod_read_133 ⟨by decide, by decide⟩ ?_
                        refine r_isub dd_Mod_read_135 ⟨by omega, by omega⟩ ?_
                        refine r_putI dd_Mod_read_136 fl_Mod_137 (kI := 14) rfl fc_Mod_14 ff_Mod_14 (pi_Mod_14 _) vk_219 ?_
                        rw [gF_u ⟨by decide, by decide⟩]
                        refine r_iloadn dd_Mod_read_139 rfl ?_
                        refine r_bip dd_Mod_read_140 ⟨by decide, by decide⟩ ?_
                        refine r_icmp_eq dd_Mod_read_142 (fun c_142 => ?_) (fun c_142 => ?_)
                        · exfalso; omega
                        · refine r_iloadn dd_Mod_read_145 rfl ?_
                          refine r_bip dd_Mod_read_146 ⟨by decide, by decide⟩ ?_
                          refine r_icmp_ne dd_Mod_read_148 (fun c_148 => ?_) (fun c_148 => ?_)
                          · refine r_iconst dd_Mod_read_155 ⟨by decide, by decide⟩ ?_
                            refine r_istoren (L' := [_, _, _, _]) dd_Mod_read_156 rfl rfl ?_
                            refine r_iloadn dd_Mod_read_157 rfl ?_
                            refine r_if_eq dd_Mod_read_158 (fun c_158 => ?_) (fun c_158 => ?_)
                            · refine r_iconst dd_Mod_read_172 ⟨by decide, by decide⟩ ?_
                              refine r_istoren (L' := [_, _, _, _]) dd_Mod_read_173 rfl rfl ?_
                              refine r_aloadn dd_Mod_read_174 rfl ?_
                              refine r_iloadn dd_Mod_read_175 rfl ?_
                              refine r_if_ne dd_Mod_read_176 (fun c_176 => ?_) (fun c_176 => ?_)
                              · exfalso; omega
                              · refine r_iconst dd_Mod_read_179 ⟨by decide, by decide⟩ ?_
                                refine r_goto dd_Mod_read_180 ?_
                                refine r_putI dd_Mod_read_207 fl_Mod_140 (kI := 15) rfl fc_Mod_15 ff_Mod_15 (pi_Mod_15 _) vk_219 ?_
                                rw [gF_u ⟨by decide, by decide⟩]
                                exact r_retV dd_Mod_read_210 rfl
                            · exfalso; omega
                          · exfalso; omega
                      · exfalso; omega
                    · exfalso; omega
  · have hv : z = 0 := by rw [← hs]; exact if_neg hlt
    subst hv
    refine r_aloadn dd_Mod_read_0 rfl ?_
    refine r_getI dd_Mod_read_1 fl_Mod_121 (kI := 11) rfl fi_Mod_11 vk_219 ?_
    rw [gF_11]
    refine r_aloadn dd_Mod_read_4 rfl ?_
    refine r_getI dd_Mod_read_5 fl_Mod_118 (kI := 8) rfl fi_Mod_8 vk_219 ?_
    rw [gF_o (Or.inr ⟨by decide, by decide⟩)]
    refine r_icmp_ge dd_Mod_read_8 (fun c_8 => ?_) (fun c_8 => ?_)
    · refine r_iconst dd_Mod_read_23 ⟨by decide, by decide⟩ ?_
      refine r_istoren (L' := [_, _, _, _]) dd_Mod_read_24 rfl rfl ?_
      refine r_aloadn dd_Mod_read_25 rfl ?_
      refine r_aloadn dd_Mod_read_26 rfl ?_
      refine r_getI dd_Mod_read_27 fl_Mod_124 (kI := 12) rfl fi_Mod_12 vk_219 ?_
      rw [gF_12]
      refine r_if_ne dd_Mod_read_30 (fun c_30 => ?_) (fun c_30 => ?_)
      · exfalso; omega
      · refine r_iloadn dd_Mod_read_33 rfl ?_
        refine r_bip dd_Mod_read_34 ⟨by decide, by decide⟩ ?_
        refine r_icmp_eq dd_Mod_read_36 (fun c_36 => ?_) (fun c_36 => ?_)
        · exfalso; omega
        · refine r_iloadn dd_Mod_read_39 rfl ?_
          refine r_bip dd_Mod_read_40 ⟨by decide, by decide⟩ ?_
          refine r_icmp_eq dd_Mod_read_42 (fun c_42 => ?_) (fun c_42 => ?_)
          · exfalso; omega
          · refine r_iloadn dd_Mod_read_45 rfl ?_
            refine r_bip dd_Mod_read_46 ⟨by decide, by decide⟩ ?_
            refine r_icmp_eq dd_Mod_read_48 (fun c_48 => ?_) (fun c_48 => ?_)
            · exfalso; omega
            · refine r_iloadn dd_Mod_read_51 rfl ?_
              refine r_bip dd_Mod_read_52 ⟨by decide, by decide⟩ ?_
              refine r_icmp_eq dd_Mod_read_54 (fun c_54 => ?_) (fun c_54 => ?_)
              · exfalso; omega
              · refine r_iloadn dd_Mod_read_57 rfl ?_
                refine r_bip dd_Mod_read_58 ⟨by decide, by decide⟩ ?_
                refine r_icmp_eq dd_Mod_read_60 (fun c_60 => ?_) (fun c_60 => ?_)
                · exfalso; omega
                · refine r_iconst dd_Mod_read_63 ⟨by decide, by decide⟩ ?_
                  refine r_goto dd_Mod_read_64 ?_
                  refine r_putI dd_Mod_read_68 fl_Mod_124 (kI := 12) rfl fc_Mod_12 ff_Mod_12 (pb_Mod_12 (by first | exact b2_01 | omega)) vk_219 ?_
                  refine r_aloadn dd_Mod_read_71 rfl ?_
                  refine r_dup dd_Mod_read_72 ?_
                  refine r_getI dd_Mod_read_73 fl_Mod_121 (kI := 11) rfl fi_Mod_11 vk_219 ?_
                  rw [upM_ne (Or.inr (by decide)), gF_11]
                  refine r_aloadn dd_Mod_read_76 rfl ?_
                  refine r_getI dd_Mod_read_77 fl_Mod_124 (kI := 12) rfl fi_Mod_12 vk_219 ?_
                  rw [upM_eq]
                  refine r_if_eq dd_Mod_read_80 (fun c_80 => ?_) (fun c_80 => ?_)
                  · exfalso; omega
                  · refine r_iconst dd_Mod_read_83 ⟨by decide, by decide⟩ ?_
                    refine r_goto dd_Mod_read_84 ?_
                    refine r_iadd dd_Mod_read_88 ⟨by omega, by omega⟩ ?_
                    rw [Int.add_zero]
                    refine r_putI dd_Mod_read_89 fl_Mod_121 (kI := 11) rfl fc_Mod_11 ff_Mod_11 (pi_Mod_11 _) vk_219 ?_
                    rw [gF_s]
                    refine r_aloadn dd_Mod_read_92 rfl ?_
                    refine r_iloadn dd_Mod_read_93 rfl ?_
                    refine r_putI dd_Mod_read_94 fl_Mod_131 (kI := 13) rfl fc_Mod_13 ff_Mod_13 (pi_Mod_13 _) vk_219 ?_
                    rw [gF_u ⟨by decide, by decide⟩]
                    refine r_aloadn dd_Mod_read_97 rfl ?_
                    refine r_iloadn dd_Mod_read_98 rfl ?_
                    refine r_bip dd_Mod_read_99 ⟨by decide, by decide⟩ ?_
                    refine r_icmp_ne dd_Mod_read_101 (fun c_101 => ?_) (fun c_101 => ?_)
                    · refine r_iloadn dd_Mod_read_115 rfl ?_
                      refine r_bip dd_Mod_read_116 ⟨by decide, by decide⟩ ?_
                      refine r_icmp_ne dd_Mod_read_118 (fun c_118 => ?_) (fun c_118 => ?_)
                      · refine r_aloadn dd_Mod_read_125 rfl ?_
                        refine r_bip dd_Mod_read_126 ⟨by decide, by decide⟩ ?_
                        refine r_bip dd_Mod_read_128 ⟨by decide, by decide⟩ ?_
                        refine r_V2W dd_Mod_read_130 ml_Mod_128 ok_Mod_sign vi_Mod_sign vk_219 (by decide) (clS rfl (Nat.le_refl _) (rmOK_self _ _)) rfl c1 ?_
                        refine r_bip dd_Mod_read_133 ⟨by decide, by decide⟩ ?_
                        refine r_isub dd_Mod_read_135 ⟨by omega, by omega⟩ ?_
                        refine r_putI dd_Mod_read_136 fl_Mod_137 (kI := 14) rfl fc_Mod_14 ff_Mod_14 (pi_Mod_14 _) vk_219 ?_
                        rw [gF_u ⟨by decide, by decide⟩]
                        refine r_iloadn dd_Mod_read_139 rfl ?_
                        refine r_bip dd_Mod_read_140 ⟨by decide, by decide⟩ ?_
                        refine r_icmp_eq dd_Mod_read_142 (fun c_142 => ?_) (fun c_142 => ?_)
                        · exfalso; omega
                        · refine r_iloadn dd_Mod_read_145 rfl ?_
                          refine r_bip dd_Mod_read_146 ⟨by decide, by decide⟩ ?_
                          refine r_icmp_ne dd_Mod_read_148 (fun c_148 => ?_) (fun c_148 => ?_)
                          · refine r_iconst dd_Mod_read_155 ⟨by decide, by decide⟩ ?_
                            refine r_istoren (L' := [_, _, _, _]) dd_Mod_read_156 rfl rfl ?_
                            refine r_iloadn dd_Mod_read_157 rfl ?_
                            refine r_if_eq dd_Mod_read_158 (fun c_158 => ?_) (fun c_158 => ?_)
                            · refine r_iconst dd_Mod_read_172 ⟨by decide, by decide⟩ ?_
                              refine r_istoren (L' := [_, _, _, _]) dd_Mod_read_173 rfl rfl ?_
                              refine r_aloadn dd_Mod_read_174 rfl ?_
                              refine r_iloadn dd_Mod_read_175 rfl ?_
                              refine r_if_ne dd_Mod_read_176 (fun c_176 => ?_) (fun c_176 => ?_)
                              · exfalso; omega
                              · refine r_iconst dd_Mod_read_179 ⟨by decide, by decide⟩ ?_
                                refine r_goto dd_Mod_read_180 ?_
                                refine r_putI dd_Mod_read_207 fl_Mod_140 (kI := 15) rfl fc_Mod_15 ff_Mod_15 (pi_Mod_15 _) vk_219 ?_
                                rw [gF_u ⟨by decide, by decide⟩]
                                exact r_retV dd_Mod_read_210 rfl
                            · exfalso; omega
                          · exfalso; omega
                      · exfalso; omega
                    · exfalso; omega
    · exfalso; omega
