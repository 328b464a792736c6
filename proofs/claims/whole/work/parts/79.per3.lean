/-! the reference goes over a text without doing -/
theorem go_w {μ μ1 : Int → Int → Int} {x x1 k : Int} (hk : 0 ≤ k ∧ k ≤ 100) (c : MetC mi_Mod_read [vR 219] (st (gF μ x 0)) none (st (gF μ1 x1 1))) : SPW mi_Mod_go 226 19 [some (vR 219), some (vI 0), some (vI k), some (vI 1), none] [] (st (gF μ x 0)) (some (vI (k + 1))) (st (gF (upM μ1 219 16 0) x1 1)) := by
  refine r_iloadn dd_Mod_go_19 rfl ?_
  refine r_if_eq dd_Mod_go_20 (fun c_20 => ?_) (fun c_20 => ?_)
  · exfalso; omega
  · refine r_aloadn dd_Mod_go_23 rfl ?_
    refine r_V0N dd_Mod_go_24 ml_Mod_146 ok_Mod_read vi_Mod_read vk_219 (by decide) (clS rfl (Nat.le_refl _) (rmOK_self _ _)) rfl c ?_
    refine r_aloadn dd_Mod_go_27 rfl ?_
    refine r_iloadn dd_Mod_go_28 rfl ?_
    refine r_if_eq dd_Mod_go_29 (fun c_29 => ?_) (fun c_29 => ?_)
    · refine r_iconst dd_Mod_go_39 ⟨by decide, by decide⟩ ?_
      refine r_putI dd_Mod_go_40 fl_Mod_143 (kI := 16) rfl fc_Mod_16 ff_Mod_16 (pi_Mod_16 _) vk_219 ?_
      rw [gF_u ⟨by decide, by decide⟩]
      refine r_iloadn dd_Mod_go_43 rfl ?_
      refine r_aloadn dd_Mod_go_44 rfl ?_
      refine r_getI dd_Mod_go_45 fl_Mod_143 (kI := 16) rfl fi_Mod_16 vk_219 ?_
      rw [gF_o (Or.inr ⟨by decide, by decide⟩), upM_eq]
      refine r_if_ne dd_Mod_go_48 (fun c_48 => ?_) (fun c_48 => ?_)
      · exfalso; omega
      · refine r_iconst dd_Mod_go_51 ⟨by decide, by decide⟩ ?_
        refine r_goto dd_Mod_go_52 ?_
        refine r_iadd dd_Mod_go_56 ⟨by omega, by omega⟩ ?_
        refine r_istoren (L' := [_, _, _, _, _]) dd_Mod_go_57 rfl rfl ?_
        refine r_aloadn dd_Mod_go_58 rfl ?_
        refine r_getI dd_Mod_go_59 fl_Mod_124 (kI := 12) rfl fi_Mod_12 vk_219 ?_
        rw [gF_12]
        refine r_if_ne dd_Mod_go_62 (fun c_62 => ?_) (fun c_62 => ?_)
        · refine r_iconst dd_Mod_go_87 ⟨by decide, by decide⟩ ?_
          refine r_istoren (L' := [_, _, _, _, _]) dd_Mod_go_88 rfl rfl ?_
          refine r_iloadn dd_Mod_go_89 rfl ?_
          refine r_if_eq dd_Mod_go_90 (fun c_90 => ?_) (fun c_90 => ?_)
          · refine r_iloadn dd_Mod_go_19 rfl ?_
            refine r_if_eq dd_Mod_go_20 (fun c_20 => ?_) (fun c_20 => ?_)
            · refine r_iloadn dd_Mod_go_119 rfl ?_
              exact r_retI dd_Mod_go_120 (by first | rfl | omega | exact (b2_t (by first | assumption | omega)).symm | exact (b2_f (by first | assumption | omega)).symm) rfl
            · exfalso; omega
          · exfalso; omega
        · exfalso; omega
    · exfalso; omega
theorem go_e {μ μ1 : Int → Int → Int} {x x1 k : Int} (hk : 0 ≤ k ∧ k ≤ 100) (c : MetC mi_Mod_read [vR 219] (st (gF μ x 0)) none (st (gF μ1 x1 0))) (hx : μ1 219 8 ≤ x1) : SPW mi_Mod_go 226 19 [some (vR 219), some (vI 0), some (vI k), some (vI 1), none] [] (st (gF μ x 0)) (some (vI (k + 1))) (st (gF (upM μ1 219 16 0) x1 0)) := by
  refine r_iloadn dd_Mod_go_19 rfl ?_
  refine r_if_eq dd_Mod_go_20 (fun c_20 => ?_) (fun c_20 => ?_)
  · exfalso; omega
  · refine r_aloadn dd_Mod_go_23 rfl ?_
    refine r_V0N dd_Mod_go_24 ml_Mod_146 ok_Mod_read vi_Mod_read vk_219 (by decide) (clS rfl (Nat.le_refl _) (rmOK_self _ _)) rfl c ?_
    refine r_aloadn dd_Mod_go_27 rfl ?_
    refine r_iloadn dd_Mod_go_28 rfl ?_
    refine r_if_eq dd_Mod_go_29 (fun c_29 => ?_) (fun c_29 => ?_)
    · refine r_iconst dd_Mod_go_39 ⟨by decide, by decide⟩ ?_
      refine r_putI dd_Mod_go_40 fl_Mod_143 (kI := 16) rfl fc_Mod_16 ff_Mod_16 (pi_Mod_16 _) vk_219 ?_
      rw [gF_u ⟨by decide, by decide⟩]
      refine r_iloadn dd_Mod_go_43 rfl ?_
      refine r_aloadn dd_Mod_go_44 rfl ?_
      refine r_getI dd_Mod_go_45 fl_Mod_143 (kI := 16) rfl fi_Mod_16 vk_219 ?_
      rw [gF_o (Or.inr ⟨by decide, by decide⟩), upM_eq]
      refine r_if_ne dd_Mod_go_48 (fun c_48 => ?_) (fun c_48 => ?_)
      · exfalso; omega
      · refine r_iconst dd_Mod_go_51 ⟨by decide, by decide⟩ ?_
        refine r_goto dd_Mod_go_52 ?_
        refine r_iadd dd_Mod_go_56 ⟨by omega, by omega⟩ ?_
        refine r_istoren (L' := [_, _, _, _, _]) dd_Mod_go_57 rfl rfl ?_
        refine r_aloadn dd_Mod_go_58 rfl ?_
        refine r_getI dd_Mod_go_59 fl_Mod_124 (kI := 12) rfl fi_Mod_12 vk_219 ?_
        rw [gF_12]
        refine r_if_ne dd_Mod_go_62 (fun c_62 => ?_) (fun c_62 => ?_)
        · exfalso; omega
        · refine r_aloadn dd_Mod_go_65 rfl ?_
          refine r_getI dd_Mod_go_66 fl_Mod_143 (kI := 16) rfl fi_Mod_16 vk_219 ?_
          rw [gF_o (Or.inr ⟨by decide, by decide⟩), upM_eq]
          refine r_if_ne dd_Mod_go_69 (fun c_69 => ?_) (fun c_69 => ?_)
          · exfalso; omega
          · refine r_aloadn dd_Mod_go_72 rfl ?_
            refine r_getI dd_Mod_go_73 fl_Mod_121 (kI := 11) rfl fi_Mod_11 vk_219 ?_
            rw [gF_11]
            refine r_aloadn dd_Mod_go_76 rfl ?_
            refine r_getI dd_Mod_go_77 fl_Mod_118 (kI := 8) rfl fi_Mod_8 vk_219 ?_
            rw [gF_o (Or.inr ⟨by decide, by decide⟩), upM_ne (Or.inr (by decide))]
            refine r_icmp_ge dd_Mod_go_80 (fun c_80 => ?_) (fun c_80 => ?_)
            · refine r_iconst dd_Mod_go_87 ⟨by decide, by decide⟩ ?_
              refine r_istoren (L' := [_, _, _, _, _]) dd_Mod_go_88 rfl rfl ?_
              refine r_iloadn dd_Mod_go_89 rfl ?_
              refine r_if_eq dd_Mod_go_90 (fun c_90 => ?_) (fun c_90 => ?_)
              · refine r_iloadn dd_Mod_go_19 rfl ?_
                refine r_if_eq dd_Mod_go_20 (fun c_20 => ?_) (fun c_20 => ?_)
                · refine r_iloadn dd_Mod_go_119 rfl ?_
                  exact r_retI dd_Mod_go_120 (by first | rfl | omega | exact (b2_t (by first | assumption | omega)).symm | exact (b2_f (by first | assumption | omega)).symm) rfl
                · exfalso; omega
              · exfalso; omega
            · exfalso; omega
    · exfalso; omega
theorem go_n {μ μ1 : Int → Int → Int} {x x1 k : Int} (hk : 0 ≤ k ∧ k ≤ 100) (c : MetC mi_Mod_read [vR 219] (st (gF μ x 0)) none (st (gF μ1 x1 0))) {r : Int} (hx : x1 < μ1 219 8) (c2 : MetC mi_Mod_sign [vR 219, vI 44, vI 44] (st (gF (upM μ1 219 16 0) x1 0)) (some (vI r)) (st (gF (upM μ1 219 16 0) x1 1))) : SPW mi_Mod_go 226 19 [some (vR 219), some (vI 0), some (vI k), some (vI 1), none] [] (st (gF μ x 0)) (some (vI (k + 1))) (st (gF (upM μ1 219 16 0) x1 1)) := by
  refine r_iloadn dd_Mod_go_19 rfl ?_
  refine r_if_eq dd_Mod_go_20 (fun c_20 => ?_) (fun c_20 => ?_)
  · exfalso; omega
  · refine r_aloadn dd_Mod_go_23 rfl ?_
    refine r_V0N dd_Mod_go_24 ml_Mod_146 ok_Mod_read vi_Mod_read vk_219 (by decide) (clS rfl (Nat.le_refl _) (rmOK_self _ _)) rfl c ?_
    refine r_aloadn dd_Mod_go_27 rfl ?_
    refine r_iloadn dd_Mod_go_28 rfl ?_
    refine r_if_eq dd_Mod_go_29 (fun c_29 => ?_) (fun c_29 => ?_)
    · refine r_iconst dd_Mod_go_39 ⟨by decide, by decide⟩ ?_
      refine r_putI dd_Mod_go_40 fl_Mod_143 (kI := 16) rfl fc_Mod_16 ff_Mod_16 (pi_Mod_16 _) vk_219 ?_
      rw [gF_u ⟨by decide, by decide⟩]
      refine r_iloadn dd_Mod_go_43 rfl ?_
      refine r_aloadn dd_Mod_go_44 rfl ?_
      refine r_getI dd_Mod_go_45 fl_Mod_143 (kI := 16) rfl fi_Mod_16 vk_219 ?_
      rw [gF_o (Or.inr ⟨by decide, by decide⟩), upM_eq]
      refine r_if_ne dd_Mod_go_48 (fun c_48 => ?_) (fun c_48 => ?_)
      · exfalso; omega
      · refine r_iconst dd_Mod_go_51 ⟨by decide, by decide⟩ ?_
        refine r_goto dd_Mod_go_52 ?_
        refine r_iadd dd_Mod_go_56 ⟨by omega, by omega⟩ ?_
        refine r_istoren (L' := [_, _, _, _, _]) dd_Mod_go_57 rfl rfl ?_
        refine r_aloadn dd_Mod_go_58 rfl ?_
        refine r_getI dd_Mod_go_59 fl_Mod_124 (kI := 12) rfl fi_Mod_12 vk_219 ?_
        rw [gF_12]
        refine r_if_ne dd_Mod_go_62 (fun c_62 => ?_) (fun c_62 => ?_)
        · exfalso; omega
        · refine r_aloadn dd_Mod_go_65 rfl ?_
          refine r_getI dd_Mod_go_66 fl_Mod_143 (kI := 16) rfl fi_Mod_16 vk_219 ?_
          rw [gF_o (Or.inr ⟨by decide, by decide⟩), upM_eq]
          refine r_if_ne dd_Mod_go_69 (fun c_69 => ?_) (fun c_69 => ?_)
          · exfalso; omega
          · refine r_aloadn dd_Mod_go_72 rfl ?_
            refine r_getI dd_Mod_go_73 fl_Mod_121 (kI := 11) rfl fi_Mod_11 vk_219 ?_
            rw [gF_11]
            refine r_aloadn dd_Mod_go_76 rfl ?_
            refine r_getI dd_Mod_go_77 fl_Mod_118 (kI := 8) rfl fi_Mod_8 vk_219 ?_
            rw [gF_o (Or.inr ⟨by decide, by decide⟩), upM_ne (Or.inr (by decide))]
            refine r_icmp_ge dd_Mod_go_80 (fun c_80 => ?_) (fun c_80 => ?_)
            · exfalso; omega
            · refine r_iconst dd_Mod_go_83 ⟨by decide, by decide⟩ ?_
              refine r_goto dd_Mod_go_84 ?_
              refine r_istoren (L' := [_, _, _, _, _]) dd_Mod_go_88 rfl rfl ?_
              refine r_iloadn dd_Mod_go_89 rfl ?_
              refine r_if_eq dd_Mod_go_90 (fun c_90 => ?_) (fun c_90 => ?_)
              · exfalso; omega
              · refine r_aloadn dd_Mod_go_93 rfl ?_
                refine r_bip dd_Mod_go_94 ⟨by decide, by decide⟩ ?_
                refine r_bip dd_Mod_go_96 ⟨by decide, by decide⟩ ?_
                refine r_V2W dd_Mod_go_98 ml_Mod_128 ok_Mod_sign vi_Mod_sign vk_219 (by decide) (clS rfl (Nat.le_refl _) (rmOK_self _ _)) rfl c2 ?_
                refine r_istore (L' := [_, _, _, _, _]) dd_Mod_go_101 rfl rfl ?_
                refine r_aloadn dd_Mod_go_103 rfl ?_
                refine r_getI dd_Mod_go_104 fl_Mod_124 (kI := 12) rfl fi_Mod_12 vk_219 ?_
                rw [gF_12]
                refine r_if_ne dd_Mod_go_107 (fun c_107 => ?_) (fun c_107 => ?_)
                · refine r_iconst dd_Mod_go_114 ⟨by decide, by decide⟩ ?_
                  refine r_istoren (L' := [_, _, _, _, _]) dd_Mod_go_115 rfl rfl ?_
                  refine r_goto dd_Mod_go_116 ?_
                  refine r_iloadn dd_Mod_go_19 rfl ?_
                  refine r_if_eq dd_Mod_go_20 (fun c_20 => ?_) (fun c_20 => ?_)
                  · refine r_iloadn dd_Mod_go_119 rfl ?_
                    exact r_retI dd_Mod_go_120 (by first | rfl | omega | exact (b2_t (by first | assumption | omega)).symm | exact (b2_f (by first | assumption | omega)).symm) rfl
                  · exfalso; omega
                · exfalso; omega
    · exfalso; omega
theorem go_c {μ μ1 : Int → Int → Int} {x x1 k : Int} (hk : 0 ≤ k ∧ k ≤ 100) (c : MetC mi_Mod_read [vR 219] (st (gF μ x 0)) none (st (gF μ1 x1 0))) {r : Int} {R : Option Vv} {Mf : Mm} (hx : x1 < μ1 219 8) (c2 : MetC mi_Mod_sign [vR 219, vI 44, vI 44] (st (gF (upM μ1 219 16 0) x1 0)) (some (vI r)) (st (gF (upM μ1 219 16 0) (x1 + 1) 0))) (kk : SPW mi_Mod_go 226 19 [some (vR 219), some (vI 0), some (vI (k + 1)), some (vI 1), none] [] (st (gF (upM μ1 219 16 0) (x1 + 1) 0)) R Mf) : SPW mi_Mod_go 226 19 [some (vR 219), some (vI 0), some (vI k), some (vI 1), none] [] (st (gF μ x 0)) R Mf := by
  refine r_iloadn dd_Mod_go_19 rfl ?_
  refine r_if_eq dd_Mod_go_20 (fun c_20 => ?_) (fun c_20 => ?_)
  · exfalso; omega
  · refine r_aloadn dd_Mod_go_23 rfl ?_
    refine r_V0N dd_Mod_go_24 ml_Mod_146 ok_Mod_read vi_Mod_read vk_219 (by decide) (clS rfl (Nat.le_refl _) (rmOK_self _ _)) rfl c ?_
    refine r_aloadn dd_Mod_go_27 rfl ?_
    refine r_iloadn dd_Mod_go_28 rfl ?_
    refine r_if_eq dd_Mod_go_29 (fun c_29 => ?_) (fun c_29 => ?_)
    · refine r_iconst dd_Mod_go_39 ⟨by decide, by decide⟩ ?_
      refine r_putI dd_Mod_go_40 fl_Mod_143 (kI := 16) rfl fc_Mod_16 ff_Mod_16 (pi_Mod_16 _) vk_219 ?_
      rw [gF_u ⟨by decide, by decide⟩]
      refine r_iloadn dd_Mod_go_43 rfl ?_
      refine r_aloadn dd_Mod_go_44 rfl ?_
      refine r_getI dd_Mod_go_45 fl_Mod_143 (kI := 16) rfl fi_Mod_16 vk_219 ?_
      rw [gF_o (Or.inr ⟨by decide, by decide⟩), upM_eq]
      refine r_if_ne dd_Mod_go_48 (fun c_48 => ?_) (fun c_48 => ?_)
      · exfalso; omega
      · refine r_iconst dd_Mod_go_51 ⟨by decide, by decide⟩ ?_
        refine r_goto dd_Mod_go_52 ?_
        refine r_iadd dd_Mod_go_56 ⟨by omega, by omega⟩ ?_
        refine r_istoren (L' := [_, _, _, _, _]) dd_Mod_go_57 rfl rfl ?_
        refine r_aloadn dd_Mod_go_58 rfl ?_
        refine r_getI dd_Mod_go_59 fl_Mod_124 (kI := 12) rfl fi_Mod_12 vk_219 ?_
        rw [gF_12]
        refine r_if_ne dd_Mod_go_62 (fun c_62 => ?_) (fun c_62 => ?_)
        · exfalso; omega
        · refine r_aloadn dd_Mod_go_65 rfl ?_
          refine r_getI dd_Mod_go_66 fl_Mod_143 (kI := 16) rfl fi_Mod_16 vk_219 ?_
          rw [gF_o (Or.inr ⟨by decide, by decide⟩), upM_eq]
          refine r_if_ne dd_Mod_go_69 (fun c_69 => ?_) (fun c_69 => ?_)
          · exfalso; omega
          · refine r_aloadn dd_Mod_go_72 rfl ?_
            refine r_getI dd_Mod_go_73 fl_Mod_121 (kI := 11) rfl fi_Mod_11 vk_219 ?_
            rw [gF_11]
            refine r_aloadn dd_Mod_go_76 rfl ?_
            refine r_getI dd_Mod_go_77 fl_Mod_118 (kI := 8) rfl fi_Mod_8 vk_219 ?_
            rw [gF_o (Or.inr ⟨by decide, by decide⟩), upM_ne (Or.inr (by decide))]
            refine r_icmp_ge dd_Mod_go_80 (fun c_80 => ?_) (fun c_80 => ?_)
            · exfalso; omega
            · refine r_iconst dd_Mod_go_83 ⟨by decide, by decide⟩ ?_
              refine r_goto dd_Mod_go_84 ?_
              refine r_istoren (L' := [_, _, _, _, _]) dd_Mod_go_88 rfl rfl ?_
              refine r_iloadn dd_Mod_go_89 rfl ?_
              refine r_if_eq dd_Mod_go_90 (fun c_90 => ?_) (fun c_90 => ?_)
              · exfalso; omega
              · refine r_aloadn dd_Mod_go_93 rfl ?_
                refine r_bip dd_Mod_go_94 ⟨by decide, by decide⟩ ?_
                refine r_bip dd_Mod_go_96 ⟨by decide, by decide⟩ ?_
                refine r_V2W dd_Mod_go_98 ml_Mod_128 ok_Mod_sign vi_Mod_sign vk_219 (by decide) (clS rfl (Nat.le_refl _) (rmOK_self _ _)) rfl c2 ?_
                refine r_istore (L' := [_, _, _, _, _]) dd_Mod_go_101 rfl rfl ?_
                refine r_aloadn dd_Mod_go_103 rfl ?_
                refine r_getI dd_Mod_go_104 fl_Mod_124 (kI := 12) rfl fi_Mod_12 vk_219 ?_
                rw [gF_12]
                refine r_if_ne dd_Mod_go_107 (fun c_107 => ?_) (fun c_107 => ?_)
                · exfalso; omega
                · refine r_iconst dd_Mod_go_110 ⟨by decide, by decide⟩ ?_
                  refine r_goto dd_Mod_go_111 ?_
                  refine r_istoren (L' := [_, _, _, _, _]) dd_Mod_go_115 rfl rfl ?_
                  refine r_goto dd_Mod_go_116 ?_
                  exact r_drop 4 kk
    · exfalso; omega
