/-! perform: the walks of both loops over commands that are done -/
theorem dgo_s {μ μ1 μ2 : Int → Int → Int} {k r : Int} (hk : 0 ≤ k ∧ k ≤ 100) (c : MetC mi_Mod_read [vR 219] (st μ) none (st μ1)) (cd : MetC mi_Mod_does [vR 219] (st μ1) (some (vI r)) (st μ2)) (hw : μ2 219 12 = 0) (hr : r ≠ 0) : SPW mi_Mod_go 226 19 [some (vR 219), some (vI 1), some (vI k), some (vI 1), none] [] (st μ) (some (vI (k + 0))) (st (upM μ2 219 16 r)) := by
  refine r_iloadn dd_Mod_go_19 rfl ?_
  refine r_if_eq dd_Mod_go_20 (fun c_20 => ?_) (fun c_20 => ?_)
  · exfalso; omega
  · refine r_aloadn dd_Mod_go_23 rfl ?_
    refine r_V0N dd_Mod_go_24 ml_Mod_146 ok_Mod_read vi_Mod_read vk_219 (by decide) (clS rfl (Nat.le_refl _) (rmOK_self _ _)) rfl c ?_
    refine r_aloadn dd_Mod_go_27 rfl ?_
    refine r_iloadn dd_Mod_go_28 rfl ?_
    refine r_if_eq dd_Mod_go_29 (fun c_29 => ?_) (fun c_29 => ?_)
    · exfalso; omega
    · refine r_aloadn dd_Mod_go_32 rfl ?_
      refine r_V0W dd_Mod_go_33 ml_Mod_149 ok_Mod_does vi_Mod_does vk_219 (by decide) (clS rfl (Nat.le_refl _) (rmOK_self _ _)) rfl cd ?_
      refine r_goto dd_Mod_go_36 ?_
      refine r_putI dd_Mod_go_40 fl_Mod_143 (kI := 16) rfl fc_Mod_16 ff_Mod_16 (pi_Mod_16 _) vk_219 ?_
      refine r_iloadn dd_Mod_go_43 rfl ?_
      refine r_aloadn dd_Mod_go_44 rfl ?_
      refine r_getI dd_Mod_go_45 fl_Mod_143 (kI := 16) rfl fi_Mod_16 vk_219 ?_
      rw [upM_eq]
      refine r_if_ne dd_Mod_go_48 (fun c_48 => ?_) (fun c_48 => ?_)
      · refine r_iconst dd_Mod_go_55 ⟨by decide, by decide⟩ ?_
        refine r_iadd dd_Mod_go_56 ⟨by omega, by omega⟩ ?_
        refine r_istoren (L' := [_, _, _, _, _]) dd_Mod_go_57 rfl rfl ?_
        refine r_aloadn dd_Mod_go_58 rfl ?_
        refine r_getI dd_Mod_go_59 fl_Mod_124 (kI := 12) rfl fi_Mod_12 vk_219 ?_
        rw [upM_ne (Or.inr (by decide)), hw]
        refine r_if_ne dd_Mod_go_62 (fun c_62 => ?_) (fun c_62 => ?_)
        · exfalso; omega
        · refine r_aloadn dd_Mod_go_65 rfl ?_
          refine r_getI dd_Mod_go_66 fl_Mod_143 (kI := 16) rfl fi_Mod_16 vk_219 ?_
          rw [upM_eq]
          refine r_if_ne dd_Mod_go_69 (fun c_69 => ?_) (fun c_69 => ?_)
          · refine r_iconst dd_Mod_go_87 ⟨by decide, by decide⟩ ?_
            refine r_istoren (L' := [_, _, _, _, _]) dd_Mod_go_88 rfl rfl ?_
            refine r_iloadn dd_Mod_go_89 rfl ?_
            refine r_if_eq dd_Mod_go_90 (fun c_90 => ?_) (fun c_90 => ?_)
            · refine r_iloadn dd_Mod_go_19 rfl ?_
              refine r_if_eq dd_Mod_go_20 (fun c_20 => ?_) (fun c_20 => ?_)
              · refine r_iloadn dd_Mod_go_119 rfl ?_
                exact r_retI dd_Mod_go_120 (by first | rfl | omega | exact (b2_t (by first | assumption | omega)).symm | exact (b2_f (by first | assumption | omega)).symm) rfl
              · exfalso; omega
            · exfalso; omega
          · exfalso; omega
      · exfalso; omega
theorem dgo_e {μ μ1 μ2 : Int → Int → Int} {k : Int} (hk : 0 ≤ k ∧ k ≤ 100) (c : MetC mi_Mod_read [vR 219] (st μ) none (st μ1)) (cd : MetC mi_Mod_does [vR 219] (st μ1) (some (vI 0)) (st μ2)) (hw : μ2 219 12 = 0) (hx : μ2 219 8 ≤ μ2 219 11) : SPW mi_Mod_go 226 19 [some (vR 219), some (vI 1), some (vI k), some (vI 1), none] [] (st μ) (some (vI (k + 1))) (st (upM μ2 219 16 0)) := by
  refine r_iloadn dd_Mod_go_19 rfl ?_
  refine r_if_eq dd_Mod_go_20 (fun c_20 => ?_) (fun c_20 => ?_)
  · exfalso; omega
  · refine r_aloadn dd_Mod_go_23 rfl ?_
    refine r_V0N dd_Mod_go_24 ml_Mod_146 ok_Mod_read vi_Mod_read vk_219 (by decide) (clS rfl (Nat.le_refl _) (rmOK_self _ _)) rfl c ?_
    refine r_aloadn dd_Mod_go_27 rfl ?_
    refine r_iloadn dd_Mod_go_28 rfl ?_
    refine r_if_eq dd_Mod_go_29 (fun c_29 => ?_) (fun c_29 => ?_)
    · exfalso; omega
    · refine r_aloadn dd_Mod_go_32 rfl ?_
      refine r_V0W dd_Mod_go_33 ml_Mod_149 ok_Mod_does vi_Mod_does vk_219 (by decide) (clS rfl (Nat.le_refl _) (rmOK_self _ _)) rfl cd ?_
      refine r_goto dd_Mod_go_36 ?_
      refine r_putI dd_Mod_go_40 fl_Mod_143 (kI := 16) rfl fc_Mod_16 ff_Mod_16 (pi_Mod_16 _) vk_219 ?_
      refine r_iloadn dd_Mod_go_43 rfl ?_
      refine r_aloadn dd_Mod_go_44 rfl ?_
      refine r_getI dd_Mod_go_45 fl_Mod_143 (kI := 16) rfl fi_Mod_16 vk_219 ?_
      rw [upM_eq]
      refine r_if_ne dd_Mod_go_48 (fun c_48 => ?_) (fun c_48 => ?_)
      · exfalso; omega
      · refine r_iconst dd_Mod_go_51 ⟨by decide, by decide⟩ ?_
        refine r_goto dd_Mod_go_52 ?_
        refine r_iadd dd_Mod_go_56 ⟨by omega, by omega⟩ ?_
        refine r_istoren (L' := [_, _, _, _, _]) dd_Mod_go_57 rfl rfl ?_
        refine r_aloadn dd_Mod_go_58 rfl ?_
        refine r_getI dd_Mod_go_59 fl_Mod_124 (kI := 12) rfl fi_Mod_12 vk_219 ?_
        rw [upM_ne (Or.inr (by decide)), hw]
        refine r_if_ne dd_Mod_go_62 (fun c_62 => ?_) (fun c_62 => ?_)
        · exfalso; omega
        · refine r_aloadn dd_Mod_go_65 rfl ?_
          refine r_getI dd_Mod_go_66 fl_Mod_143 (kI := 16) rfl fi_Mod_16 vk_219 ?_
          rw [upM_eq]
          refine r_if_ne dd_Mod_go_69 (fun c_69 => ?_) (fun c_69 => ?_)
          · exfalso; omega
          · refine r_aloadn dd_Mod_go_72 rfl ?_
            refine r_getI dd_Mod_go_73 fl_Mod_121 (kI := 11) rfl fi_Mod_11 vk_219 ?_
            rw [upM_ne (Or.inr (by decide))]
            refine r_aloadn dd_Mod_go_76 rfl ?_
            refine r_getI dd_Mod_go_77 fl_Mod_118 (kI := 8) rfl fi_Mod_8 vk_219 ?_
            rw [upM_ne (Or.inr (by decide))]
            refine r_icmp_ge dd_Mod_go_80 (fun c_80 => ?_) (fun c_80 => ?_)
            · refine r_iconst dd_Mod_go_87 ⟨by decide, by decide⟩ ?_
              refine r_istoren (L' := [_, _, _, _, _]) dd_Mod_go_88 rfl rfl ?_
              refine r_iloadn dd_Mod_go_89 rfl ?_
              refine r_if_eq dd_Mod_go_90 (fun c_90 => ?_) (fun c_90 => ?_)
              · refine r_iloadn dd_Mod_go_19 rfl ?_
                refine r_if_eq dd_Mod_go_20 (fun c_20 => ?_) (fun c_20 => ?_)
                · refine r_iloadn dd_Mod_go_119 rfl ?_
                  exact r_retI dd_Mod_go_120 (by first | rfl | omega | exact (b2_t (by first | assumption | omega)).symm | exact (b2_f (by first | assumption | omega)).symm) rfl
                · exfalso; omega
              · exfalso; omega
            · exfalso; omega
theorem dgo_c {μ μ1 μ2 : Int → Int → Int} {k : Int} (hk : 0 ≤ k ∧ k ≤ 100) (c : MetC mi_Mod_read [vR 219] (st μ) none (st μ1)) (cd : MetC mi_Mod_does [vR 219] (st μ1) (some (vI 0)) (st μ2)) (hw : μ2 219 12 = 0) {q : Int} {μ3 : Int → Int → Int} {R : Option Vv} {Mf : Mm} (hx : μ2 219 11 < μ2 219 8) (c2 : MetC mi_Mod_sign [vR 219, vI 44, vI 44] (st (upM μ2 219 16 0)) (some (vI q)) (st μ3)) (h3 : μ3 219 12 = 0) (kk : SPW mi_Mod_go 226 19 [some (vR 219), some (vI 1), some (vI (k + 1)), some (vI 1), none] [] (st μ3) R Mf) : SPW mi_Mod_go 226 19 [some (vR 219), some (vI 1), some (vI k), some (vI 1), none] [] (st μ) R Mf := by
  refine r_iloadn dd_Mod_go_19 rfl ?_
  refine r_if_eq dd_Mod_go_20 (fun c_20 => ?_) (fun c_20 => ?_)
  · exfalso; omega
  · refine r_aloadn dd_Mod_go_23 rfl ?_
    refine r_V0N dd_Mod_go_24 ml_Mod_146 ok_Mod_read vi_Mod_read vk_219 (by decide) (clS rfl (Nat.le_refl _) (rmOK_self _ _)) rfl c ?_
    refine r_aloadn dd_Mod_go_27 rfl ?_
    refine r_iloadn dd_Mod_go_28 rfl ?_
    refine r_if_eq dd_Mod_go_29 (fun c_29 => ?_) (fun c_29 => ?_)
    · exfalso; omega
    · refine r_aloadn dd_Mod_go_32 rfl ?_
      refine r_V0W dd_Mod_go_33 ml_Mod_149 ok_Mod_does vi_Mod_does vk_219 (by decide) (clS rfl (Nat.le_refl _) (rmOK_self _ _)) rfl cd ?_
      refine r_goto dd_Mod_go_36 ?_
      refine r_putI dd_Mod_go_40 fl_Mod_143 (kI := 16) rfl fc_Mod_16 ff_Mod_16 (pi_Mod_16 _) vk_219 ?_
      refine r_iloadn dd_Mod_go_43 rfl ?_
      refine r_aloadn dd_Mod_go_44 rfl ?_
      refine r_getI dd_Mod_go_45 fl_Mod_143 (kI := 16) rfl fi_Mod_16 vk_219 ?_
      rw [upM_eq]
      refine r_if_ne dd_Mod_go_48 (fun c_48 => ?_) (fun c_48 => ?_)
      · exfalso; omega
      · refine r_iconst dd_Mod_go_51 ⟨by decide, by decide⟩ ?_
        refine r_goto dd_Mod_go_52 ?_
        refine r_iadd dd_Mod_go_56 ⟨by omega, by omega⟩ ?_
        refine r_istoren (L' := [_, _, _, _, _]) dd_Mod_go_57 rfl rfl ?_
        refine r_aloadn dd_Mod_go_58 rfl ?_
        refine r_getI dd_Mod_go_59 fl_Mod_124 (kI := 12) rfl fi_Mod_12 vk_219 ?_
        rw [upM_ne (Or.inr (by decide)), hw]
        refine r_if_ne dd_Mod_go_62 (fun c_62 => ?_) (fun c_62 => ?_)
        · exfalso; omega
        · refine r_aloadn dd_Mod_go_65 rfl ?_
          refine r_getI dd_Mod_go_66 fl_Mod_143 (kI := 16) rfl fi_Mod_16 vk_219 ?_
          rw [upM_eq]
          refine r_if_ne dd_Mod_go_69 (fun c_69 => ?_) (fun c_69 => ?_)
          · exfalso; omega
          · refine r_aloadn dd_Mod_go_72 rfl ?_
            refine r_getI dd_Mod_go_73 fl_Mod_121 (kI := 11) rfl fi_Mod_11 vk_219 ?_
            rw [upM_ne (Or.inr (by decide))]
            refine r_aloadn dd_Mod_go_76 rfl ?_
            refine r_getI dd_Mod_go_77 fl_Mod_118 (kI := 8) rfl fi_Mod_8 vk_219 ?_
            rw [upM_ne (Or.inr (by decide))]
            refine r_icmp_ge dd_Mod_go_80 (fun c_80 => ?_) (fun c_80 => ?_)
            · exfalso; omega
            · refine r_iconst dd_Mod_go_83 ⟨by decide, by decide⟩ ?_
              refine r_goto dd_Mod_go_84 ?_
              refine r_istoren (L' := [_, _, _, _, _]) dd_Mod_go_88 rfl rfl ?_
              refine r_iloadn dd_Mod_go_89 rfl ?_
              refine r_if_eq dd_Mod_go_90 (fun c_90 => ?_) (fun c_90 => ?_)
              · exfalso; omega
              · refine r_aloadn dd_Mod_go_93 rfl ?_
                refine r_bip dd_Mod_go_94 ⟨by decide, by decide⟩ ?_
                refine r_bip dd_Mod_go_96 ⟨by decide, by decide⟩ ?_
                refine r_V2W dd_Mod_go_98 ml_Mod_128 ok_Mod_sign vi_Mod_sign vk_219 (by decide) (clS rfl (Nat.le_refl _) (rmOK_self _ _)) rfl c2 ?_
                refine r_istore (L' := [_, _, _, _, _]) dd_Mod_go_101 rfl rfl ?_
                refine r_aloadn dd_Mod_go_103 rfl ?_
                refine r_getI dd_Mod_go_104 fl_Mod_124 (kI := 12) rfl fi_Mod_12 vk_219 ?_
                rw [h3]
                refine r_if_ne dd_Mod_go_107 (fun c_107 => ?_) (fun c_107 => ?_)
                · exfalso; omega
                · refine r_iconst dd_Mod_go_110 ⟨by decide, by decide⟩ ?_
                  refine r_goto dd_Mod_go_111 ?_
                  refine r_istoren (L' := [_, _, _, _, _]) dd_Mod_go_115 rfl rfl ?_
                  refine r_goto dd_Mod_go_116 ?_
                  exact r_drop 4 kk
theorem per_c {F F1 : Int → Int → Int} {i N r : Int} {R : Option Vv} {Mf : Mm} (hi : 0 ≤ i) (hN : i < N) (h30 : N ≤ 30) (ca : MetC mi_Poo_answerTo [vR 0, vR (188 + i)] (st F) (some (vI r)) (st F1)) (hr : ¬ (r < 0 ∧ r ≠ -5)) (kk : SPW mi_Poo_perform 226 39 [some (vR 0), some (vI (-1)), some (vI N), some (vI (i + 1)), none] [] (st F1) R Mf) : SPW mi_Poo_perform 226 39 [some (vR 0), some (vI (-1)), some (vI N), some (vI i), none] [] (st F)  R Mf := by
  refine r_iloadn dd_Poo_perform_39 rfl ?_
  refine r_iloadn dd_Poo_perform_40 rfl ?_
  refine r_icmp_ge dd_Poo_perform_41 (fun c_41 => ?_) (fun c_41 => ?_)
  · exfalso; omega
  · refine r_aloadn dd_Poo_perform_44 rfl ?_
    refine r_aloadn dd_Poo_perform_45 rfl ?_
    refine r_getR dd_Poo_perform_46 fl_Poo_32 (kI := 5) rfl fr_Poo_5 vk_0 R0_0_5 ?_
    refine r_iloadn dd_Poo_perform_49 rfl ?_
    refine r_V1W dd_Poo_perform_50 ml_Poo_99 ok_Txt_commandAt vi_Txt_commandAt vk_185 (by decide) (clS rfl (Nat.le_refl _) (rmOK_self _ _)) rfl (c_Txt_commandAt ⟨hi, by omega⟩) ?_
    refine r_V1W dd_Poo_perform_53 ml_Poo_103 ok_Poo_answerTo vi_Poo_answerTo vk_0 (by decide) (clS rfl (Nat.le_refl _) (rmOK_self _ _)) rfl ca ?_
    refine r_istore (L' := [_, _, _, _, _]) dd_Poo_perform_56 rfl rfl ?_
    refine r_iload dd_Poo_perform_58 rfl ?_
    refine r_S1W dd_Poo_perform_60 ml_Poo_107 ok_Poo_isError st_Poo_isError (clS rfl (Nat.le_refl _) (rmOK_self _ _)) rfl c_Poo_isError ?_
    refine r_if_eq_b dd_Poo_perform_63 (fun c_63 => ?_) (fun c_63 => ?_)
    · refine r_iinc (L' := [_, _, _, _, _]) dd_Poo_perform_87 rfl ⟨by omega, by omega⟩ rfl ?_
      refine r_goto dd_Poo_perform_90 ?_
      exact r_drop 4 kk
    · exact absurd c_63 hr
theorem per_s {F F1 : Int → Int → Int} {i N r : Int} {R : Option Vv} {Mf : Mm} (hi : 0 ≤ i) (hN : i < N) (h30 : N ≤ 30) (ca : MetC mi_Poo_answerTo [vR 0, vR (188 + i)] (st F) (some (vI r)) (st F1)) (hr : r < 0 ∧ r ≠ -5) (kk : SPW mi_Poo_perform 226 66 [some (vR 0), some (vI (-1)), some (vI N), some (vI i), some (vI r)] [] (st F1) R Mf) : SPW mi_Poo_perform 226 39 [some (vR 0), some (vI (-1)), some (vI N), some (vI i), none] [] (st F)  R Mf := by
  refine r_iloadn dd_Poo_perform_39 rfl ?_
  refine r_iloadn dd_Poo_perform_40 rfl ?_
  refine r_icmp_ge dd_Poo_perform_41 (fun c_41 => ?_) (fun c_41 => ?_)
  · exfalso; omega
  · refine r_aloadn dd_Poo_perform_44 rfl ?_
    refine r_aloadn dd_Poo_perform_45 rfl ?_
    refine r_getR dd_Poo_perform_46 fl_Poo_32 (kI := 5) rfl fr_Poo_5 vk_0 R0_0_5 ?_
    refine r_iloadn dd_Poo_perform_49 rfl ?_
    refine r_V1W dd_Poo_perform_50 ml_Poo_99 ok_Txt_commandAt vi_Txt_commandAt vk_185 (by decide) (clS rfl (Nat.le_refl _) (rmOK_self _ _)) rfl (c_Txt_commandAt ⟨hi, by omega⟩) ?_
    refine r_V1W dd_Poo_perform_53 ml_Poo_103 ok_Poo_answerTo vi_Poo_answerTo vk_0 (by decide) (clS rfl (Nat.le_refl _) (rmOK_self _ _)) rfl ca ?_
    refine r_istore (L' := [_, _, _, _, _]) dd_Poo_perform_56 rfl rfl ?_
    refine r_iload dd_Poo_perform_58 rfl ?_
    refine r_S1W dd_Poo_perform_60 ml_Poo_107 ok_Poo_isError st_Poo_isError (clS rfl (Nat.le_refl _) (rmOK_self _ _)) rfl c_Poo_isError ?_
    refine r_if_eq_b dd_Poo_perform_63 (fun c_63 => ?_) (fun c_63 => ?_)
    · exact absurd hr c_63
    · exact kk
theorem per_e {F G : Int → Int → Int} {N : Int} (cr : MetC mi_Poo_recorded [vR 0, vI N] (st F) (some (vI N)) (st G)) : SPW mi_Poo_perform 226 39 [some (vR 0), some (vI (-1)), some (vI N), some (vI N), none] [] (st F) (some (vI N)) (st G) := by
  refine r_iloadn dd_Poo_perform_39 rfl ?_
  refine r_iloadn dd_Poo_perform_40 rfl ?_
  refine r_icmp_ge dd_Poo_perform_41 (fun c_41 => ?_) (fun c_41 => ?_)
  · refine r_aloadn dd_Poo_perform_93 rfl ?_
    refine r_iloadn dd_Poo_perform_94 rfl ?_
    refine r_V1W dd_Poo_perform_95 ml_Poo_55 ok_Poo_recorded vi_Poo_recorded vk_0 (by decide) (clS rfl (Nat.le_refl _) (rmOK_self _ _)) rfl cr ?_
    exact r_retI dd_Poo_perform_98 (by first | rfl | omega | exact (b2_t (by first | assumption | omega)).symm | exact (b2_f (by first | assumption | omega)).symm) rfl
  · exfalso; omega
theorem per_x {F G : Int → Int → Int} {i N r : Int} (c2 : MetC mi_Sta_copyFrom [vR 1, vR 27] (st (upM (upM (upM F 0 7 1) 0 8 i) 0 9 r)) none (st G)) : SPW mi_Poo_perform 226 66 [some (vR 0), some (vI (-1)), some (vI N), some (vI i), some (vI r)] [] (st F) (some (vI (-4))) (st G) := by
  refine r_aloadn dd_Poo_perform_66 rfl ?_
  refine r_iloadn dd_Poo_perform_67 rfl ?_
  refine r_iload dd_Poo_perform_68 rfl ?_
  refine r_V2N dd_Poo_perform_70 ml_Poo_111 ok_Poo_noteStop vi_Poo_noteStop vk_0 (by decide) (clS rfl (Nat.le_refl _) (rmOK_self _ _)) rfl c_Poo_noteStop ?_
  refine r_aloadn dd_Poo_perform_73 rfl ?_
  refine r_getR dd_Poo_perform_74 fl_Poo_10 (kI := 0) rfl fr_Poo_0 vk_0 R0_0_0 ?_
  refine r_aloadn dd_Poo_perform_77 rfl ?_
  refine r_getR dd_Poo_perform_78 fl_Poo_16 (kI := 1) rfl fr_Poo_1 vk_0 R0_0_1 ?_
  refine r_V1N dd_Poo_perform_81 ml_Poo_40 ok_Sta_copyFrom vi_Sta_copyFrom vk_1 (by decide) (clS rfl (Nat.le_refl _) (rmOK_self _ _)) rfl c2 ?_
  refine r_bip dd_Poo_perform_84 ⟨by decide, by decide⟩ ?_
  exact r_retI dd_Poo_perform_86 (by first | rfl | omega | exact (b2_t (by first | assumption | omega)).symm | exact (b2_f (by first | assumption | omega)).symm) rfl
theorem c_Poo_perform_o {μ : Int → Int → Int} {r N : Int} {G G1 F : Int → Int → Int} (c1 : MetC mi_Txt_read [vR 185] (st μ) (some (vI (-1))) (st G)) (c2 : MetC mi_Sta_copyFrom [vR 27, vR 1] (st G) none (st G1)) (hN : G1 185 3 = N) (kk : SPW mi_Poo_perform 226 39 [some (vR 0), some (vI (-1)), some (vI N), some (vI 0), none] [] (st G1) (some (vI r)) (st F)) : MetC mi_Poo_perform [vR 0] (st μ) (some (vI r)) (st (F)) := by
  refine met_of ?_ (Nat.le_of_ble_eq_true rfl) (by decide) trivial (by decide) (Nat.le_of_ble_eq_true rfl)
  show SPW mi_Poo_perform 226 0 [some (vR 0), none, none, none, none] [] (st μ) (some (vI r)) (st (F))
  refine r_aloadn dd_Poo_perform_0 rfl ?_
  refine r_getR dd_Poo_perform_1 fl_Poo_32 (kI := 5) rfl fr_Poo_5 vk_0 R0_0_5 ?_
  refine r_V0W dd_Poo_perform_4 ml_Poo_93 ok_Txt_read vi_Txt_read vk_185 (by decide) (clS rfl (Nat.le_refl _) (rmOK_self _ _)) rfl c1 ?_
  refine r_istoren (L' := [_, _, _, _, _]) dd_Poo_perform_7 rfl rfl ?_
  refine r_iloadn dd_Poo_perform_8 rfl ?_
  refine r_iconst dd_Poo_perform_9 ⟨by decide, by decide⟩ ?_
  refine r_icmp_eq dd_Poo_perform_10 (fun c_10 => ?_) (fun c_10 => ?_)
  · refine r_aloadn dd_Poo_perform_18 rfl ?_
    refine r_getR dd_Poo_perform_19 fl_Poo_16 (kI := 1) rfl fr_Poo_1 vk_0 R0_0_1 ?_
    refine r_aloadn dd_Poo_perform_22 rfl ?_
    refine r_getR dd_Poo_perform_23 fl_Poo_10 (kI := 0) rfl fr_Poo_0 vk_0 R0_0_0 ?_
    refine r_V1N dd_Poo_perform_26 ml_Poo_40 ok_Sta_copyFrom vi_Sta_copyFrom vk_27 (by decide) (clS rfl (Nat.le_refl _) (rmOK_self _ _)) rfl c2 ?_
    refine r_aloadn dd_Poo_perform_29 rfl ?_
    refine r_getR dd_Poo_perform_30 fl_Poo_32 (kI := 5) rfl fr_Poo_5 vk_0 R0_0_5 ?_
    refine r_V0W dd_Poo_perform_33 ml_Poo_96 ok_Txt_commandCount vi_Txt_commandCount vk_185 (by decide) (clS rfl (Nat.le_refl _) (rmOK_self _ _)) rfl c_Txt_commandCount ?_
    rw [hN]
    refine r_istoren (L' := [_, _, _, _, _]) dd_Poo_perform_36 rfl rfl ?_
    refine r_iconst dd_Poo_perform_37 ⟨by decide, by decide⟩ ?_
    refine r_istoren (L' := [_, _, _, _, _]) dd_Poo_perform_38 rfl rfl ?_
    exact kk
  · exfalso; omega
theorem c_Mod_perform_s {μ : Int → Int → Int} {k k2 e : Int} {F1 F2 F3 F4 : Int → Int → Int} (c1 : MetC mi_Mod_go [vR 219, vI 0] (st μ) (some (vI k)) (st F1)) (hw : F1 219 12 = 0) (c2 : MetC mi_Mod_putAside [vR 219] (st F1) none (st F2)) (c3 : MetC mi_Mod_go [vR 219, vI 1] (st F2) (some (vI k2)) (st F3)) (c4 : MetC mi_Mod_putBack [vR 219] (st F3) none (st F4)) (he : F4 219 16 = e) (h0 : e < 0) : MetC mi_Mod_perform [vR 219] (st μ) (some (vI (-4))) (st (upM (upM F4 219 9 k2) 219 10 e)) := by
  refine met_of ?_ (Nat.le_of_ble_eq_true rfl) (by decide) trivial (by decide) (Nat.le_of_ble_eq_true rfl)
  show SPW mi_Mod_perform 226 0 [some (vR 219), none] [] (st μ) (some (vI (-4))) (st (upM (upM F4 219 9 k2) 219 10 e))
  refine r_aloadn dd_Mod_perform_0 rfl ?_
  refine r_iconst dd_Mod_perform_1 ⟨by decide, by decide⟩ ?_
  refine r_V1W dd_Mod_perform_2 ml_Mod_152 ok_Mod_go vi_Mod_go vk_219 (by decide) (clS rfl (Nat.le_refl _) (rmOK_self _ _)) rfl c1 ?_
  refine r_istoren (L' := [_, _]) dd_Mod_perform_5 rfl rfl ?_
  refine r_aloadn dd_Mod_perform_6 rfl ?_
  refine r_getI dd_Mod_perform_7 fl_Mod_124 (kI := 12) rfl fi_Mod_12 vk_219 ?_
  rw [hw]
  refine r_if_eq dd_Mod_perform_10 (fun c_10 => ?_) (fun c_10 => ?_)
  · refine r_aloadn dd_Mod_perform_21 rfl ?_
    refine r_V0N dd_Mod_perform_22 ml_Mod_156 ok_Mod_putAside vi_Mod_putAside vk_219 (by decide) (clS rfl (Nat.le_refl _) (rmOK_self _ _)) rfl c2 ?_
    refine r_aloadn dd_Mod_perform_25 rfl ?_
    refine r_iconst dd_Mod_perform_26 ⟨by decide, by decide⟩ ?_
    refine r_V1W dd_Mod_perform_27 ml_Mod_152 ok_Mod_go vi_Mod_go vk_219 (by decide) (clS rfl (Nat.le_refl _) (rmOK_self _ _)) rfl c3 ?_
    refine r_istoren (L' := [_, _]) dd_Mod_perform_30 rfl rfl ?_
    refine r_aloadn dd_Mod_perform_31 rfl ?_
    refine r_V0N dd_Mod_perform_32 ml_Mod_159 ok_Mod_putBack vi_Mod_putBack vk_219 (by decide) (clS rfl (Nat.le_refl _) (rmOK_self _ _)) rfl c4 ?_
    refine r_aloadn dd_Mod_perform_35 rfl ?_
    refine r_getI dd_Mod_perform_36 fl_Mod_143 (kI := 16) rfl fi_Mod_16 vk_219 ?_
    rw [he]
    refine r_if_ge dd_Mod_perform_39 (fun c_39 => ?_) (fun c_39 => ?_)
    · exfalso; omega
    · refine r_aloadn dd_Mod_perform_42 rfl ?_
      refine r_iloadn dd_Mod_perform_43 rfl ?_
      refine r_putI dd_Mod_perform_44 fl_Mod_28 (kI := 9) rfl fc_Mod_9 ff_Mod_9 (pi_Mod_9 _) vk_219 ?_
      refine r_aloadn dd_Mod_perform_47 rfl ?_
      refine r_aloadn dd_Mod_perform_48 rfl ?_
      refine r_getI dd_Mod_perform_49 fl_Mod_143 (kI := 16) rfl fi_Mod_16 vk_219 ?_
      rw [upM_ne (Or.inr (by decide)), he]
      refine r_putI dd_Mod_perform_52 fl_Mod_32 (kI := 10) rfl fc_Mod_10 ff_Mod_10 (pi_Mod_10 _) vk_219 ?_
      refine r_bip dd_Mod_perform_55 ⟨by decide, by decide⟩ ?_
      exact r_retI dd_Mod_perform_57 (by first | rfl | omega | exact (b2_t (by first | assumption | omega)).symm | exact (b2_f (by first | assumption | omega)).symm) rfl
  · exfalso; omega
theorem c_Mod_perform_o {μ : Int → Int → Int} {k k2 e : Int} {F1 F2 F3 F4 : Int → Int → Int} (c1 : MetC mi_Mod_go [vR 219, vI 0] (st μ) (some (vI k)) (st F1)) (hw : F1 219 12 = 0) (c2 : MetC mi_Mod_putAside [vR 219] (st F1) none (st F2)) (c3 : MetC mi_Mod_go [vR 219, vI 1] (st F2) (some (vI k2)) (st F3)) (c4 : MetC mi_Mod_putBack [vR 219] (st F3) none (st F4)) (he : F4 219 16 = e) (h0 : 0 ≤ e) {k3 : Int} {F5 F6 : Int → Int → Int} (c5 : MetC mi_Mod_know [vR 219] (st F4) none (st F5)) (c6 : MetC mi_Mod_go [vR 219, vI 1] (st F5) (some (vI k3)) (st F6)) : MetC mi_Mod_perform [vR 219] (st μ) (some (vI k3)) (st (F6)) := by
  refine met_of ?_ (Nat.le_of_ble_eq_true rfl) (by decide) trivial (by decide) (Nat.le_of_ble_eq_true rfl)
  show SPW mi_Mod_perform 226 0 [some (vR 219), none] [] (st μ) (some (vI k3)) (st (F6))
  refine r_aloadn dd_Mod_perform_0 rfl ?_
  refine r_iconst dd_Mod_perform_1 ⟨by decide, by decide⟩ ?_
  refine r_V1W dd_Mod_perform_2 ml_Mod_152 ok_Mod_go vi_Mod_go vk_219 (by decide) (clS rfl (Nat.le_refl _) (rmOK_self _ _)) rfl c1 ?_
  refine r_istoren (L' := [_, _]) dd_Mod_perform_5 rfl rfl ?_
  refine r_aloadn dd_Mod_perform_6 rfl ?_
  refine r_getI dd_Mod_perform_7 fl_Mod_124 (kI := 12) rfl fi_Mod_12 vk_219 ?_
  rw [hw]
  refine r_if_eq dd_Mod_perform_10 (fun c_10 => ?_) (fun c_10 => ?_)
  · refine r_aloadn dd_Mod_perform_21 rfl ?_
    refine r_V0N dd_Mod_perform_22 ml_Mod_156 ok_Mod_putAside vi_Mod_putAside vk_219 (by decide) (clS rfl (Nat.le_refl _) (rmOK_self _ _)) rfl c2 ?_
    refine r_aloadn dd_Mod_perform_25 rfl ?_
    refine r_iconst dd_Mod_perform_26 ⟨by decide, by decide⟩ ?_
    refine r_V1W dd_Mod_perform_27 ml_Mod_152 ok_Mod_go vi_Mod_go vk_219 (by decide) (clS rfl (Nat.le_refl _) (rmOK_self _ _)) rfl c3 ?_
    refine r_istoren (L' := [_, _]) dd_Mod_perform_30 rfl rfl ?_
    refine r_aloadn dd_Mod_perform_31 rfl ?_
    refine r_V0N dd_Mod_perform_32 ml_Mod_159 ok_Mod_putBack vi_Mod_putBack vk_219 (by decide) (clS rfl (Nat.le_refl _) (rmOK_self _ _)) rfl c4 ?_
    refine r_aloadn dd_Mod_perform_35 rfl ?_
    refine r_getI dd_Mod_perform_36 fl_Mod_143 (kI := 16) rfl fi_Mod_16 vk_219 ?_
    rw [he]
    refine r_if_ge dd_Mod_perform_39 (fun c_39 => ?_) (fun c_39 => ?_)
    · refine r_aloadn dd_Mod_perform_58 rfl ?_
      refine r_V0N dd_Mod_perform_59 ml_Mod_90 ok_Mod_know vi_Mod_know vk_219 (by decide) (clS rfl (Nat.le_refl _) (rmOK_self _ _)) rfl c5 ?_
      refine r_aloadn dd_Mod_perform_62 rfl ?_
      refine r_iconst dd_Mod_perform_63 ⟨by decide, by decide⟩ ?_
      refine r_V1W dd_Mod_perform_64 ml_Mod_152 ok_Mod_go vi_Mod_go vk_219 (by decide) (clS rfl (Nat.le_refl _) (rmOK_self _ _)) rfl c6 ?_
      exact r_retI dd_Mod_perform_67 (by first | rfl | omega | exact (b2_t (by first | assumption | omega)).symm | exact (b2_f (by first | assumption | omega)).symm) rfl
    · exfalso; omega
  · exfalso; omega
