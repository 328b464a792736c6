/-! the reference does a command -/
theorem c_Mod_does_a_e {μ : Int → Int → Int} {r v z : Int} {F : Int → Int → Int} (hz : μ 219 13 = z) (z0 : z = 97) (c1 : MetC mi_Mod_askFault [vR 219, vI (μ 219 14), vI (μ 219 15)] (st μ) (some (vI r)) (st μ)) (hr : r < 0) : MetC mi_Mod_does [vR 219] (st μ) (some (vI r)) (st (μ)) := by
  refine met_of ?_ (Nat.le_of_ble_eq_true rfl) (by decide) trivial (by decide) (Nat.le_of_ble_eq_true rfl)
  show SPW mi_Mod_does 226 0 [some (vR 219), none, none, none] [] (st μ) (some (vI r)) (st (μ))
  refine r_aloadn dd_Mod_does_0 rfl ?_
  refine r_getI dd_Mod_does_1 fl_Mod_131 (kI := 13) rfl fi_Mod_13 vk_219 ?_
  rw [hz]
  refine r_istoren (L' := [_, _, _, _]) dd_Mod_does_4 rfl rfl ?_
  refine r_iloadn dd_Mod_does_5 rfl ?_
  refine r_bip dd_Mod_does_6 ⟨by decide, by decide⟩ ?_
  refine r_icmp_ne dd_Mod_does_8 (fun c_8 => ?_) (fun c_8 => ?_)
  · exfalso; omega
  · refine r_aloadn dd_Mod_does_11 rfl ?_
    refine r_aloadn dd_Mod_does_12 rfl ?_
    refine r_getI dd_Mod_does_13 fl_Mod_137 (kI := 14) rfl fi_Mod_14 vk_219 ?_
    refine r_aloadn dd_Mod_does_16 rfl ?_
    refine r_getI dd_Mod_does_17 fl_Mod_140 (kI := 15) rfl fi_Mod_15 vk_219 ?_
    refine r_V2W dd_Mod_does_20 ml_Mod_87 ok_Mod_askFault vi_Mod_askFault vk_219 (by decide) (clS rfl (Nat.le_refl _) (rmOK_self _ _)) rfl c1 ?_
    refine r_goto dd_Mod_does_23 ?_
    refine r_istoren (L' := [_, _, _, _]) dd_Mod_does_65 rfl rfl ?_
    refine r_iloadn dd_Mod_does_66 rfl ?_
    refine r_if_ge dd_Mod_does_67 (fun c_67 => ?_) (fun c_67 => ?_)
    · exfalso; omega
    · refine r_iloadn dd_Mod_does_70 rfl ?_
      exact r_retI dd_Mod_does_71 (by first | rfl | omega | exact (b2_t (by first | assumption | omega)).symm | exact (b2_f (by first | assumption | omega)).symm) rfl
theorem c_Mod_does_a_o {μ : Int → Int → Int} {r v z : Int} {F : Int → Int → Int} (hz : μ 219 13 = z) (z0 : z = 97) (c1 : MetC mi_Mod_askFault [vR 219, vI (μ 219 14), vI (μ 219 15)] (st μ) (some (vI r)) (st μ)) (hr : 0 ≤ r) (c2 : MetC mi_Mod_asks [vR 219, vI (μ 219 14), vI (μ 219 15)] (st μ) (some (vI v)) (st F)) : MetC mi_Mod_does [vR 219] (st μ) (some (vI 0)) (st (F)) := by
  refine met_of ?_ (Nat.le_of_ble_eq_true rfl) (by decide) trivial (by decide) (Nat.le_of_ble_eq_true rfl)
  show SPW mi_Mod_does 226 0 [some (vR 219), none, none, none] [] (st μ) (some (vI 0)) (st (F))
  refine r_aloadn dd_Mod_does_0 rfl ?_
  refine r_getI dd_Mod_does_1 fl_Mod_131 (kI := 13) rfl fi_Mod_13 vk_219 ?_
  rw [hz]
  refine r_istoren (L' := [_, _, _, _]) dd_Mod_does_4 rfl rfl ?_
  refine r_iloadn dd_Mod_does_5 rfl ?_
  refine r_bip dd_Mod_does_6 ⟨by decide, by decide⟩ ?_
  refine r_icmp_ne dd_Mod_does_8 (fun c_8 => ?_) (fun c_8 => ?_)
  · exfalso; omega
  · refine r_aloadn dd_Mod_does_11 rfl ?_
    refine r_aloadn dd_Mod_does_12 rfl ?_
    refine r_getI dd_Mod_does_13 fl_Mod_137 (kI := 14) rfl fi_Mod_14 vk_219 ?_
    refine r_aloadn dd_Mod_does_16 rfl ?_
    refine r_getI dd_Mod_does_17 fl_Mod_140 (kI := 15) rfl fi_Mod_15 vk_219 ?_
    refine r_V2W dd_Mod_does_20 ml_Mod_87 ok_Mod_askFault vi_Mod_askFault vk_219 (by decide) (clS rfl (Nat.le_refl _) (rmOK_self _ _)) rfl c1 ?_
    refine r_goto dd_Mod_does_23 ?_
    refine r_istoren (L' := [_, _, _, _]) dd_Mod_does_65 rfl rfl ?_
    refine r_iloadn dd_Mod_does_66 rfl ?_
    refine r_if_ge dd_Mod_does_67 (fun c_67 => ?_) (fun c_67 => ?_)
    · refine r_iloadn dd_Mod_does_72 rfl ?_
      refine r_bip dd_Mod_does_73 ⟨by decide, by decide⟩ ?_
      refine r_icmp_ne dd_Mod_does_75 (fun c_75 => ?_) (fun c_75 => ?_)
      · exfalso; omega
      · refine r_aloadn dd_Mod_does_78 rfl ?_
        refine r_aloadn dd_Mod_does_79 rfl ?_
        refine r_getI dd_Mod_does_80 fl_Mod_137 (kI := 14) rfl fi_Mod_14 vk_219 ?_
        refine r_aloadn dd_Mod_does_83 rfl ?_
        refine r_getI dd_Mod_does_84 fl_Mod_140 (kI := 15) rfl fi_Mod_15 vk_219 ?_
        refine r_V2W dd_Mod_does_87 ml_Mod_93 ok_Mod_asks vi_Mod_asks vk_219 (by decide) (clS rfl (Nat.le_refl _) (rmOK_self _ _)) rfl c2 ?_
        refine r_goto dd_Mod_does_90 ?_
        refine r_istoren (L' := [_, _, _, _]) dd_Mod_does_157 rfl rfl ?_
        refine r_iconst dd_Mod_does_158 ⟨by decide, by decide⟩ ?_
        exact r_retI dd_Mod_does_159 (by first | rfl | omega | exact (b2_t (by first | assumption | omega)).symm | exact (b2_f (by first | assumption | omega)).symm) rfl
    · exfalso; omega
theorem c_Mod_does_b_e {μ : Int → Int → Int} {r v z : Int} {F : Int → Int → Int} (hz : μ 219 13 = z) (z0 : z = 102) (c1 : MetC mi_Mod_backFault [vR 219, vI (μ 219 14), vI (μ 219 15)] (st μ) (some (vI r)) (st μ)) (hr : r < 0) : MetC mi_Mod_does [vR 219] (st μ) (some (vI r)) (st (μ)) := by
  refine met_of ?_ (Nat.le_of_ble_eq_true rfl) (by decide) trivial (by decide) (Nat.le_of_ble_eq_true rfl)
  show SPW mi_Mod_does 226 0 [some (vR 219), none, none, none] [] (st μ) (some (vI r)) (st (μ))
  refine r_aloadn dd_Mod_does_0 rfl ?_
  refine r_getI dd_Mod_does_1 fl_Mod_131 (kI := 13) rfl fi_Mod_13 vk_219 ?_
  rw [hz]
  refine r_istoren (L' := [_, _, _, _]) dd_Mod_does_4 rfl rfl ?_
  refine r_iloadn dd_Mod_does_5 rfl ?_
  refine r_bip dd_Mod_does_6 ⟨by decide, by decide⟩ ?_
  refine r_icmp_ne dd_Mod_does_8 (fun c_8 => ?_) (fun c_8 => ?_)
  · refine r_iloadn dd_Mod_does_26 rfl ?_
    refine r_bip dd_Mod_does_27 ⟨by decide, by decide⟩ ?_
    refine r_icmp_ne dd_Mod_does_29 (fun c_29 => ?_) (fun c_29 => ?_)
    · exfalso; omega
    · refine r_aloadn dd_Mod_does_32 rfl ?_
      refine r_aloadn dd_Mod_does_33 rfl ?_
      refine r_getI dd_Mod_does_34 fl_Mod_137 (kI := 14) rfl fi_Mod_14 vk_219 ?_
      refine r_aloadn dd_Mod_does_37 rfl ?_
      refine r_getI dd_Mod_does_38 fl_Mod_140 (kI := 15) rfl fi_Mod_15 vk_219 ?_
      refine r_V2W dd_Mod_does_41 ml_Mod_96 ok_Mod_backFault vi_Mod_backFault vk_219 (by decide) (clS rfl (Nat.le_refl _) (rmOK_self _ _)) rfl c1 ?_
      refine r_goto dd_Mod_does_44 ?_
      refine r_istoren (L' := [_, _, _, _]) dd_Mod_does_65 rfl rfl ?_
      refine r_iloadn dd_Mod_does_66 rfl ?_
      refine r_if_ge dd_Mod_does_67 (fun c_67 => ?_) (fun c_67 => ?_)
      · exfalso; omega
      · refine r_iloadn dd_Mod_does_70 rfl ?_
        exact r_retI dd_Mod_does_71 (by first | rfl | omega | exact (b2_t (by first | assumption | omega)).symm | exact (b2_f (by first | assumption | omega)).symm) rfl
  · exfalso; omega
theorem c_Mod_does_b_o {μ : Int → Int → Int} {r v z : Int} {F : Int → Int → Int} (hz : μ 219 13 = z) (z0 : z = 102) (c1 : MetC mi_Mod_backFault [vR 219, vI (μ 219 14), vI (μ 219 15)] (st μ) (some (vI r)) (st μ)) (hr : 0 ≤ r) {b : Int} (c2 : MetC mi_Mod_beginOf [vR 219, vI (μ 219 15)] (st μ) (some (vI b)) (st μ)) (c3 : MetC mi_Mod_frees [vR 219, vI b] (st μ) (some (vI v)) (st F)) : MetC mi_Mod_does [vR 219] (st μ) (some (vI 0)) (st (F)) := by
  refine met_of ?_ (Nat.le_of_ble_eq_true rfl) (by decide) trivial (by decide) (Nat.le_of_ble_eq_true rfl)
  show SPW mi_Mod_does 226 0 [some (vR 219), none, none, none] [] (st μ) (some (vI 0)) (st (F))
  refine r_aloadn dd_Mod_does_0 rfl ?_
  refine r_getI dd_Mod_does_1 fl_Mod_131 (kI := 13) rfl fi_Mod_13 vk_219 ?_
  rw [hz]
  refine r_istoren (L' := [_, _, _, _]) dd_Mod_does_4 rfl rfl ?_
  refine r_iloadn dd_Mod_does_5 rfl ?_
  refine r_bip dd_Mod_does_6 ⟨by decide, by decide⟩ ?_
  refine r_icmp_ne dd_Mod_does_8 (fun c_8 => ?_) (fun c_8 => ?_)
  · refine r_iloadn dd_Mod_does_26 rfl ?_
    refine r_bip dd_Mod_does_27 ⟨by decide, by decide⟩ ?_
    refine r_icmp_ne dd_Mod_does_29 (fun c_29 => ?_) (fun c_29 => ?_)
    · exfalso; omega
    · refine r_aloadn dd_Mod_does_32 rfl ?_
      refine r_aloadn dd_Mod_does_33 rfl ?_
      refine r_getI dd_Mod_does_34 fl_Mod_137 (kI := 14) rfl fi_Mod_14 vk_219 ?_
      refine r_aloadn dd_Mod_does_37 rfl ?_
      refine r_getI dd_Mod_does_38 fl_Mod_140 (kI := 15) rfl fi_Mod_15 vk_219 ?_
      refine r_V2W dd_Mod_does_41 ml_Mod_96 ok_Mod_backFault vi_Mod_backFault vk_219 (by decide) (clS rfl (Nat.le_refl _) (rmOK_self _ _)) rfl c1 ?_
      refine r_goto dd_Mod_does_44 ?_
      refine r_istoren (L' := [_, _, _, _]) dd_Mod_does_65 rfl rfl ?_
      refine r_iloadn dd_Mod_does_66 rfl ?_
      refine r_if_ge dd_Mod_does_67 (fun c_67 => ?_) (fun c_67 => ?_)
      · refine r_iloadn dd_Mod_does_72 rfl ?_
        refine r_bip dd_Mod_does_73 ⟨by decide, by decide⟩ ?_
        refine r_icmp_ne dd_Mod_does_75 (fun c_75 => ?_) (fun c_75 => ?_)
        · refine r_iloadn dd_Mod_does_93 rfl ?_
          refine r_bip dd_Mod_does_94 ⟨by decide, by decide⟩ ?_
          refine r_icmp_ne dd_Mod_does_96 (fun c_96 => ?_) (fun c_96 => ?_)
          · exfalso; omega
          · refine r_aloadn dd_Mod_does_99 rfl ?_
            refine r_aloadn dd_Mod_does_100 rfl ?_
            refine r_aloadn dd_Mod_does_101 rfl ?_
            refine r_getI dd_Mod_does_102 fl_Mod_140 (kI := 15) rfl fi_Mod_15 vk_219 ?_
            refine r_V1W dd_Mod_does_105 ml_Mod_78 ok_Mod_beginOf vi_Mod_beginOf vk_219 (by decide) (clS rfl (Nat.le_refl _) (rmOK_self _ _)) rfl c2 ?_
            refine r_V1W dd_Mod_does_108 ml_Mod_84 ok_Mod_frees vi_Mod_frees vk_219 (by decide) (clS rfl (Nat.le_refl _) (rmOK_self _ _)) rfl c3 ?_
            refine r_goto dd_Mod_does_111 ?_
            refine r_istoren (L' := [_, _, _, _]) dd_Mod_does_157 rfl rfl ?_
            refine r_iconst dd_Mod_does_158 ⟨by decide, by decide⟩ ?_
            exact r_retI dd_Mod_does_159 (by first | rfl | omega | exact (b2_t (by first | assumption | omega)).symm | exact (b2_f (by first | assumption | omega)).symm) rfl
        · exfalso; omega
      · exfalso; omega
  · exfalso; omega
theorem c_Mod_does_t_e {μ : Int → Int → Int} {r v z : Int} {F : Int → Int → Int} (hz : μ 219 13 = z) (z0 : z = 116) (c1 : MetC mi_Mod_passFault [vR 219, vI (μ 219 14)] (st μ) (some (vI r)) (st μ)) (hr : r < 0) : MetC mi_Mod_does [vR 219] (st μ) (some (vI r)) (st (μ)) := by
  refine met_of ?_ (Nat.le_of_ble_eq_true rfl) (by decide) trivial (by decide) (Nat.le_of_ble_eq_true rfl)
  show SPW mi_Mod_does 226 0 [some (vR 219), none, none, none] [] (st μ) (some (vI r)) (st (μ))
  refine r_aloadn dd_Mod_does_0 rfl ?_
  refine r_getI dd_Mod_does_1 fl_Mod_131 (kI := 13) rfl fi_Mod_13 vk_219 ?_
  rw [hz]
  refine r_istoren (L' := [_, _, _, _]) dd_Mod_does_4 rfl rfl ?_
  refine r_iloadn dd_Mod_does_5 rfl ?_
  refine r_bip dd_Mod_does_6 ⟨by decide, by decide⟩ ?_
  refine r_icmp_ne dd_Mod_does_8 (fun c_8 => ?_) (fun c_8 => ?_)
  · refine r_iloadn dd_Mod_does_26 rfl ?_
    refine r_bip dd_Mod_does_27 ⟨by decide, by decide⟩ ?_
    refine r_icmp_ne dd_Mod_does_29 (fun c_29 => ?_) (fun c_29 => ?_)
    · refine r_iloadn dd_Mod_does_47 rfl ?_
      refine r_bip dd_Mod_does_48 ⟨by decide, by decide⟩ ?_
      refine r_icmp_ne dd_Mod_does_50 (fun c_50 => ?_) (fun c_50 => ?_)
      · exfalso; omega
      · refine r_aloadn dd_Mod_does_53 rfl ?_
        refine r_aloadn dd_Mod_does_54 rfl ?_
        refine r_getI dd_Mod_does_55 fl_Mod_137 (kI := 14) rfl fi_Mod_14 vk_219 ?_
        refine r_V1W dd_Mod_does_58 ml_Mod_108 ok_Mod_passFault vi_Mod_passFault vk_219 (by decide) (clS rfl (Nat.le_refl _) (rmOK_self _ _)) rfl c1 ?_
        refine r_goto dd_Mod_does_61 ?_
        refine r_istoren (L' := [_, _, _, _]) dd_Mod_does_65 rfl rfl ?_
        refine r_iloadn dd_Mod_does_66 rfl ?_
        refine r_if_ge dd_Mod_does_67 (fun c_67 => ?_) (fun c_67 => ?_)
        · exfalso; omega
        · refine r_iloadn dd_Mod_does_70 rfl ?_
          exact r_retI dd_Mod_does_71 (by first | rfl | omega | exact (b2_t (by first | assumption | omega)).symm | exact (b2_f (by first | assumption | omega)).symm) rfl
    · exfalso; omega
  · exfalso; omega
theorem c_Mod_does_t_o {μ : Int → Int → Int} {r v z : Int} {F : Int → Int → Int} (hz : μ 219 13 = z) (z0 : z = 116) (c1 : MetC mi_Mod_passFault [vR 219, vI (μ 219 14)] (st μ) (some (vI r)) (st μ)) (hr : 0 ≤ r) (c2 : MetC mi_Mod_passes [vR 219, vI (μ 219 14)] (st μ) (some (vI v)) (st F)) : MetC mi_Mod_does [vR 219] (st μ) (some (vI 0)) (st (F)) := by
  refine met_of ?_ (Nat.le_of_ble_eq_true rfl) (by decide) trivial (by decide) (Nat.le_of_ble_eq_true rfl)
  show SPW mi_Mod_does 226 0 [some (vR 219), none, none, none] [] (st μ) (some (vI 0)) (st (F))
  refine r_aloadn dd_Mod_does_0 rfl ?_
  refine r_getI dd_Mod_does_1 fl_Mod_131 (kI := 13) rfl fi_Mod_13 vk_219 ?_
  rw [hz]
  refine r_istoren (L' := [_, _, _, _]) dd_Mod_does_4 rfl rfl ?_
  refine r_iloadn dd_Mod_does_5 rfl ?_
  refine r_bip dd_Mod_does_6 ⟨by decide, by decide⟩ ?_
  refine r_icmp_ne dd_Mod_does_8 (fun c_8 => ?_) (fun c_8 => ?_)
  · refine r_iloadn dd_Mod_does_26 rfl ?_
    refine r_bip dd_Mod_does_27 ⟨by decide, by decide⟩ ?_
    refine r_icmp_ne dd_Mod_does_29 (fun c_29 => ?_) (fun c_29 => ?_)
    · refine r_iloadn dd_Mod_does_47 rfl ?_
      refine r_bip dd_Mod_does_48 ⟨by decide, by decide⟩ ?_
      refine r_icmp_ne dd_Mod_does_50 (fun c_50 => ?_) (fun c_50 => ?_)
      · exfalso; omega
      · refine r_aloadn dd_Mod_does_53 rfl ?_
        refine r_aloadn dd_Mod_does_54 rfl ?_
        refine r_getI dd_Mod_does_55 fl_Mod_137 (kI := 14) rfl fi_Mod_14 vk_219 ?_
        refine r_V1W dd_Mod_does_58 ml_Mod_108 ok_Mod_passFault vi_Mod_passFault vk_219 (by decide) (clS rfl (Nat.le_refl _) (rmOK_self _ _)) rfl c1 ?_
        refine r_goto dd_Mod_does_61 ?_
        refine r_istoren (L' := [_, _, _, _]) dd_Mod_does_65 rfl rfl ?_
        refine r_iloadn dd_Mod_does_66 rfl ?_
        refine r_if_ge dd_Mod_does_67 (fun c_67 => ?_) (fun c_67 => ?_)
        · refine r_iloadn dd_Mod_does_72 rfl ?_
          refine r_bip dd_Mod_does_73 ⟨by decide, by decide⟩ ?_
          refine r_icmp_ne dd_Mod_does_75 (fun c_75 => ?_) (fun c_75 => ?_)
          · refine r_iloadn dd_Mod_does_93 rfl ?_
            refine r_bip dd_Mod_does_94 ⟨by decide, by decide⟩ ?_
            refine r_icmp_ne dd_Mod_does_96 (fun c_96 => ?_) (fun c_96 => ?_)
            · refine r_iloadn dd_Mod_does_114 rfl ?_
              refine r_bip dd_Mod_does_115 ⟨by decide, by decide⟩ ?_
              refine r_icmp_ne dd_Mod_does_117 (fun c_117 => ?_) (fun c_117 => ?_)
              · exfalso; omega
              · refine r_aloadn dd_Mod_does_120 rfl ?_
                refine r_aloadn dd_Mod_does_121 rfl ?_
                refine r_getI dd_Mod_does_122 fl_Mod_137 (kI := 14) rfl fi_Mod_14 vk_219 ?_
                refine r_V1W dd_Mod_does_125 ml_Mod_111 ok_Mod_passes vi_Mod_passes vk_219 (by decide) (clS rfl (Nat.le_refl _) (rmOK_self _ _)) rfl c2 ?_
                refine r_goto dd_Mod_does_128 ?_
                refine r_istoren (L' := [_, _, _, _]) dd_Mod_does_157 rfl rfl ?_
                refine r_iconst dd_Mod_does_158 ⟨by decide, by decide⟩ ?_
                exact r_retI dd_Mod_does_159 (by first | rfl | omega | exact (b2_t (by first | assumption | omega)).symm | exact (b2_f (by first | assumption | omega)).symm) rfl
            · exfalso; omega
          · exfalso; omega
        · exfalso; omega
    · exfalso; omega
  · exfalso; omega
theorem c_Mod_does_e {μ : Int → Int → Int} {r v z : Int} {F : Int → Int → Int} (hz : μ 219 13 = z) (z0 : z = 101) (h1 : 0 ≤ μ 219 14 ∧ μ 219 14 ≤ 5) (c2 : MetC mi_Mod_puts [vR 219, vI (448 + μ 219 14), vI 1] (st μ) (some (vI v)) (st F)) : MetC mi_Mod_does [vR 219] (st μ) (some (vI 0)) (st (F)) := by
  refine met_of ?_ (Nat.le_of_ble_eq_true rfl) (by decide) trivial (by decide) (Nat.le_of_ble_eq_true rfl)
  show SPW mi_Mod_does 226 0 [some (vR 219), none, none, none] [] (st μ) (some (vI 0)) (st (F))
  refine r_aloadn dd_Mod_does_0 rfl ?_
  refine r_getI dd_Mod_does_1 fl_Mod_131 (kI := 13) rfl fi_Mod_13 vk_219 ?_
  rw [hz]
  refine r_istoren (L' := [_, _, _, _]) dd_Mod_does_4 rfl rfl ?_
  refine r_iloadn dd_Mod_does_5 rfl ?_
  refine r_bip dd_Mod_does_6 ⟨by decide, by decide⟩ ?_
  refine r_icmp_ne dd_Mod_does_8 (fun c_8 => ?_) (fun c_8 => ?_)
  · refine r_iloadn dd_Mod_does_26 rfl ?_
    refine r_bip dd_Mod_does_27 ⟨by decide, by decide⟩ ?_
    refine r_icmp_ne dd_Mod_does_29 (fun c_29 => ?_) (fun c_29 => ?_)
    · refine r_iloadn dd_Mod_does_47 rfl ?_
      refine r_bip dd_Mod_does_48 ⟨by decide, by decide⟩ ?_
      refine r_icmp_ne dd_Mod_does_50 (fun c_50 => ?_) (fun c_50 => ?_)
      · refine r_iconst dd_Mod_does_64 ⟨by decide, by decide⟩ ?_
        refine r_istoren (L' := [_, _, _, _]) dd_Mod_does_65 rfl rfl ?_
        refine r_iloadn dd_Mod_does_66 rfl ?_
        refine r_if_ge dd_Mod_does_67 (fun c_67 => ?_) (fun c_67 => ?_)
        · refine r_iloadn dd_Mod_does_72 rfl ?_
          refine r_bip dd_Mod_does_73 ⟨by decide, by decide⟩ ?_
          refine r_icmp_ne dd_Mod_does_75 (fun c_75 => ?_) (fun c_75 => ?_)
          · refine r_iloadn dd_Mod_does_93 rfl ?_
            refine r_bip dd_Mod_does_94 ⟨by decide, by decide⟩ ?_
            refine r_icmp_ne dd_Mod_does_96 (fun c_96 => ?_) (fun c_96 => ?_)
            · refine r_iloadn dd_Mod_does_114 rfl ?_
              refine r_bip dd_Mod_does_115 ⟨by decide, by decide⟩ ?_
              refine r_icmp_ne dd_Mod_does_117 (fun c_117 => ?_) (fun c_117 => ?_)
              · refine r_iloadn dd_Mod_does_131 rfl ?_
                refine r_bip dd_Mod_does_132 ⟨by decide, by decide⟩ ?_
                refine r_icmp_ne dd_Mod_does_134 (fun c_134 => ?_) (fun c_134 => ?_)
                · exfalso; omega
                · refine r_aloadn dd_Mod_does_137 rfl ?_
                  refine r_sip dd_Mod_does_138 ⟨by decide, by decide⟩ ?_
                  refine r_aloadn dd_Mod_does_141 rfl ?_
                  refine r_getI dd_Mod_does_142 fl_Mod_137 (kI := 14) rfl fi_Mod_14 vk_219 ?_
                  refine r_iadd dd_Mod_does_145 ⟨by omega, by omega⟩ ?_
                  refine r_iconst dd_Mod_does_146 ⟨by decide, by decide⟩ ?_
                  refine r_V2W dd_Mod_does_147 ml_Mod_102 ok_Mod_puts vi_Mod_puts vk_219 (by decide) (clS rfl (Nat.le_refl _) (rmOK_self _ _)) rfl c2 ?_
                  refine r_goto dd_Mod_does_150 ?_
                  refine r_istoren (L' := [_, _, _, _]) dd_Mod_does_157 rfl rfl ?_
                  refine r_iconst dd_Mod_does_158 ⟨by decide, by decide⟩ ?_
                  exact r_retI dd_Mod_does_159 (by first | rfl | omega | exact (b2_t (by first | assumption | omega)).symm | exact (b2_f (by first | assumption | omega)).symm) rfl
              · exfalso; omega
            · exfalso; omega
          · exfalso; omega
        · exfalso; omega
      · exfalso; omega
    · exfalso; omega
  · exfalso; omega
theorem c_Mod_does_s {μ : Int → Int → Int} {r v z : Int} {F : Int → Int → Int} (hz : μ 219 13 = z) (z0 : z = 115) (c2 : MetC mi_Mod_sweeps [vR 219] (st μ) (some (vI v)) (st F)) : MetC mi_Mod_does [vR 219] (st μ) (some (vI 0)) (st (F)) := by
  refine met_of ?_ (Nat.le_of_ble_eq_true rfl) (by decide) trivial (by decide) (Nat.le_of_ble_eq_true rfl)
  show SPW mi_Mod_does 226 0 [some (vR 219), none, none, none] [] (st μ) (some (vI 0)) (st (F))
  refine r_aloadn dd_Mod_does_0 rfl ?_
  refine r_getI dd_Mod_does_1 fl_Mod_131 (kI := 13) rfl fi_Mod_13 vk_219 ?_
  rw [hz]
  refine r_istoren (L' := [_, _, _, _]) dd_Mod_does_4 rfl rfl ?_
  refine r_iloadn dd_Mod_does_5 rfl ?_
  refine r_bip dd_Mod_does_6 ⟨by decide, by decide⟩ ?_
  refine r_icmp_ne dd_Mod_does_8 (fun c_8 => ?_) (fun c_8 => ?_)
  · refine r_iloadn dd_Mod_does_26 rfl ?_
    refine r_bip dd_Mod_does_27 ⟨by decide, by decide⟩ ?_
    refine r_icmp_ne dd_Mod_does_29 (fun c_29 => ?_) (fun c_29 => ?_)
    · refine r_iloadn dd_Mod_does_47 rfl ?_
      refine r_bip dd_Mod_does_48 ⟨by decide, by decide⟩ ?_
      refine r_icmp_ne dd_Mod_does_50 (fun c_50 => ?_) (fun c_50 => ?_)
      · refine r_iconst dd_Mod_does_64 ⟨by decide, by decide⟩ ?_
        refine r_istoren (L' := [_, _, _, _]) dd_Mod_does_65 rfl rfl ?_
        refine r_iloadn dd_Mod_does_66 rfl ?_
        refine r_if_ge dd_Mod_does_67 (fun c_67 => ?_) (fun c_67 => ?_)
        · refine r_iloadn dd_Mod_does_72 rfl ?_
          refine r_bip dd_Mod_does_73 ⟨by decide, by decide⟩ ?_
          refine r_icmp_ne dd_Mod_does_75 (fun c_75 => ?_) (fun c_75 => ?_)
          · refine r_iloadn dd_Mod_does_93 rfl ?_
            refine r_bip dd_Mod_does_94 ⟨by decide, by decide⟩ ?_
            refine r_icmp_ne dd_Mod_does_96 (fun c_96 => ?_) (fun c_96 => ?_)
            · refine r_iloadn dd_Mod_does_114 rfl ?_
              refine r_bip dd_Mod_does_115 ⟨by decide, by decide⟩ ?_
              refine r_icmp_ne dd_Mod_does_117 (fun c_117 => ?_) (fun c_117 => ?_)
              · refine r_iloadn dd_Mod_does_131 rfl ?_
                refine r_bip dd_Mod_does_132 ⟨by decide, by decide⟩ ?_
                refine r_icmp_ne dd_Mod_does_134 (fun c_134 => ?_) (fun c_134 => ?_)
                · refine r_aloadn dd_Mod_does_153 rfl ?_
                  refine r_V0W dd_Mod_does_154 ml_Mod_114 ok_Mod_sweeps vi_Mod_sweeps vk_219 (by decide) (clS rfl (Nat.le_refl _) (rmOK_self _ _)) rfl c2 ?_
                  refine r_istoren (L' := [_, _, _, _]) dd_Mod_does_157 rfl rfl ?_
                  refine r_iconst dd_Mod_does_158 ⟨by decide, by decide⟩ ?_
                  exact r_retI dd_Mod_does_159 (by first | rfl | omega | exact (b2_t (by first | assumption | omega)).symm | exact (b2_f (by first | assumption | omega)).symm) rfl
                · exfalso; omega
              · exfalso; omega
            · exfalso; omega
          · exfalso; omega
        · exfalso; omega
      · exfalso; omega
    · exfalso; omega
  · exfalso; omega
