/-! perform: its small parts -/
theorem c_Poo_noteStop {μ : Int → Int → Int} {i r : Int} : MetC mi_Poo_noteStop [vR 0, vI i, vI r] (st μ) (none) (st (upM (upM (upM μ 0 7 1) 0 8 i) 0 9 r)) := by
  refine met_of ?_ (Nat.le_of_ble_eq_true rfl) (by decide) trivial (by decide) (Nat.le_of_ble_eq_true rfl)
  show SPW mi_Poo_noteStop 226 0 [some (vR 0), some (vI i), some (vI r)] [] (st μ) (none) (st (upM (upM (upM μ 0 7 1) 0 8 i) 0 9 r))
  refine r_aloadn dd_Poo_noteStop_0 rfl ?_
  refine r_iconst dd_Poo_noteStop_1 ⟨by decide, by decide⟩ ?_
  refine r_putI dd_Poo_noteStop_2 fl_Poo_115 (kI := 7) rfl fc_Poo_7 ff_Poo_7 (pb_Poo_7 (by first | exact b2_01 | omega)) vk_0 ?_
  refine r_aloadn dd_Poo_noteStop_5 rfl ?_
  refine r_iloadn dd_Poo_noteStop_6 rfl ?_
  refine r_putI dd_Poo_noteStop_7 fl_Poo_119 (kI := 8) rfl fc_Poo_8 ff_Poo_8 (pi_Poo_8 _) vk_0 ?_
  refine r_aloadn dd_Poo_noteStop_10 rfl ?_
  refine r_iloadn dd_Poo_noteStop_11 rfl ?_
  refine r_putI dd_Poo_noteStop_12 fl_Poo_123 (kI := 9) rfl fc_Poo_9 ff_Poo_9 (pi_Poo_9 _) vk_0 ?_
  exact r_retV dd_Poo_noteStop_15 rfl
theorem c_Poo_isError {μ : Int → Int → Int} {r : Int} : MetC mi_Poo_isError [vI r] (st μ) (some (vI (b2 (r < 0 ∧ r ≠ -5)))) (st (μ)) := by
  refine met_of ?_ (Nat.le_of_ble_eq_true rfl) (by decide) b2_01 (by decide) (Nat.le_of_ble_eq_true rfl)
  show SPW mi_Poo_isError 226 0 [some (vI r)] [] (st μ) (some (vI (b2 (r < 0 ∧ r ≠ -5)))) (st (μ))
  refine r_iloadn dd_Poo_isError_0 rfl ?_
  refine r_if_ge dd_Poo_isError_1 (fun c_1 => ?_) (fun c_1 => ?_)
  · refine r_iconst dd_Poo_isError_14 ⟨by decide, by decide⟩ ?_
    exact r_retI dd_Poo_isError_15 (by first | rfl | omega | exact (b2_t (by first | assumption | omega)).symm | exact (b2_f (by first | assumption | omega)).symm) rfl
  · refine r_iloadn dd_Poo_isError_4 rfl ?_
    refine r_bip dd_Poo_isError_5 ⟨by decide, by decide⟩ ?_
    refine r_icmp_eq dd_Poo_isError_7 (fun c_7 => ?_) (fun c_7 => ?_)
    · refine r_iconst dd_Poo_isError_14 ⟨by decide, by decide⟩ ?_
      exact r_retI dd_Poo_isError_15 (by first | rfl | omega | exact (b2_t (by first | assumption | omega)).symm | exact (b2_f (by first | assumption | omega)).symm) rfl
    · refine r_iconst dd_Poo_isError_10 ⟨by decide, by decide⟩ ?_
      refine r_goto dd_Poo_isError_11 ?_
      exact r_retI dd_Poo_isError_15 (by first | rfl | omega | exact (b2_t (by first | assumption | omega)).symm | exact (b2_f (by first | assumption | omega)).symm) rfl
theorem c_Txt_commandAt {μ : Int → Int → Int} {i : Int} (h : 0 ≤ i ∧ i < 30) : MetC mi_Txt_commandAt [vR 185, vI i] (st μ) (some (vR (188 + i))) (st (μ)) := by
  refine met_of ?_ (Nat.le_of_ble_eq_true rfl) (by decide) trivial (by decide) (Nat.le_of_ble_eq_true rfl)
  show SPW mi_Txt_commandAt 226 0 [some (vR 185), some (vI i)] [] (st μ) (some (vR (188 + i))) (st (μ))
  refine r_iloadn dd_Txt_commandAt_0 rfl ?_
  refine r_if_lt dd_Txt_commandAt_1 (fun c_1 => ?_) (fun c_1 => ?_)
  · exfalso; omega
  · refine r_iloadn dd_Txt_commandAt_4 rfl ?_
    refine r_bip dd_Txt_commandAt_5 ⟨by decide, by decide⟩ ?_
    refine r_icmp_lt dd_Txt_commandAt_7 (fun c_7 => ?_) (fun c_7 => ?_)
    · refine r_aloadn dd_Txt_commandAt_14 rfl ?_
      refine r_getR dd_Txt_commandAt_15 fl_Txt_17 (kI := 2) rfl fr_Txt_2 vk_185 R0_185_2 ?_
      refine r_iloadn dd_Txt_commandAt_18 rfl ?_
      refine r_aald dd_Txt_commandAt_19 (q := 20) (by decide) vk_187 (by omega) (by show _ < ((30 : Nat) : Int); omega) (by first | exact R0_2 | exact R0_20 | exact R0_80 | exact R0_187 | exact R0_b (by assumption) | exact R0_t (by assumption)) ?_
      exact r_retR dd_Txt_commandAt_20 rfl rfl
    · exfalso; omega
theorem c_Poo_answerTo_a {μ : Int → Int → Int} {o r z : Int} {F : Int → Int → Int} (hv : vk 226 o 1) (hz : μ o 0 = z) (z0 : z = 97) (c : MetC mi_Sta_grant [vR 1, vI (μ o 1), vI (μ o 2)] (st μ) (some (vI r)) (st F)) : MetC mi_Poo_answerTo [vR 0, vR o] (st μ) (some (vI r)) (st (F)) := by
  refine met_of ?_ (Nat.le_of_ble_eq_true rfl) (by decide) trivial (by decide) (Nat.le_of_ble_eq_true rfl)
  show SPW mi_Poo_answerTo 226 0 [some (vR 0), some (vR o)] [] (st μ) (some (vI r)) (st (F))
  refine r_aloadn dd_Poo_answerTo_0 rfl ?_
  refine r_ifnonnullR dd_Poo_answerTo_1 ?_
  refine r_aloadn dd_Poo_answerTo_7 rfl ?_
  refine r_getI dd_Poo_answerTo_8 fl_Poo_164 (kI := 0) rfl fi_Cmd_0 hv ?_
  rw [hz]
  by_cases s11_97 : z = 97
  · refine r_lookAt (tgt := 60) (off := 49) dd_Poo_answerTo_11 s11_97 (by decide) (by decide) rfl ?_
    refine r_aloadn dd_Poo_answerTo_60 rfl ?_
    refine r_getR dd_Poo_answerTo_61 fl_Poo_10 (kI := 0) rfl fr_Poo_0 vk_0 R0_0_0 ?_
    refine r_aloadn dd_Poo_answerTo_64 rfl ?_
    refine r_getI dd_Poo_answerTo_65 fl_Poo_169 (kI := 1) rfl fi_Cmd_1 hv ?_
    refine r_aloadn dd_Poo_answerTo_68 rfl ?_
    refine r_getI dd_Poo_answerTo_69 fl_Poo_172 (kI := 2) rfl fi_Cmd_2 hv ?_
    refine r_V2W dd_Poo_answerTo_72 ml_Poo_44 ok_Sta_grant vi_Sta_grant vk_1 (by decide) (clS rfl (Nat.le_refl _) (rmOK_self _ _)) rfl c ?_
    exact r_retI dd_Poo_answerTo_75 (by first | rfl | omega | exact (b2_t (by first | assumption | omega)).symm | exact (b2_f (by first | assumption | omega)).symm) rfl
  by_cases s11_101 : z = 101
  · refine r_lookAt (tgt := 104) (off := 93) dd_Poo_answerTo_11 s11_101 (by decide) (by decide) rfl ?_
    exfalso; omega
  by_cases s11_102 : z = 102
  · refine r_lookAt (tgt := 76) (off := 65) dd_Poo_answerTo_11 s11_102 (by decide) (by decide) rfl ?_
    exfalso; omega
  by_cases s11_115 : z = 115
  · refine r_lookAt (tgt := 117) (off := 106) dd_Poo_answerTo_11 s11_115 (by decide) (by decide) rfl ?_
    exfalso; omega
  by_cases s11_116 : z = 116
  · refine r_lookAt (tgt := 92) (off := 81) dd_Poo_answerTo_11 s11_116 (by decide) (by decide) rfl ?_
    exfalso; omega
  refine r_look (tgt := 125) (off := 114) dd_Poo_answerTo_11 (by decide) (by simp [Op.lookupswitch.offset, s11_97, Ne.symm s11_97, s11_101, Ne.symm s11_101, s11_102, Ne.symm s11_102, s11_115, Ne.symm s11_115, s11_116, Ne.symm s11_116]) rfl ?_
  exfalso; omega
theorem c_Poo_answerTo_b {μ : Int → Int → Int} {o r z : Int} {F : Int → Int → Int} (hv : vk 226 o 1) (hz : μ o 0 = z) (z0 : z = 102) (c : MetC mi_Sta_takeBack [vR 1, vI (μ o 1), vI (μ o 2)] (st μ) (some (vI r)) (st F)) : MetC mi_Poo_answerTo [vR 0, vR o] (st μ) (some (vI r)) (st (F)) := by
  refine met_of ?_ (Nat.le_of_ble_eq_true rfl) (by decide) trivial (by decide) (Nat.le_of_ble_eq_true rfl)
  show SPW mi_Poo_answerTo 226 0 [some (vR 0), some (vR o)] [] (st μ) (some (vI r)) (st (F))
  refine r_aloadn dd_Poo_answerTo_0 rfl ?_
  refine r_ifnonnullR dd_Poo_answerTo_1 ?_
  refine r_aloadn dd_Poo_answerTo_7 rfl ?_
  refine r_getI dd_Poo_answerTo_8 fl_Poo_164 (kI := 0) rfl fi_Cmd_0 hv ?_
  rw [hz]
  by_cases s11_97 : z = 97
  · refine r_lookAt (tgt := 60) (off := 49) dd_Poo_answerTo_11 s11_97 (by decide) (by decide) rfl ?_
    exfalso; omega
  by_cases s11_101 : z = 101
  · refine r_lookAt (tgt := 104) (off := 93) dd_Poo_answerTo_11 s11_101 (by decide) (by decide) rfl ?_
    exfalso; omega
  by_cases s11_102 : z = 102
  · refine r_lookAt (tgt := 76) (off := 65) dd_Poo_answerTo_11 s11_102 (by decide) (by decide) rfl ?_
    refine r_aloadn dd_Poo_answerTo_76 rfl ?_
    refine r_getR dd_Poo_answerTo_77 fl_Poo_10 (kI := 0) rfl fr_Poo_0 vk_0 R0_0_0 ?_
    refine r_aloadn dd_Poo_answerTo_80 rfl ?_
    refine r_getI dd_Poo_answerTo_81 fl_Poo_169 (kI := 1) rfl fi_Cmd_1 hv ?_
    refine r_aloadn dd_Poo_answerTo_84 rfl ?_
    refine r_getI dd_Poo_answerTo_85 fl_Poo_172 (kI := 2) rfl fi_Cmd_2 hv ?_
    refine r_V2W dd_Poo_answerTo_88 ml_Poo_59 ok_Sta_takeBack vi_Sta_takeBack vk_1 (by decide) (clS rfl (Nat.le_refl _) (rmOK_self _ _)) rfl c ?_
    exact r_retI dd_Poo_answerTo_91 (by first | rfl | omega | exact (b2_t (by first | assumption | omega)).symm | exact (b2_f (by first | assumption | omega)).symm) rfl
  by_cases s11_115 : z = 115
  · refine r_lookAt (tgt := 117) (off := 106) dd_Poo_answerTo_11 s11_115 (by decide) (by decide) rfl ?_
    exfalso; omega
  by_cases s11_116 : z = 116
  · refine r_lookAt (tgt := 92) (off := 81) dd_Poo_answerTo_11 s11_116 (by decide) (by decide) rfl ?_
    exfalso; omega
  refine r_look (tgt := 125) (off := 114) dd_Poo_answerTo_11 (by decide) (by simp [Op.lookupswitch.offset, s11_97, Ne.symm s11_97, s11_101, Ne.symm s11_101, s11_102, Ne.symm s11_102, s11_115, Ne.symm s11_115, s11_116, Ne.symm s11_116]) rfl ?_
  exfalso; omega
theorem c_Poo_answerTo_t {μ : Int → Int → Int} {o r z : Int} {F : Int → Int → Int} (hv : vk 226 o 1) (hz : μ o 0 = z) (z0 : z = 116) (c : MetC mi_Sta_advance [vR 1, vI (μ o 1)] (st μ) (some (vI r)) (st F)) : MetC mi_Poo_answerTo [vR 0, vR o] (st μ) (some (vI r)) (st (F)) := by
  refine met_of ?_ (Nat.le_of_ble_eq_true rfl) (by decide) trivial (by decide) (Nat.le_of_ble_eq_true rfl)
  show SPW mi_Poo_answerTo 226 0 [some (vR 0), some (vR o)] [] (st μ) (some (vI r)) (st (F))
  refine r_aloadn dd_Poo_answerTo_0 rfl ?_
  refine r_ifnonnullR dd_Poo_answerTo_1 ?_
  refine r_aloadn dd_Poo_answerTo_7 rfl ?_
  refine r_getI dd_Poo_answerTo_8 fl_Poo_164 (kI := 0) rfl fi_Cmd_0 hv ?_
  rw [hz]
  by_cases s11_97 : z = 97
  · refine r_lookAt (tgt := 60) (off := 49) dd_Poo_answerTo_11 s11_97 (by decide) (by decide) rfl ?_
    exfalso; omega
  by_cases s11_101 : z = 101
  · refine r_lookAt (tgt := 104) (off := 93) dd_Poo_answerTo_11 s11_101 (by decide) (by decide) rfl ?_
    exfalso; omega
  by_cases s11_102 : z = 102
  · refine r_lookAt (tgt := 76) (off := 65) dd_Poo_answerTo_11 s11_102 (by decide) (by decide) rfl ?_
    exfalso; omega
  by_cases s11_115 : z = 115
  · refine r_lookAt (tgt := 117) (off := 106) dd_Poo_answerTo_11 s11_115 (by decide) (by decide) rfl ?_
    exfalso; omega
  by_cases s11_116 : z = 116
  · refine r_lookAt (tgt := 92) (off := 81) dd_Poo_answerTo_11 s11_116 (by decide) (by decide) rfl ?_
    refine r_aloadn dd_Poo_answerTo_92 rfl ?_
    refine r_getR dd_Poo_answerTo_93 fl_Poo_10 (kI := 0) rfl fr_Poo_0 vk_0 R0_0_0 ?_
    refine r_aloadn dd_Poo_answerTo_96 rfl ?_
    refine r_getI dd_Poo_answerTo_97 fl_Poo_169 (kI := 1) rfl fi_Cmd_1 hv ?_
    refine r_V1W dd_Poo_answerTo_100 ml_Poo_79 ok_Sta_advance vi_Sta_advance vk_1 (by decide) (clS rfl (Nat.le_refl _) (rmOK_self _ _)) rfl c ?_
    exact r_retI dd_Poo_answerTo_103 (by first | rfl | omega | exact (b2_t (by first | assumption | omega)).symm | exact (b2_f (by first | assumption | omega)).symm) rfl
  refine r_look (tgt := 125) (off := 114) dd_Poo_answerTo_11 (by decide) (by simp [Op.lookupswitch.offset, s11_97, Ne.symm s11_97, s11_101, Ne.symm s11_101, s11_102, Ne.symm s11_102, s11_115, Ne.symm s11_115, s11_116, Ne.symm s11_116]) rfl ?_
  exfalso; omega
theorem c_Poo_answerTo_e {μ : Int → Int → Int} {o r z : Int} {F : Int → Int → Int} (hv : vk 226 o 1) (hz : μ o 0 = z) (z0 : z = 101) (c : MetC mi_Sta_makeAlive [vR 1, vI (μ o 1), vI 0] (st μ) (some (vI r)) (st F)) : MetC mi_Poo_answerTo [vR 0, vR o] (st μ) (some (vI r)) (st (F)) := by
  refine met_of ?_ (Nat.le_of_ble_eq_true rfl) (by decide) trivial (by decide) (Nat.le_of_ble_eq_true rfl)
  show SPW mi_Poo_answerTo 226 0 [some (vR 0), some (vR o)] [] (st μ) (some (vI r)) (st (F))
  refine r_aloadn dd_Poo_answerTo_0 rfl ?_
  refine r_ifnonnullR dd_Poo_answerTo_1 ?_
  refine r_aloadn dd_Poo_answerTo_7 rfl ?_
  refine r_getI dd_Poo_answerTo_8 fl_Poo_164 (kI := 0) rfl fi_Cmd_0 hv ?_
  rw [hz]
  by_cases s11_97 : z = 97
  · refine r_lookAt (tgt := 60) (off := 49) dd_Poo_answerTo_11 s11_97 (by decide) (by decide) rfl ?_
    exfalso; omega
  by_cases s11_101 : z = 101
  · refine r_lookAt (tgt := 104) (off := 93) dd_Poo_answerTo_11 s11_101 (by decide) (by decide) rfl ?_
    refine r_aloadn dd_Poo_answerTo_104 rfl ?_
    refine r_getR dd_Poo_answerTo_105 fl_Poo_10 (kI := 0) rfl fr_Poo_0 vk_0 R0_0_0 ?_
    refine r_aloadn dd_Poo_answerTo_108 rfl ?_
    refine r_getI dd_Poo_answerTo_109 fl_Poo_169 (kI := 1) rfl fi_Cmd_1 hv ?_
    refine r_iconst dd_Poo_answerTo_112 ⟨by decide, by decide⟩ ?_
    refine r_V2W dd_Poo_answerTo_113 ml_Poo_69 ok_Sta_makeAlive vi_Sta_makeAlive vk_1 (by decide) (clS rfl (Nat.le_refl _) (rmOK_self _ _)) rfl c ?_
    exact r_retI dd_Poo_answerTo_116 (by first | rfl | omega | exact (b2_t (by first | assumption | omega)).symm | exact (b2_f (by first | assumption | omega)).symm) rfl
  by_cases s11_102 : z = 102
  · refine r_lookAt (tgt := 76) (off := 65) dd_Poo_answerTo_11 s11_102 (by decide) (by decide) rfl ?_
    exfalso; omega
  by_cases s11_115 : z = 115
  · refine r_lookAt (tgt := 117) (off := 106) dd_Poo_answerTo_11 s11_115 (by decide) (by decide) rfl ?_
    exfalso; omega
  by_cases s11_116 : z = 116
  · refine r_lookAt (tgt := 92) (off := 81) dd_Poo_answerTo_11 s11_116 (by decide) (by decide) rfl ?_
    exfalso; omega
  refine r_look (tgt := 125) (off := 114) dd_Poo_answerTo_11 (by decide) (by simp [Op.lookupswitch.offset, s11_97, Ne.symm s11_97, s11_101, Ne.symm s11_101, s11_102, Ne.symm s11_102, s11_115, Ne.symm s11_115, s11_116, Ne.symm s11_116]) rfl ?_
  exfalso; omega
theorem c_Poo_answerTo_s {μ : Int → Int → Int} {o r z : Int} {F : Int → Int → Int} (hv : vk 226 o 1) (hz : μ o 0 = z) (z0 : z = 115) (c : MetC mi_Sta_takeLeaksBack [vR 1] (st μ) (some (vI r)) (st F)) : MetC mi_Poo_answerTo [vR 0, vR o] (st μ) (some (vI r)) (st (F)) := by
  refine met_of ?_ (Nat.le_of_ble_eq_true rfl) (by decide) trivial (by decide) (Nat.le_of_ble_eq_true rfl)
  show SPW mi_Poo_answerTo 226 0 [some (vR 0), some (vR o)] [] (st μ) (some (vI r)) (st (F))
  refine r_aloadn dd_Poo_answerTo_0 rfl ?_
  refine r_ifnonnullR dd_Poo_answerTo_1 ?_
  refine r_aloadn dd_Poo_answerTo_7 rfl ?_
  refine r_getI dd_Poo_answerTo_8 fl_Poo_164 (kI := 0) rfl fi_Cmd_0 hv ?_
  rw [hz]
  by_cases s11_97 : z = 97
  · refine r_lookAt (tgt := 60) (off := 49) dd_Poo_answerTo_11 s11_97 (by decide) (by decide) rfl ?_
    exfalso; omega
  by_cases s11_101 : z = 101
  · refine r_lookAt (tgt := 104) (off := 93) dd_Poo_answerTo_11 s11_101 (by decide) (by decide) rfl ?_
    exfalso; omega
  by_cases s11_102 : z = 102
  · refine r_lookAt (tgt := 76) (off := 65) dd_Poo_answerTo_11 s11_102 (by decide) (by decide) rfl ?_
    exfalso; omega
  by_cases s11_115 : z = 115
  · refine r_lookAt (tgt := 117) (off := 106) dd_Poo_answerTo_11 s11_115 (by decide) (by decide) rfl ?_
    refine r_aloadn dd_Poo_answerTo_117 rfl ?_
    refine r_getR dd_Poo_answerTo_118 fl_Poo_10 (kI := 0) rfl fr_Poo_0 vk_0 R0_0_0 ?_
    refine r_V0W dd_Poo_answerTo_121 ml_Poo_82 ok_Sta_takeLeaksBack vi_Sta_takeLeaksBack vk_1 (by decide) (clS rfl (Nat.le_refl _) (rmOK_self _ _)) rfl c ?_
    exact r_retI dd_Poo_answerTo_124 (by first | rfl | omega | exact (b2_t (by first | assumption | omega)).symm | exact (b2_f (by first | assumption | omega)).symm) rfl
  by_cases s11_116 : z = 116
  · refine r_lookAt (tgt := 92) (off := 81) dd_Poo_answerTo_11 s11_116 (by decide) (by decide) rfl ?_
    exfalso; omega
  refine r_look (tgt := 125) (off := 114) dd_Poo_answerTo_11 (by decide) (by simp [Op.lookupswitch.offset, s11_97, Ne.symm s11_97, s11_101, Ne.symm s11_101, s11_102, Ne.symm s11_102, s11_115, Ne.symm s11_115, s11_116, Ne.symm s11_116]) rfl ?_
  exfalso; omega
