/-! the class: block, word, task, size, count told -/
theorem sn_wz {s z : Int} (hs : -1 ≤ s ∧ s ≤ 2) (h : wz s = z) (hz : 0 < z) : snM z = s := by
  have h1 := wz_rg s
  unfold snM
  rcases (show s = 0 ∧ z = 4 ∨ s = 1 ∧ z = 8 ∨ s = 2 ∧ z = 16 by omega) with ⟨rfl, rfl⟩ | ⟨rfl, rfl⟩ | ⟨rfl, rfl⟩ <;> rfl
def cntC (m : Int → Int) (what : Int) : Int :=
  if what = 0 then owsM m else if what = 1 then frwM m else if what = 2 then 64 - frwM m - askdM m 6 else if what = 3 then lksM m 6 else if what = 4 then m 466
  else if what = 5 then m 468 else if what = 6 then m 469 else if what = 7 then m 470 else if what = 8 then m 471 else if what = 9 then m 467 else -2

theorem c_Sta_tellBlock {μ : Int → Int → Int} {K : Int} {m : Int → Int} (hR : RI K μ m) {b what : Int} : MetC mi_Sta_tellBlock [vR 1, vI b, vI what] (st μ) (some (vI (blockS m b what))) (st (μ)) := by
  refine met_of ?_ (Nat.le_of_ble_eq_true rfl) (by decide) trivial (by decide) (Nat.le_of_ble_eq_true rfl)
  show SPW mi_Sta_tellBlock 219 0 [some (vR 1), some (vI b), some (vI what), none] [] (st μ) (some (vI (blockS m b what))) (st (μ))
  by_cases h1 : begOf m b = -5
  · refine r_aloadn dd_Sta_tellBlock_0 rfl ?_
    refine r_iloadn dd_Sta_tellBlock_1 rfl ?_
    refine r_V1W dd_Sta_tellBlock_2 ml_Sta_87 ok_Sta_blockOf vi_Sta_blockOf vk_1 (by decide) (clS rfl (Nat.le_refl _) (rmOK_self _ _)) rfl (c_Sta_blockOf_n hR h1) ?_
    refine r_astoren (L' := [_, _, _, _]) dd_Sta_tellBlock_5 rfl rfl ?_
    refine r_aloadn dd_Sta_tellBlock_6 rfl ?_
    refine r_ifnonnullN dd_Sta_tellBlock_7 ?_
    refine r_iconst dd_Sta_tellBlock_10 ⟨by decide, by decide⟩ ?_
    exact r_retI dd_Sta_tellBlock_11 (by unfold blockS; (repeat (first | rw [if_pos (by omega)] | rw [if_neg (by omega)])); first | done | omega | (congr 1; omega) | exact (b2_t (by first | assumption | omega)).symm | exact (b2_f (by first | assumption | omega)).symm) rfl
  · obtain ⟨j, hj, j0, j1, ho, hn⟩ := begOf_4 hR.2.2 h1
    have hbj := hR.blk j0 j1
    have hoj := hR.own j0 j1
    have hwj := hR.2.1.1 (4 * j) (by omega) (by omega)
    have hsn := sn_wz hbj.2.1 hbj.2.2.1 ho.1
    refine r_aloadn dd_Sta_tellBlock_0 rfl ?_
    refine r_iloadn dd_Sta_tellBlock_1 rfl ?_
    refine r_V1W dd_Sta_tellBlock_2 ml_Sta_87 ok_Sta_blockOf vi_Sta_blockOf vk_1 (by decide) (clS rfl (Nat.le_refl _) (rmOK_self _ _)) rfl (c_Sta_blockOf_s hR hj j0) ?_
    refine r_astoren (L' := [_, _, _, _]) dd_Sta_tellBlock_5 rfl rfl ?_
    refine r_aloadn dd_Sta_tellBlock_6 rfl ?_
    refine r_ifnonnullR dd_Sta_tellBlock_7 ?_
    refine r_iloadn dd_Sta_tellBlock_12 rfl ?_
    by_cases s13_0 : what = 0
    · refine r_tabAt (tgt := 56) (off := 43) dd_Sta_tellBlock_13 s13_0 (by decide) rfl rfl ?_
      refine r_aloadn dd_Sta_tellBlock_56 rfl ?_
      refine r_getI dd_Sta_tellBlock_57 fl_Sta_98 (kI := 0) rfl fi_Blk_0 (vk_blk j0 j1) ?_
      exact r_retI dd_Sta_tellBlock_60 (by unfold blockS; rw [hj]; (repeat (first | rw [if_pos (by omega)] | rw [if_neg (by omega)])); first | done | omega | exact (b2_t (by first | assumption | omega)).symm | exact (b2_f (by first | assumption | omega)).symm) rfl
    by_cases s13_1 : what = 1
    · refine r_tabAt (tgt := 61) (off := 48) dd_Sta_tellBlock_13 s13_1 (by decide) rfl rfl ?_
      refine r_aloadn dd_Sta_tellBlock_61 rfl ?_
      refine r_getI dd_Sta_tellBlock_62 fl_Sta_151 (kI := 1) rfl fi_Blk_1 (vk_blk j0 j1) ?_
      exact r_retI dd_Sta_tellBlock_65 (by unfold blockS; rw [hj]; (repeat (first | rw [if_pos (by omega)] | rw [if_neg (by omega)])); first | done | omega | exact (b2_t (by first | assumption | omega)).symm | exact (b2_f (by first | assumption | omega)).symm) rfl
    by_cases s13_2 : what = 2
    · refine r_tabAt (tgt := 66) (off := 53) dd_Sta_tellBlock_13 s13_2 (by decide) rfl rfl ?_
      refine r_aloadn dd_Sta_tellBlock_66 rfl ?_
      refine r_getI dd_Sta_tellBlock_67 fl_Sta_75 (kI := 2) rfl fi_Blk_2 (vk_blk j0 j1) ?_
      exact r_retI dd_Sta_tellBlock_70 (by unfold blockS; rw [hj]; (repeat (first | rw [if_pos (by omega)] | rw [if_neg (by omega)])); first | done | omega | exact (b2_t (by first | assumption | omega)).symm | exact (b2_f (by first | assumption | omega)).symm) rfl
    by_cases s13_3 : what = 3
    · refine r_tabAt (tgt := 71) (off := 58) dd_Sta_tellBlock_13 s13_3 (by decide) rfl rfl ?_
      refine r_aloadn dd_Sta_tellBlock_71 rfl ?_
      refine r_getI dd_Sta_tellBlock_72 fl_Sta_81 (kI := 4) rfl fi_Blk_4 (vk_blk j0 j1) ?_
      exact r_retI dd_Sta_tellBlock_75 (by unfold blockS; rw [hj]; (repeat (first | rw [if_pos (by omega)] | rw [if_neg (by omega)])); first | done | omega | exact (b2_t (by first | assumption | omega)).symm | exact (b2_f (by first | assumption | omega)).symm) rfl
    by_cases s13_4 : what = 4
    · refine r_tabAt (tgt := 76) (off := 63) dd_Sta_tellBlock_13 s13_4 (by decide) rfl rfl ?_
      refine r_aloadn dd_Sta_tellBlock_76 rfl ?_
      refine r_aloadn dd_Sta_tellBlock_77 rfl ?_
      refine r_V1W dd_Sta_tellBlock_78 ml_Sta_163 ok_Sta_brokenGuards vi_Sta_brokenGuards vk_1 (by decide) (clS rfl (Nat.le_refl _) (rmOK_self _ _)) rfl (c_Sta_brokenGuards hR j0 j1 ho) ?_
      exact r_retI dd_Sta_tellBlock_81 (by unfold blockS; rw [hj]; (repeat (first | rw [if_pos (by omega)] | rw [if_neg (by omega)])); first | done | omega | exact (b2_t (by first | assumption | omega)).symm | exact (b2_f (by first | assumption | omega)).symm) rfl
    by_cases s13_5 : what = 5
    · refine r_tabAt (tgt := 82) (off := 69) dd_Sta_tellBlock_13 s13_5 (by decide) rfl rfl ?_
      refine r_aloadn dd_Sta_tellBlock_82 rfl ?_
      refine r_aloadn dd_Sta_tellBlock_83 rfl ?_
      refine r_V1W dd_Sta_tellBlock_84 ml_Sta_121 ok_Sta_ageOf vi_Sta_ageOf vk_1 (by decide) (clS rfl (Nat.le_refl _) (rmOK_self _ _)) rfl (c_Sta_ageOf hR j0 j1) ?_
      exact r_retI dd_Sta_tellBlock_87 (by unfold blockS; rw [hj]; (repeat (first | rw [if_pos (by omega)] | rw [if_neg (by omega)])); first | done | omega | exact (b2_t (by first | assumption | omega)).symm | exact (b2_f (by first | assumption | omega)).symm) rfl
    by_cases s13_6 : what = 6
    · refine r_tabAt (tgt := 88) (off := 75) dd_Sta_tellBlock_13 s13_6 (by decide) rfl rfl ?_
      refine r_aloadn dd_Sta_tellBlock_88 rfl ?_
      refine r_aloadn dd_Sta_tellBlock_89 rfl ?_
      refine r_V1W dd_Sta_tellBlock_90 ml_Sta_134 ok_Sta_isLeak vi_Sta_isLeak vk_1 (by decide) (clS rfl (Nat.le_refl _) (rmOK_self _ _)) rfl (c_Sta_isLeak hR j0 j1) ?_
      refine r_if_eq_b dd_Sta_tellBlock_93 (fun c_93 => ?_) (fun c_93 => ?_)
      · refine r_iconst dd_Sta_tellBlock_100 ⟨by decide, by decide⟩ ?_
        exact r_retI dd_Sta_tellBlock_101 (by unfold blockS; rw [hj]; (repeat (first | rw [if_pos (by omega)] | rw [if_neg (by omega)])); first | done | omega | exact (b2_t (by first | assumption | omega)).symm | exact (b2_f (by first | assumption | omega)).symm) rfl
      · refine r_iconst dd_Sta_tellBlock_96 ⟨by decide, by decide⟩ ?_
        refine r_goto dd_Sta_tellBlock_97 ?_
        exact r_retI dd_Sta_tellBlock_101 (by unfold blockS; rw [hj]; (repeat (first | rw [if_pos (by omega)] | rw [if_neg (by omega)])); first | done | omega | exact (b2_t (by first | assumption | omega)).symm | exact (b2_f (by first | assumption | omega)).symm) rfl
    refine r_tabOut (tgt := 102) dd_Sta_tellBlock_13 (by omega) rfl ?_
    refine r_bip dd_Sta_tellBlock_102 ⟨by decide, by decide⟩ ?_
    exact r_retI dd_Sta_tellBlock_104 (by unfold blockS; rw [hj]; (repeat (first | rw [if_pos (by omega)] | rw [if_neg (by omega)])); first | done | omega | exact (b2_t (by first | assumption | omega)).symm | exact (b2_f (by first | assumption | omega)).symm) rfl
theorem c_Sta_tellWord {μ : Int → Int → Int} {K : Int} {m : Int → Int} (hR : RI K μ m) {word what : Int} : MetC mi_Sta_tellWord [vR 1, vI word, vI what] (st μ) (some (vI (wordS m word what))) (st (μ)) := by
  refine met_of ?_ (Nat.le_of_ble_eq_true rfl) (by decide) trivial (by decide) (Nat.le_of_ble_eq_true rfl)
  show SPW mi_Sta_tellWord 219 0 [some (vR 1), some (vI word), some (vI what), none] [] (st μ) (some (vI (wordS m word what))) (st (μ))
  by_cases h1 : word < 0 ∨ 63 < word
  · refine r_aloadn dd_Sta_tellWord_0 rfl ?_
    refine r_iloadn dd_Sta_tellWord_1 rfl ?_
    refine r_V1W dd_Sta_tellWord_2 ml_Sta_101 ok_Sta_blockAt vi_Sta_blockAt vk_1 (by decide) (clS rfl (Nat.le_refl _) (rmOK_self _ _)) rfl (c_Sta_blockAt_n hR (by omega)) ?_
    refine r_astoren (L' := [_, _, _, _]) dd_Sta_tellWord_5 rfl rfl ?_
    refine r_aloadn dd_Sta_tellWord_6 rfl ?_
    refine r_ifnonnullN dd_Sta_tellWord_7 ?_
    refine r_iconst dd_Sta_tellWord_10 ⟨by decide, by decide⟩ ?_
    exact r_retI dd_Sta_tellWord_11 (by unfold wordS; (repeat (first | rw [if_pos (by omega)] | rw [if_neg (by omega)])); first | done | omega | (congr 1; omega) | exact (b2_t (by first | assumption | omega)).symm | exact (b2_f (by first | assumption | omega)).symm) rfl
  · obtain ⟨j, hj, j0, j1, q1, q2, hu⟩ := tile hR.2.1 hR.2.2 (w := word) (by omega) (by omega)
    have hbj := hR.blk j0 j1
    have hoj := hR.own j0 j1
    have hwj := hR.2.1.1 (4 * j) (by omega) (by omega)
    have hsn := sn_wz hbj.2.1 hbj.2.2.1 (by omega)
    have hgi : grdM m word ↔ (owd m (4 * j) ∧ (word = 4 * j ∨ word = 4 * j + m (320 + 4 * j) + 1)) := by unfold grdM; rw [hj]
    refine r_aloadn dd_Sta_tellWord_0 rfl ?_
    refine r_iloadn dd_Sta_tellWord_1 rfl ?_
    refine r_V1W dd_Sta_tellWord_2 ml_Sta_101 ok_Sta_blockAt vi_Sta_blockAt vk_1 (by decide) (clS rfl (Nat.le_refl _) (rmOK_self _ _)) rfl (c_Sta_blockAt_s hR ⟨j0, j1⟩ ⟨q1, q2⟩ hu) ?_
    refine r_astoren (L' := [_, _, _, _]) dd_Sta_tellWord_5 rfl rfl ?_
    refine r_aloadn dd_Sta_tellWord_6 rfl ?_
    refine r_ifnonnullR dd_Sta_tellWord_7 ?_
    refine r_iloadn dd_Sta_tellWord_12 rfl ?_
    by_cases s13_0 : what = 0
    · refine r_tabAt (tgt := 44) (off := 31) dd_Sta_tellWord_13 s13_0 (by decide) rfl rfl ?_
      refine r_aloadn dd_Sta_tellWord_44 rfl ?_
      refine r_iloadn dd_Sta_tellWord_45 rfl ?_
      refine r_V1W dd_Sta_tellWord_46 ml_Sta_112 ok_Sta_valueAt vi_Sta_valueAt vk_1 (by decide) (clS rfl (Nat.le_refl _) (rmOK_self _ _)) rfl (c_Sta_valueAt hR (by omega)) ?_
      exact r_retI dd_Sta_tellWord_49 (by unfold wordS; (repeat (first | rw [if_pos (by omega)] | rw [if_neg (by omega)])); first | done | omega | (rw [hj]; omega) | (rw [Int.zero_add]; done) | exact (b2_t (hgi.mpr (by omega))).symm | exact (b2_f (fun q => by have q := hgi.mp q; omega)).symm) rfl
    by_cases s13_1 : what = 1
    · refine r_tabAt (tgt := 50) (off := 37) dd_Sta_tellWord_13 s13_1 (by decide) rfl rfl ?_
      refine r_aloadn dd_Sta_tellWord_50 rfl ?_
      refine r_V0W dd_Sta_tellWord_51 ml_Sta_169 ok_Blk_isOwned vi_Blk_isOwned (by first | assumption | exact vk_blk (by omega) (by omega) | exact vk_tsk (by omega) (by omega) | exact vk_cmd (by omega) (by omega)) (by decide) (clS rfl (Nat.le_refl _) (rmOK_self _ _)) rfl (c_Blk_isOwned (vk_blk j0 j1)) ?_
      refine r_if_eq_b dd_Sta_tellWord_54 (fun c_54 => ?_) (fun c_54 => ?_)
      · refine r_bip dd_Sta_tellWord_64 ⟨by decide, by decide⟩ ?_
        exact r_retI dd_Sta_tellWord_66 (by unfold wordS; (repeat (first | rw [if_pos (by omega)] | rw [if_neg (by omega)])); first | done | omega | (rw [hj]; omega) | (rw [Int.zero_add]; done) | exact (b2_t (hgi.mpr (by omega))).symm | exact (b2_f (fun q => by have q := hgi.mp q; omega)).symm) rfl
      · refine r_aloadn dd_Sta_tellWord_57 rfl ?_
        refine r_getI dd_Sta_tellWord_58 fl_Sta_78 (kI := 3) rfl fi_Blk_3 (vk_blk j0 j1) ?_
        refine r_goto dd_Sta_tellWord_61 ?_
        exact r_retI dd_Sta_tellWord_66 (by unfold wordS; (repeat (first | rw [if_pos (by omega)] | rw [if_neg (by omega)])); first | done | omega | (rw [hj]; omega) | (rw [Int.zero_add]; done) | exact (b2_t (hgi.mpr (by omega))).symm | exact (b2_f (fun q => by have q := hgi.mp q; omega)).symm) rfl
    by_cases s13_2 : what = 2
    · refine r_tabAt (tgt := 67) (off := 54) dd_Sta_tellWord_13 s13_2 (by decide) rfl rfl ?_
      refine r_aloadn dd_Sta_tellWord_67 rfl ?_
      refine r_iloadn dd_Sta_tellWord_68 rfl ?_
      refine r_V1W dd_Sta_tellWord_69 ml_Sta_176 ok_Blk_hasGuardAt vi_Blk_hasGuardAt (by first | assumption | exact vk_blk (by omega) (by omega) | exact vk_tsk (by omega) (by omega) | exact vk_cmd (by omega) (by omega)) (by decide) (clS rfl (Nat.le_refl _) (rmOK_self _ _)) rfl (c_Blk_hasGuardAt (vk_blk j0 j1) (by omega) (by omega)) ?_
      refine r_if_eq_b dd_Sta_tellWord_72 (fun c_72 => ?_) (fun c_72 => ?_)
      · refine r_iconst dd_Sta_tellWord_79 ⟨by decide, by decide⟩ ?_
        exact r_retI dd_Sta_tellWord_80 (by unfold wordS; (repeat (first | rw [if_pos (by omega)] | rw [if_neg (by omega)])); first | done | omega | (rw [hj]; omega) | (rw [Int.zero_add]; done) | exact (b2_t (hgi.mpr (by omega))).symm | exact (b2_f (fun q => by have q := hgi.mp q; omega)).symm) rfl
      · refine r_iconst dd_Sta_tellWord_75 ⟨by decide, by decide⟩ ?_
        refine r_goto dd_Sta_tellWord_76 ?_
        exact r_retI dd_Sta_tellWord_80 (by unfold wordS; (repeat (first | rw [if_pos (by omega)] | rw [if_neg (by omega)])); first | done | omega | (rw [hj]; omega) | (rw [Int.zero_add]; done) | exact (b2_t (hgi.mpr (by omega))).symm | exact (b2_f (fun q => by have q := hgi.mp q; omega)).symm) rfl
    by_cases s13_3 : what = 3
    · refine r_tabAt (tgt := 81) (off := 68) dd_Sta_tellWord_13 s13_3 (by decide) rfl rfl ?_
      refine r_aloadn dd_Sta_tellWord_81 rfl ?_
      refine r_getI dd_Sta_tellWord_82 fl_Sta_151 (kI := 1) rfl fi_Blk_1 (vk_blk j0 j1) ?_
      exact r_retI dd_Sta_tellWord_85 (by unfold wordS; (repeat (first | rw [if_pos (by omega)] | rw [if_neg (by omega)])); first | done | omega | (rw [hj]; omega) | (rw [Int.zero_add]; done) | exact (b2_t (hgi.mpr (by omega))).symm | exact (b2_f (fun q => by have q := hgi.mp q; omega)).symm) rfl
    refine r_tabOut (tgt := 86) dd_Sta_tellWord_13 (by omega) rfl ?_
    refine r_bip dd_Sta_tellWord_86 ⟨by decide, by decide⟩ ?_
    exact r_retI dd_Sta_tellWord_88 (by unfold wordS; (repeat (first | rw [if_pos (by omega)] | rw [if_neg (by omega)])); first | done | omega | (rw [hj]; omega) | (rw [Int.zero_add]; done) | exact (b2_t (hgi.mpr (by omega))).symm | exact (b2_f (fun q => by have q := hgi.mp q; omega)).symm) rfl
theorem c_Sta_tellTask {μ : Int → Int → Int} {K : Int} {m : Int → Int} (hR : RI K μ m) {t what : Int} : MetC mi_Sta_tellTask [vR 1, vI t, vI what] (st μ) (some (vI (taskS m t what))) (st (μ)) := by
  refine met_of ?_ (Nat.le_of_ble_eq_true rfl) (by decide) trivial (by decide) (Nat.le_of_ble_eq_true rfl)
  show SPW mi_Sta_tellTask 219 0 [some (vR 1), some (vI t), some (vI what), none] [] (st μ) (some (vI (taskS m t what))) (st (μ))
  by_cases h1 : t < 0 ∨ 5 < t
  · refine r_aloadn dd_Sta_tellTask_0 rfl ?_
    refine r_iloadn dd_Sta_tellTask_1 rfl ?_
    refine r_V1W dd_Sta_tellTask_2 ml_Sta_90 ok_Sta_taskOf vi_Sta_taskOf vk_1 (by decide) (clS rfl (Nat.le_refl _) (rmOK_self _ _)) rfl (c_Sta_taskOf_n (by omega)) ?_
    refine r_astoren (L' := [_, _, _, _]) dd_Sta_tellTask_5 rfl rfl ?_
    refine r_aloadn dd_Sta_tellTask_6 rfl ?_
    refine r_ifnonnullN dd_Sta_tellTask_7 ?_
    refine r_iconst dd_Sta_tellTask_10 ⟨by decide, by decide⟩ ?_
    exact r_retI dd_Sta_tellTask_11 (by unfold taskS; (repeat (first | rw [if_pos (by omega)] | rw [if_neg (by omega)])); first | done | omega | (congr 1; omega) | exact (b2_t (by first | assumption | omega)).symm | exact (b2_f (by first | assumption | omega)).symm) rfl
  · have ht := hR.tsk (t := t) (by omega) (by omega)
    have htl := hR.2.1.2.1 t (by omega) (by omega)
    unfold tskR at ht
    refine r_aloadn dd_Sta_tellTask_0 rfl ?_
    refine r_iloadn dd_Sta_tellTask_1 rfl ?_
    refine r_V1W dd_Sta_tellTask_2 ml_Sta_90 ok_Sta_taskOf vi_Sta_taskOf vk_1 (by decide) (clS rfl (Nat.le_refl _) (rmOK_self _ _)) rfl (c_Sta_taskOf_s (by omega)) ?_
    refine r_astoren (L' := [_, _, _, _]) dd_Sta_tellTask_5 rfl rfl ?_
    refine r_aloadn dd_Sta_tellTask_6 rfl ?_
    refine r_ifnonnullR dd_Sta_tellTask_7 ?_
    refine r_iloadn dd_Sta_tellTask_12 rfl ?_
    by_cases s13_0 : what = 0
    · refine r_tabAt (tgt := 56) (off := 43) dd_Sta_tellTask_13 s13_0 (by decide) rfl rfl ?_
      refine r_aloadn dd_Sta_tellTask_56 rfl ?_
      refine r_getI dd_Sta_tellTask_57 fl_Sta_104 (kI := 0) rfl fi_Tsk_0 (vk_tsk (by omega) (by omega)) ?_
      refine r_if_eq dd_Sta_tellTask_60 (fun c_60 => ?_) (fun c_60 => ?_)
      · refine r_iconst dd_Sta_tellTask_67 ⟨by decide, by decide⟩ ?_
        exact r_retI dd_Sta_tellTask_68 (by unfold taskS; (repeat (first | rw [if_pos (by omega)] | rw [if_neg (by omega)])); first | done | omega | (congr 1; omega) | exact (b2_t (by first | assumption | omega)).symm | exact (b2_f (by first | assumption | omega)).symm) rfl
      · refine r_iconst dd_Sta_tellTask_63 ⟨by decide, by decide⟩ ?_
        refine r_goto dd_Sta_tellTask_64 ?_
        exact r_retI dd_Sta_tellTask_68 (by unfold taskS; (repeat (first | rw [if_pos (by omega)] | rw [if_neg (by omega)])); first | done | omega | (congr 1; omega) | exact (b2_t (by first | assumption | omega)).symm | exact (b2_f (by first | assumption | omega)).symm) rfl
    by_cases s13_1 : what = 1
    · refine r_tabAt (tgt := 69) (off := 56) dd_Sta_tellTask_13 s13_1 (by decide) rfl rfl ?_
      refine r_aloadn dd_Sta_tellTask_69 rfl ?_
      refine r_iloadn dd_Sta_tellTask_70 rfl ?_
      refine r_V1W dd_Sta_tellTask_71 ml_Sta_124 ok_Sta_blocksOf vi_Sta_blocksOf vk_1 (by decide) (clS rfl (Nat.le_refl _) (rmOK_self _ _)) rfl (c_Sta_blocksOf hR (by omega)) ?_
      exact r_retI dd_Sta_tellTask_74 (by unfold taskS; (repeat (first | rw [if_pos (by omega)] | rw [if_neg (by omega)])); first | done | omega | (congr 1; omega) | exact (b2_t (by first | assumption | omega)).symm | exact (b2_f (by first | assumption | omega)).symm) rfl
    by_cases s13_2 : what = 2
    · refine r_tabAt (tgt := 75) (off := 62) dd_Sta_tellTask_13 s13_2 (by decide) rfl rfl ?_
      refine r_aloadn dd_Sta_tellTask_75 rfl ?_
      refine r_iloadn dd_Sta_tellTask_76 rfl ?_
      refine r_V1W dd_Sta_tellTask_77 ml_Sta_185 ok_Sta_wordsOf vi_Sta_wordsOf vk_1 (by decide) (clS rfl (Nat.le_refl _) (rmOK_self _ _)) rfl (c_Sta_wordsOf hR (by omega)) ?_
      exact r_retI dd_Sta_tellTask_80 (by unfold taskS; (repeat (first | rw [if_pos (by omega)] | rw [if_neg (by omega)])); first | done | omega | (congr 1; omega) | exact (b2_t (by first | assumption | omega)).symm | exact (b2_f (by first | assumption | omega)).symm) rfl
    by_cases s13_3 : what = 3
    · refine r_tabAt (tgt := 81) (off := 68) dd_Sta_tellTask_13 s13_3 (by decide) rfl rfl ?_
      refine r_aloadn dd_Sta_tellTask_81 rfl ?_
      refine r_iloadn dd_Sta_tellTask_82 rfl ?_
      refine r_V1W dd_Sta_tellTask_83 ml_Sta_186 ok_Sta_askedBy vi_Sta_askedBy vk_1 (by decide) (clS rfl (Nat.le_refl _) (rmOK_self _ _)) rfl (c_Sta_askedBy hR (by omega)) ?_
      exact r_retI dd_Sta_tellTask_86 (by unfold taskS; (repeat (first | rw [if_pos (by omega)] | rw [if_neg (by omega)])); first | done | omega | (congr 1; omega) | exact (b2_t (by first | assumption | omega)).symm | exact (b2_f (by first | assumption | omega)).symm) rfl
    by_cases s13_4 : what = 4
    · refine r_tabAt (tgt := 87) (off := 74) dd_Sta_tellTask_13 s13_4 (by decide) rfl rfl ?_
      refine r_aloadn dd_Sta_tellTask_87 rfl ?_
      refine r_getI dd_Sta_tellTask_88 fl_Sta_127 (kI := 1) rfl fi_Tsk_1 (vk_tsk (by omega) (by omega)) ?_
      exact r_retI dd_Sta_tellTask_91 (by unfold taskS; (repeat (first | rw [if_pos (by omega)] | rw [if_neg (by omega)])); first | done | omega | (congr 1; omega) | exact (b2_t (by first | assumption | omega)).symm | exact (b2_f (by first | assumption | omega)).symm) rfl
    by_cases s13_5 : what = 5
    · refine r_tabAt (tgt := 92) (off := 79) dd_Sta_tellTask_13 s13_5 (by decide) rfl rfl ?_
      refine r_aloadn dd_Sta_tellTask_92 rfl ?_
      refine r_iloadn dd_Sta_tellTask_93 rfl ?_
      refine r_V1W dd_Sta_tellTask_94 ml_Sta_189 ok_Sta_leaksOf vi_Sta_leaksOf vk_1 (by decide) (clS rfl (Nat.le_refl _) (rmOK_self _ _)) rfl (c_Sta_leaksOf hR (by omega)) ?_
      exact r_retI dd_Sta_tellTask_97 (by unfold taskS; (repeat (first | rw [if_pos (by omega)] | rw [if_neg (by omega)])); first | done | omega | (congr 1; omega) | exact (b2_t (by first | assumption | omega)).symm | exact (b2_f (by first | assumption | omega)).symm) rfl
    by_cases s13_6 : what = 6
    · refine r_tabAt (tgt := 98) (off := 85) dd_Sta_tellTask_13 s13_6 (by decide) rfl rfl ?_
      refine r_aloadn dd_Sta_tellTask_98 rfl ?_
      refine r_getI dd_Sta_tellTask_99 fl_Sta_115 (kI := 2) rfl fi_Tsk_2 (vk_tsk (by omega) (by omega)) ?_
      exact r_retI dd_Sta_tellTask_102 (by unfold taskS; (repeat (first | rw [if_pos (by omega)] | rw [if_neg (by omega)])); first | done | omega | (congr 1; omega) | exact (b2_t (by first | assumption | omega)).symm | exact (b2_f (by first | assumption | omega)).symm) rfl
    refine r_tabOut (tgt := 103) dd_Sta_tellTask_13 (by omega) rfl ?_
    refine r_bip dd_Sta_tellTask_103 ⟨by decide, by decide⟩ ?_
    exact r_retI dd_Sta_tellTask_105 (by unfold taskS; (repeat (first | rw [if_pos (by omega)] | rw [if_neg (by omega)])); first | done | omega | (congr 1; omega) | exact (b2_t (by first | assumption | omega)).symm | exact (b2_f (by first | assumption | omega)).symm) rfl
theorem c_Sta_tellSize {μ : Int → Int → Int} {K : Int} {m : Int → Int} (hR : RI K μ m) {z what : Int} : MetC mi_Sta_tellSize [vR 1, vI z, vI what] (st μ) (some (vI (sizeS m z what))) (st (μ)) := by
  refine met_of ?_ (Nat.le_of_ble_eq_true rfl) (by decide) trivial (by decide) (Nat.le_of_ble_eq_true rfl)
  show SPW mi_Sta_tellSize 219 0 [some (vR 1), some (vI z), some (vI what), none] [] (st μ) (some (vI (sizeS m z what))) (st (μ))
  by_cases h1 : lowF m (p4 z) = -5
  · refine r_iloadn dd_Sta_tellSize_0 rfl ?_
    refine r_if_lt dd_Sta_tellSize_1 (fun c_1 => ?_) (fun c_1 => ?_)
    · refine r_iconst dd_Sta_tellSize_9 ⟨by decide, by decide⟩ ?_
      exact r_retI dd_Sta_tellSize_10 (by unfold sizeS; (repeat (first | rw [if_pos (by omega)] | rw [if_neg (by omega)])); first | done | omega | (congr 1; omega)) rfl
    · refine r_iloadn dd_Sta_tellSize_4 rfl ?_
      refine r_iconst dd_Sta_tellSize_5 ⟨by decide, by decide⟩ ?_
      refine r_icmp_lt dd_Sta_tellSize_6 (fun c_6 => ?_) (fun c_6 => ?_)
      · refine r_iloadn dd_Sta_tellSize_11 rfl ?_
        by_cases s12_0 : what = 0
        · refine r_tabAt (tgt := 40) (off := 28) dd_Sta_tellSize_12 s12_0 (by decide) rfl rfl ?_
          refine r_aloadn dd_Sta_tellSize_40 rfl ?_
          refine r_iloadn dd_Sta_tellSize_41 rfl ?_
          refine r_iconst dd_Sta_tellSize_42 ⟨by decide, by decide⟩ ?_
          refine r_V2W dd_Sta_tellSize_43 ml_Sta_192 ok_Sta_blocksOfSize vi_Sta_blocksOfSize vk_1 (by decide) (clS rfl (Nat.le_refl _) (rmOK_self _ _)) rfl (c_Sta_bos0 hR (by omega)) ?_
          exact r_retI dd_Sta_tellSize_46 (by unfold sizeS; (repeat (first | rw [if_pos (by omega)] | rw [if_neg (by omega)])); first | done | omega | (congr 1; omega)) rfl
        by_cases s12_1 : what = 1
        · refine r_tabAt (tgt := 47) (off := 35) dd_Sta_tellSize_12 s12_1 (by decide) rfl rfl ?_
          refine r_aloadn dd_Sta_tellSize_47 rfl ?_
          refine r_iloadn dd_Sta_tellSize_48 rfl ?_
          refine r_iconst dd_Sta_tellSize_49 ⟨by decide, by decide⟩ ?_
          refine r_V2W dd_Sta_tellSize_50 ml_Sta_192 ok_Sta_blocksOfSize vi_Sta_blocksOfSize vk_1 (by decide) (clS rfl (Nat.le_refl _) (rmOK_self _ _)) rfl (c_Sta_bos1 hR (by omega)) ?_
          exact r_retI dd_Sta_tellSize_53 (by unfold sizeS; (repeat (first | rw [if_pos (by omega)] | rw [if_neg (by omega)])); first | done | omega | (congr 1; omega)) rfl
        by_cases s12_2 : what = 2
        · refine r_tabAt (tgt := 54) (off := 42) dd_Sta_tellSize_12 s12_2 (by decide) rfl rfl ?_
          refine r_aloadn dd_Sta_tellSize_54 rfl ?_
          refine r_iloadn dd_Sta_tellSize_55 rfl ?_
          refine r_V1W dd_Sta_tellSize_56 ml_Sta_145 ok_Sta_lowestFree vi_Sta_lowestFree vk_1 (by decide) (clS rfl (Nat.le_refl _) (rmOK_self _ _)) rfl (lowFr_n hR (by omega) rfl h1) ?_
          refine r_astoren (L' := [_, _, _, _]) dd_Sta_tellSize_59 rfl rfl ?_
          refine r_aloadn dd_Sta_tellSize_60 rfl ?_
          refine r_ifnonnullN dd_Sta_tellSize_61 ?_
          refine r_bip dd_Sta_tellSize_64 ⟨by decide, by decide⟩ ?_
          refine r_goto dd_Sta_tellSize_66 ?_
          exact r_retI dd_Sta_tellSize_73 (by unfold sizeS; (repeat (first | rw [if_pos (by omega)] | rw [if_neg (by omega)])); first | done | omega | (congr 1; omega)) rfl
        refine r_tabOut (tgt := 74) dd_Sta_tellSize_12 (by omega) rfl ?_
        refine r_bip dd_Sta_tellSize_74 ⟨by decide, by decide⟩ ?_
        exact r_retI dd_Sta_tellSize_76 (by unfold sizeS; (repeat (first | rw [if_pos (by omega)] | rw [if_neg (by omega)])); first | done | omega | (congr 1; omega)) rfl
      · refine r_iconst dd_Sta_tellSize_9 ⟨by decide, by decide⟩ ?_
        exact r_retI dd_Sta_tellSize_10 (by unfold sizeS; (repeat (first | rw [if_pos (by omega)] | rw [if_neg (by omega)])); first | done | omega | (congr 1; omega)) rfl
  · obtain ⟨j, hj, j0, j1⟩ := lowF_4 hR.2.2 h1
    have hbj := hR.blk j0 j1
    have hoj := hR.own j0 j1
    have hwj := hR.2.1.1 (4 * j) (by omega) (by omega)
    refine r_iloadn dd_Sta_tellSize_0 rfl ?_
    refine r_if_lt dd_Sta_tellSize_1 (fun c_1 => ?_) (fun c_1 => ?_)
    · refine r_iconst dd_Sta_tellSize_9 ⟨by decide, by decide⟩ ?_
      exact r_retI dd_Sta_tellSize_10 (by unfold sizeS; (repeat (first | rw [if_pos (by omega)] | rw [if_neg (by omega)])); first | done | omega | (congr 1; omega)) rfl
    · refine r_iloadn dd_Sta_tellSize_4 rfl ?_
      refine r_iconst dd_Sta_tellSize_5 ⟨by decide, by decide⟩ ?_
      refine r_icmp_lt dd_Sta_tellSize_6 (fun c_6 => ?_) (fun c_6 => ?_)
      · refine r_iloadn dd_Sta_tellSize_11 rfl ?_
        by_cases s12_0 : what = 0
        · refine r_tabAt (tgt := 40) (off := 28) dd_Sta_tellSize_12 s12_0 (by decide) rfl rfl ?_
          refine r_aloadn dd_Sta_tellSize_40 rfl ?_
          refine r_iloadn dd_Sta_tellSize_41 rfl ?_
          refine r_iconst dd_Sta_tellSize_42 ⟨by decide, by decide⟩ ?_
          refine r_V2W dd_Sta_tellSize_43 ml_Sta_192 ok_Sta_blocksOfSize vi_Sta_blocksOfSize vk_1 (by decide) (clS rfl (Nat.le_refl _) (rmOK_self _ _)) rfl (c_Sta_bos0 hR (by omega)) ?_
          exact r_retI dd_Sta_tellSize_46 (by unfold sizeS; (repeat (first | rw [if_pos (by omega)] | rw [if_neg (by omega)])); first | done | omega | (congr 1; omega)) rfl
        by_cases s12_1 : what = 1
        · refine r_tabAt (tgt := 47) (off := 35) dd_Sta_tellSize_12 s12_1 (by decide) rfl rfl ?_
          refine r_aloadn dd_Sta_tellSize_47 rfl ?_
          refine r_iloadn dd_Sta_tellSize_48 rfl ?_
          refine r_iconst dd_Sta_tellSize_49 ⟨by decide, by decide⟩ ?_
          refine r_V2W dd_Sta_tellSize_50 ml_Sta_192 ok_Sta_blocksOfSize vi_Sta_blocksOfSize vk_1 (by decide) (clS rfl (Nat.le_refl _) (rmOK_self _ _)) rfl (c_Sta_bos1 hR (by omega)) ?_
          exact r_retI dd_Sta_tellSize_53 (by unfold sizeS; (repeat (first | rw [if_pos (by omega)] | rw [if_neg (by omega)])); first | done | omega | (congr 1; omega)) rfl
        by_cases s12_2 : what = 2
        · refine r_tabAt (tgt := 54) (off := 42) dd_Sta_tellSize_12 s12_2 (by decide) rfl rfl ?_
          refine r_aloadn dd_Sta_tellSize_54 rfl ?_
          refine r_iloadn dd_Sta_tellSize_55 rfl ?_
          refine r_V1W dd_Sta_tellSize_56 ml_Sta_145 ok_Sta_lowestFree vi_Sta_lowestFree vk_1 (by decide) (clS rfl (Nat.le_refl _) (rmOK_self _ _)) rfl (lowFr_s hR (by omega) rfl hj j0) ?_
          refine r_astoren (L' := [_, _, _, _]) dd_Sta_tellSize_59 rfl rfl ?_
          refine r_aloadn dd_Sta_tellSize_60 rfl ?_
          refine r_ifnonnullR dd_Sta_tellSize_61 ?_
          refine r_aloadn dd_Sta_tellSize_69 rfl ?_
          refine r_getI dd_Sta_tellSize_70 fl_Sta_98 (kI := 0) rfl fi_Blk_0 (vk_blk j0 j1) ?_
          exact r_retI dd_Sta_tellSize_73 (by unfold sizeS; (repeat (first | rw [if_pos (by omega)] | rw [if_neg (by omega)])); first | done | omega | (congr 1; omega)) rfl
        refine r_tabOut (tgt := 74) dd_Sta_tellSize_12 (by omega) rfl ?_
        refine r_bip dd_Sta_tellSize_74 ⟨by decide, by decide⟩ ?_
        exact r_retI dd_Sta_tellSize_76 (by unfold sizeS; (repeat (first | rw [if_pos (by omega)] | rw [if_neg (by omega)])); first | done | omega | (congr 1; omega)) rfl
      · refine r_iconst dd_Sta_tellSize_9 ⟨by decide, by decide⟩ ?_
        exact r_retI dd_Sta_tellSize_10 (by unfold sizeS; (repeat (first | rw [if_pos (by omega)] | rw [if_neg (by omega)])); first | done | omega | (congr 1; omega)) rfl
theorem c_Sta_tellCount {μ : Int → Int → Int} {K : Int} {m : Int → Int} (hR : RI K μ m) {what : Int} : MetC mi_Sta_tellCount [vR 1, vI what] (st μ) (some (vI (cntC m what))) (st (μ)) := by
  refine met_of ?_ (Nat.le_of_ble_eq_true rfl) (by decide) trivial (by decide) (Nat.le_of_ble_eq_true rfl)
  show SPW mi_Sta_tellCount 219 0 [some (vR 1), some (vI what)] [] (st μ) (some (vI (cntC m what))) (st (μ))
  have f1 := frwM_bd hR.2.1
  have f2 := askdM_bd hR.2.1 6
  have e1 : μ 1 3 = m 466 := hR.1.2.2.2.1
  have e2 : μ 1 4 = m 467 := hR.1.2.2.2.2.1
  have e3 : μ 1 5 = m 471 := hR.1.2.2.2.2.2.1
  have e4 : μ 1 6 = m 468 := hR.1.2.2.2.2.2.2.1
  have e5 : μ 1 7 = m 469 := hR.1.2.2.2.2.2.2.2.1
  have e6 : μ 1 8 = m 470 := hR.1.2.2.2.2.2.2.2.2
  refine r_iloadn dd_Sta_tellCount_0 rfl ?_
  by_cases s1_0 : what = 0
  · refine r_tabAt (tgt := 56) (off := 55) dd_Sta_tellCount_1 s1_0 (by decide) rfl rfl ?_
    refine r_aloadn dd_Sta_tellCount_56 rfl ?_
    refine r_V0W dd_Sta_tellCount_57 ml_Sta_196 ok_Sta_ownedBlocks vi_Sta_ownedBlocks vk_1 (by decide) (clS rfl (Nat.le_refl _) (rmOK_self _ _)) rfl (c_Sta_ownedBlocks hR) ?_
    exact r_retI dd_Sta_tellCount_60 (by unfold cntC; (repeat (first | rw [if_pos (by omega)] | rw [if_neg (by omega)])); first | done | omega | (congr 1; omega) | exact (b2_t (by first | assumption | omega)).symm | exact (b2_f (by first | assumption | omega)).symm) rfl
  by_cases s1_1 : what = 1
  · refine r_tabAt (tgt := 61) (off := 60) dd_Sta_tellCount_1 s1_1 (by decide) rfl rfl ?_
    refine r_bip dd_Sta_tellCount_61 ⟨by decide, by decide⟩ ?_
    refine r_aloadn dd_Sta_tellCount_63 rfl ?_
    refine r_V0W dd_Sta_tellCount_64 ml_Sta_199 ok_Sta_ownedWords vi_Sta_ownedWords vk_1 (by decide) (clS rfl (Nat.le_refl _) (rmOK_self _ _)) rfl (c_Sta_ownedWords hR) ?_
    refine r_isub dd_Sta_tellCount_67 ⟨by omega, by omega⟩ ?_
    exact r_retI dd_Sta_tellCount_68 (by unfold cntC; (repeat (first | rw [if_pos (by omega)] | rw [if_neg (by omega)])); first | done | omega | (congr 1; omega) | exact (b2_t (by first | assumption | omega)).symm | exact (b2_f (by first | assumption | omega)).symm) rfl
  by_cases s1_2 : what = 2
  · refine r_tabAt (tgt := 69) (off := 68) dd_Sta_tellCount_1 s1_2 (by decide) rfl rfl ?_
    refine r_aloadn dd_Sta_tellCount_69 rfl ?_
    refine r_V0W dd_Sta_tellCount_70 ml_Sta_199 ok_Sta_ownedWords vi_Sta_ownedWords vk_1 (by decide) (clS rfl (Nat.le_refl _) (rmOK_self _ _)) rfl (c_Sta_ownedWords hR) ?_
    refine r_aloadn dd_Sta_tellCount_73 rfl ?_
    refine r_V0W dd_Sta_tellCount_74 ml_Sta_202 ok_Sta_askedWords vi_Sta_askedWords vk_1 (by decide) (clS rfl (Nat.le_refl _) (rmOK_self _ _)) rfl (c_Sta_askedWords hR) ?_
    refine r_isub dd_Sta_tellCount_77 ⟨by omega, by omega⟩ ?_
    exact r_retI dd_Sta_tellCount_78 (by unfold cntC; (repeat (first | rw [if_pos (by omega)] | rw [if_neg (by omega)])); first | done | omega | (congr 1; omega) | exact (b2_t (by first | assumption | omega)).symm | exact (b2_f (by first | assumption | omega)).symm) rfl
  by_cases s1_3 : what = 3
  · refine r_tabAt (tgt := 79) (off := 78) dd_Sta_tellCount_1 s1_3 (by decide) rfl rfl ?_
    refine r_aloadn dd_Sta_tellCount_79 rfl ?_
    refine r_V0W dd_Sta_tellCount_80 ml_Sta_130 ok_Sta_leaks vi_Sta_leaks vk_1 (by decide) (clS rfl (Nat.le_refl _) (rmOK_self _ _)) rfl (c_Sta_leaks hR) ?_
    exact r_retI dd_Sta_tellCount_83 (by unfold cntC; (repeat (first | rw [if_pos (by omega)] | rw [if_neg (by omega)])); first | done | omega | (congr 1; omega) | exact (b2_t (by first | assumption | omega)).symm | exact (b2_f (by first | assumption | omega)).symm) rfl
  by_cases s1_4 : what = 4
  · refine r_tabAt (tgt := 84) (off := 83) dd_Sta_tellCount_1 s1_4 (by decide) rfl rfl ?_
    refine r_aloadn dd_Sta_tellCount_84 rfl ?_
    refine r_getI dd_Sta_tellCount_85 fl_Sta_48 (kI := 3) rfl fi_Sta_3 vk_1 ?_
    exact r_retI dd_Sta_tellCount_88 (by unfold cntC; (repeat (first | rw [if_pos (by omega)] | rw [if_neg (by omega)])); first | done | omega | (congr 1; omega) | exact (b2_t (by first | assumption | omega)).symm | exact (b2_f (by first | assumption | omega)).symm) rfl
  by_cases s1_5 : what = 5
  · refine r_tabAt (tgt := 89) (off := 88) dd_Sta_tellCount_1 s1_5 (by decide) rfl rfl ?_
    refine r_aloadn dd_Sta_tellCount_89 rfl ?_
    refine r_getI dd_Sta_tellCount_90 fl_Sta_54 (kI := 6) rfl fi_Sta_6 vk_1 ?_
    exact r_retI dd_Sta_tellCount_93 (by unfold cntC; (repeat (first | rw [if_pos (by omega)] | rw [if_neg (by omega)])); first | done | omega | (congr 1; omega) | exact (b2_t (by first | assumption | omega)).symm | exact (b2_f (by first | assumption | omega)).symm) rfl
  by_cases s1_6 : what = 6
  · refine r_tabAt (tgt := 94) (off := 93) dd_Sta_tellCount_1 s1_6 (by decide) rfl rfl ?_
    refine r_aloadn dd_Sta_tellCount_94 rfl ?_
    refine r_getI dd_Sta_tellCount_95 fl_Sta_57 (kI := 7) rfl fi_Sta_7 vk_1 ?_
    exact r_retI dd_Sta_tellCount_98 (by unfold cntC; (repeat (first | rw [if_pos (by omega)] | rw [if_neg (by omega)])); first | done | omega | (congr 1; omega) | exact (b2_t (by first | assumption | omega)).symm | exact (b2_f (by first | assumption | omega)).symm) rfl
  by_cases s1_7 : what = 7
  · refine r_tabAt (tgt := 99) (off := 98) dd_Sta_tellCount_1 s1_7 (by decide) rfl rfl ?_
    refine r_aloadn dd_Sta_tellCount_99 rfl ?_
    refine r_getI dd_Sta_tellCount_100 fl_Sta_60 (kI := 8) rfl fi_Sta_8 vk_1 ?_
    exact r_retI dd_Sta_tellCount_103 (by unfold cntC; (repeat (first | rw [if_pos (by omega)] | rw [if_neg (by omega)])); first | done | omega | (congr 1; omega) | exact (b2_t (by first | assumption | omega)).symm | exact (b2_f (by first | assumption | omega)).symm) rfl
  by_cases s1_8 : what = 8
  · refine r_tabAt (tgt := 104) (off := 103) dd_Sta_tellCount_1 s1_8 (by decide) rfl rfl ?_
    refine r_aloadn dd_Sta_tellCount_104 rfl ?_
    refine r_getI dd_Sta_tellCount_105 fl_Sta_51 (kI := 5) rfl fi_Sta_5 vk_1 ?_
    exact r_retI dd_Sta_tellCount_108 (by unfold cntC; (repeat (first | rw [if_pos (by omega)] | rw [if_neg (by omega)])); first | done | omega | (congr 1; omega) | exact (b2_t (by first | assumption | omega)).symm | exact (b2_f (by first | assumption | omega)).symm) rfl
  by_cases s1_9 : what = 9
  · refine r_tabAt (tgt := 109) (off := 108) dd_Sta_tellCount_1 s1_9 (by decide) rfl rfl ?_
    refine r_aloadn dd_Sta_tellCount_109 rfl ?_
    refine r_getI dd_Sta_tellCount_110 fl_Sta_31 (kI := 4) rfl fi_Sta_4 vk_1 ?_
    exact r_retI dd_Sta_tellCount_113 (by unfold cntC; (repeat (first | rw [if_pos (by omega)] | rw [if_neg (by omega)])); first | done | omega | (congr 1; omega) | exact (b2_t (by first | assumption | omega)).symm | exact (b2_f (by first | assumption | omega)).symm) rfl
  refine r_tabOut (tgt := 114) dd_Sta_tellCount_1 (by omega) rfl ?_
  refine r_bip dd_Sta_tellCount_114 ⟨by decide, by decide⟩ ?_
  exact r_retI dd_Sta_tellCount_116 (by unfold cntC; (repeat (first | rw [if_pos (by omega)] | rw [if_neg (by omega)])); first | done | omega | (congr 1; omega) | exact (b2_t (by first | assumption | omega)).symm | exact (b2_f (by first | assumption | omega)).symm) rfl
