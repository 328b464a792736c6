/-! the class: put -/
theorem wr_no {m : Int → Int} {t b i v j : Int} (h : wrFM m t b i v < 0) (hj : begOf m b = 4 * j) (j0 : 0 ≤ j) (ht : 0 ≤ t ∧ t < 6) (hi : -64 ≤ i ∧ i ≤ 64) (hv : 1 ≤ v ∧ v ≤ 99) : m (256 + 4 * j) ≠ t ∨ m (448 + t) = 1 ∨ (4 * j + 1 + i < 0 ∨ 63 < 4 * j + 1 + i) := by
  apply Classical.byContradiction
  intro q
  have : wrFM m t b i v = 0 := by
    unfold wrFM
    rw [hj, if_neg (by omega), if_neg (by omega), if_neg (by omega)]
  omega

theorem c_Sta_put_e {μ : Int → Int → Int} {K : Int} {m : Int → Int} (hR : RI K μ m) {t b i v : Int} (h : wrFM m t b i v < 0) : MetC mi_Sta_put [vR 1, vI t, vI b, vI i, vI v] (st μ) (some (vI (wrFM m t b i v))) (st (μ)) := by
  refine met_of ?_ (Nat.le_of_ble_eq_true rfl) (by decide) trivial (by decide) (Nat.le_of_ble_eq_true rfl)
  show SPW mi_Sta_put 219 0 [some (vR 1), some (vI t), some (vI b), some (vI i), some (vI v), none, none, none, none, none] [] (st μ) (some (vI (wrFM m t b i v))) (st (μ))
  rcases (show ((t < 0 ∨ 6 ≤ t) ∧ begOf m b = -5) ∨ ((0 ≤ t ∧ t < 6) ∧ begOf m b = -5) ∨ ((t < 0 ∨ 6 ≤ t) ∧ begOf m b ≠ -5) ∨ ((0 ≤ t ∧ t < 6) ∧ begOf m b ≠ -5 ∧ ¬ (0 ≤ begOf m b + 1 + i ∧ begOf m b + 1 + i < 64)) ∨ ((0 ≤ t ∧ t < 6) ∧ begOf m b ≠ -5 ∧ (0 ≤ begOf m b + 1 + i ∧ begOf m b + 1 + i < 64)) by omega) with ⟨h1, h2⟩ | ⟨h1, h2⟩ | ⟨h1, h2⟩ | ⟨h1, h2, h4⟩ | ⟨h1, h2, h4⟩
  · refine r_aloadn dd_Sta_put_0 rfl ?_
    refine r_iloadn dd_Sta_put_1 rfl ?_
    refine r_V1W dd_Sta_put_2 ml_Sta_90 ok_Sta_taskOf vi_Sta_taskOf vk_1 (by decide) (clS rfl (Nat.le_refl _) (rmOK_self _ _)) rfl (c_Sta_taskOf_n (by omega)) ?_
    refine r_astore (L' := [_, _, _, _, _, _, _, _, _, _]) dd_Sta_put_5 rfl rfl ?_
    refine r_aloadn dd_Sta_put_7 rfl ?_
    refine r_iloadn dd_Sta_put_8 rfl ?_
    refine r_V1W dd_Sta_put_9 ml_Sta_87 ok_Sta_blockOf vi_Sta_blockOf vk_1 (by decide) (clS rfl (Nat.le_refl _) (rmOK_self _ _)) rfl (c_Sta_blockOf_n hR h2) ?_
    refine r_astore (L' := [_, _, _, _, _, _, _, _, _, _]) dd_Sta_put_12 rfl rfl ?_
    refine r_aload dd_Sta_put_14 rfl ?_
    refine r_ifnullN dd_Sta_put_16 ?_
    refine r_iconst dd_Sta_put_24 ⟨by decide, by decide⟩ ?_
    exact r_retI dd_Sta_put_25 (by first | (unfold wrFM; (try rw [hj]); (repeat (first | rw [if_pos (by omega)] | rw [if_neg (by omega)])); done) | (exfalso; omega)) rfl
  · refine r_aloadn dd_Sta_put_0 rfl ?_
    refine r_iloadn dd_Sta_put_1 rfl ?_
    refine r_V1W dd_Sta_put_2 ml_Sta_90 ok_Sta_taskOf vi_Sta_taskOf vk_1 (by decide) (clS rfl (Nat.le_refl _) (rmOK_self _ _)) rfl (c_Sta_taskOf_s (by omega)) ?_
    refine r_astore (L' := [_, _, _, _, _, _, _, _, _, _]) dd_Sta_put_5 rfl rfl ?_
    refine r_aloadn dd_Sta_put_7 rfl ?_
    refine r_iloadn dd_Sta_put_8 rfl ?_
    refine r_V1W dd_Sta_put_9 ml_Sta_87 ok_Sta_blockOf vi_Sta_blockOf vk_1 (by decide) (clS rfl (Nat.le_refl _) (rmOK_self _ _)) rfl (c_Sta_blockOf_n hR h2) ?_
    refine r_astore (L' := [_, _, _, _, _, _, _, _, _, _]) dd_Sta_put_12 rfl rfl ?_
    refine r_aload dd_Sta_put_14 rfl ?_
    refine r_ifnullR dd_Sta_put_16 ?_
    refine r_aload dd_Sta_put_19 rfl ?_
    refine r_ifnonnullN dd_Sta_put_21 ?_
    refine r_iconst dd_Sta_put_24 ⟨by decide, by decide⟩ ?_
    exact r_retI dd_Sta_put_25 (by first | (unfold wrFM; (try rw [hj]); (repeat (first | rw [if_pos (by omega)] | rw [if_neg (by omega)])); done) | (exfalso; omega)) rfl
  · obtain ⟨j, hj, j0, j1, ho, hn⟩ := begOf_4 hR.2.2 h2
    have hbj := hR.blk j0 j1
    have hbb := hbj.1
    have hoj := hbj.2.2.2.1 ho
    refine r_aloadn dd_Sta_put_0 rfl ?_
    refine r_iloadn dd_Sta_put_1 rfl ?_
    refine r_V1W dd_Sta_put_2 ml_Sta_90 ok_Sta_taskOf vi_Sta_taskOf vk_1 (by decide) (clS rfl (Nat.le_refl _) (rmOK_self _ _)) rfl (c_Sta_taskOf_n (by omega)) ?_
    refine r_astore (L' := [_, _, _, _, _, _, _, _, _, _]) dd_Sta_put_5 rfl rfl ?_
    refine r_aloadn dd_Sta_put_7 rfl ?_
    refine r_iloadn dd_Sta_put_8 rfl ?_
    refine r_V1W dd_Sta_put_9 ml_Sta_87 ok_Sta_blockOf vi_Sta_blockOf vk_1 (by decide) (clS rfl (Nat.le_refl _) (rmOK_self _ _)) rfl (c_Sta_blockOf_s hR hj j0) ?_
    refine r_astore (L' := [_, _, _, _, _, _, _, _, _, _]) dd_Sta_put_12 rfl rfl ?_
    refine r_aload dd_Sta_put_14 rfl ?_
    refine r_ifnullN dd_Sta_put_16 ?_
    refine r_iconst dd_Sta_put_24 ⟨by decide, by decide⟩ ?_
    exact r_retI dd_Sta_put_25 (by first | (unfold wrFM; (try rw [hj]); (repeat (first | rw [if_pos (by omega)] | rw [if_neg (by omega)])); done) | (exfalso; omega)) rfl
  · obtain ⟨j, hj, j0, j1, ho, hn⟩ := begOf_4 hR.2.2 h2
    have hbj := hR.blk j0 j1
    have hbb := hbj.1
    have hoj := hbj.2.2.2.1 ho
    have ht := hR.tsk (t := t) (by omega) (by omega)
    have htb := hR.2.1.2.1 t (by omega) (by omega)
    have hw := wr_no h hj j0 h1
    have h4 : 4 * j + 1 + i < 0 ∨ 64 ≤ 4 * j + 1 + i := by omega
    refine r_aloadn dd_Sta_put_0 rfl ?_
    refine r_iloadn dd_Sta_put_1 rfl ?_
    refine r_V1W dd_Sta_put_2 ml_Sta_90 ok_Sta_taskOf vi_Sta_taskOf vk_1 (by decide) (clS rfl (Nat.le_refl _) (rmOK_self _ _)) rfl (c_Sta_taskOf_s (by omega)) ?_
    refine r_astore (L' := [_, _, _, _, _, _, _, _, _, _]) dd_Sta_put_5 rfl rfl ?_
    refine r_aloadn dd_Sta_put_7 rfl ?_
    refine r_iloadn dd_Sta_put_8 rfl ?_
    refine r_V1W dd_Sta_put_9 ml_Sta_87 ok_Sta_blockOf vi_Sta_blockOf vk_1 (by decide) (clS rfl (Nat.le_refl _) (rmOK_self _ _)) rfl (c_Sta_blockOf_s hR hj j0) ?_
    refine r_astore (L' := [_, _, _, _, _, _, _, _, _, _]) dd_Sta_put_12 rfl rfl ?_
    refine r_aload dd_Sta_put_14 rfl ?_
    refine r_ifnullR dd_Sta_put_16 ?_
    refine r_aload dd_Sta_put_19 rfl ?_
    refine r_ifnonnullR dd_Sta_put_21 ?_
    refine r_iloadn dd_Sta_put_26 rfl ?_
    refine r_bip dd_Sta_put_27 ⟨by decide, by decide⟩ ?_
    refine r_icmp_lt dd_Sta_put_29 (fun c_29 => ?_) (fun c_29 => ?_)
    · refine r_bip dd_Sta_put_51 ⟨by decide, by decide⟩ ?_
      exact r_retI dd_Sta_put_53 (by first | (unfold wrFM; (try rw [hj]); (repeat (first | rw [if_pos (by omega)] | rw [if_neg (by omega)])); done) | (exfalso; omega)) rfl
    · refine r_iloadn dd_Sta_put_32 rfl ?_
      refine r_bip dd_Sta_put_33 ⟨by decide, by decide⟩ ?_
      refine r_icmp_gt dd_Sta_put_35 (fun c_35 => ?_) (fun c_35 => ?_)
      · refine r_bip dd_Sta_put_51 ⟨by decide, by decide⟩ ?_
        exact r_retI dd_Sta_put_53 (by first | (unfold wrFM; (try rw [hj]); (repeat (first | rw [if_pos (by omega)] | rw [if_neg (by omega)])); done) | (exfalso; omega)) rfl
      · refine r_iload dd_Sta_put_38 rfl ?_
        refine r_iconst dd_Sta_put_40 ⟨by decide, by decide⟩ ?_
        refine r_icmp_lt dd_Sta_put_41 (fun c_41 => ?_) (fun c_41 => ?_)
        · refine r_bip dd_Sta_put_51 ⟨by decide, by decide⟩ ?_
          exact r_retI dd_Sta_put_53 (by first | (unfold wrFM; (try rw [hj]); (repeat (first | rw [if_pos (by omega)] | rw [if_neg (by omega)])); done) | (exfalso; omega)) rfl
        · refine r_iload dd_Sta_put_44 rfl ?_
          refine r_bip dd_Sta_put_46 ⟨by decide, by decide⟩ ?_
          refine r_icmp_le dd_Sta_put_48 (fun c_48 => ?_) (fun c_48 => ?_)
          · refine r_aload dd_Sta_put_54 rfl ?_
            refine r_getI dd_Sta_put_56 fl_Sta_98 (kI := 0) rfl fi_Blk_0 (vk_blk j0 j1) ?_
            rw [hbb]
            refine r_iconst dd_Sta_put_59 ⟨by decide, by decide⟩ ?_
            refine r_iadd dd_Sta_put_60 ⟨by omega, by omega⟩ ?_
            refine r_iloadn dd_Sta_put_61 rfl ?_
            refine r_iadd dd_Sta_put_62 ⟨by omega, by omega⟩ ?_
            refine r_istore (L' := [_, _, _, _, _, _, _, _, _, _]) dd_Sta_put_63 rfl rfl ?_
            refine r_aloadn dd_Sta_put_65 rfl ?_
            refine r_iload dd_Sta_put_66 rfl ?_
            refine r_V1W dd_Sta_put_68 ml_Sta_101 ok_Sta_blockAt vi_Sta_blockAt vk_1 (by decide) (clS rfl (Nat.le_refl _) (rmOK_self _ _)) rfl (c_Sta_blockAt_n hR (by omega)) ?_
            refine r_astore (L' := [_, _, _, _, _, _, _, _, _, _]) dd_Sta_put_71 rfl rfl ?_
            refine r_aload dd_Sta_put_73 rfl ?_
            refine r_getI dd_Sta_put_75 fl_Sta_75 (kI := 2) rfl fi_Blk_2 (vk_blk j0 j1) ?_
            refine r_iloadn dd_Sta_put_78 rfl ?_
            refine r_icmp_ne dd_Sta_put_79 (fun c_79 => ?_) (fun c_79 => ?_)
            · refine r_bip dd_Sta_put_95 ⟨by decide, by decide⟩ ?_
              exact r_retI dd_Sta_put_97 (by first | (unfold wrFM; (try rw [hj]); (repeat (first | rw [if_pos (by omega)] | rw [if_neg (by omega)])); done) | (exfalso; omega)) rfl
            · refine r_aload dd_Sta_put_82 rfl ?_
              refine r_getI dd_Sta_put_84 fl_Sta_104 (kI := 0) rfl fi_Tsk_0 (vk_tsk (by omega) (by omega)) ?_
              refine r_if_eq dd_Sta_put_87 (fun c_87 => ?_) (fun c_87 => ?_)
              · refine r_bip dd_Sta_put_95 ⟨by decide, by decide⟩ ?_
                exact r_retI dd_Sta_put_97 (by first | (unfold wrFM; (try rw [hj]); (repeat (first | rw [if_pos (by omega)] | rw [if_neg (by omega)])); done) | (exfalso; omega)) rfl
              · refine r_aload dd_Sta_put_90 rfl ?_
                refine r_ifnonnullN dd_Sta_put_92 ?_
                refine r_bip dd_Sta_put_95 ⟨by decide, by decide⟩ ?_
                exact r_retI dd_Sta_put_97 (by first | (unfold wrFM; (try rw [hj]); (repeat (first | rw [if_pos (by omega)] | rw [if_neg (by omega)])); done) | (exfalso; omega)) rfl
          · refine r_bip dd_Sta_put_51 ⟨by decide, by decide⟩ ?_
            exact r_retI dd_Sta_put_53 (by first | (unfold wrFM; (try rw [hj]); (repeat (first | rw [if_pos (by omega)] | rw [if_neg (by omega)])); done) | (exfalso; omega)) rfl
  · obtain ⟨j, hj, j0, j1, ho, hn⟩ := begOf_4 hR.2.2 h2
    have hbj := hR.blk j0 j1
    have hbb := hbj.1
    have hoj := hbj.2.2.2.1 ho
    have ht := hR.tsk (t := t) (by omega) (by omega)
    have htb := hR.2.1.2.1 t (by omega) (by omega)
    have hw := wr_no h hj j0 h1
    obtain ⟨q, e, q0, q1, g0, g1, hu⟩ := tile hR.2.1 hR.2.2 (w := 4 * j + 1 + i) (by omega) (by omega)
    refine r_aloadn dd_Sta_put_0 rfl ?_
    refine r_iloadn dd_Sta_put_1 rfl ?_
    refine r_V1W dd_Sta_put_2 ml_Sta_90 ok_Sta_taskOf vi_Sta_taskOf vk_1 (by decide) (clS rfl (Nat.le_refl _) (rmOK_self _ _)) rfl (c_Sta_taskOf_s (by omega)) ?_
    refine r_astore (L' := [_, _, _, _, _, _, _, _, _, _]) dd_Sta_put_5 rfl rfl ?_
    refine r_aloadn dd_Sta_put_7 rfl ?_
    refine r_iloadn dd_Sta_put_8 rfl ?_
    refine r_V1W dd_Sta_put_9 ml_Sta_87 ok_Sta_blockOf vi_Sta_blockOf vk_1 (by decide) (clS rfl (Nat.le_refl _) (rmOK_self _ _)) rfl (c_Sta_blockOf_s hR hj j0) ?_
    refine r_astore (L' := [_, _, _, _, _, _, _, _, _, _]) dd_Sta_put_12 rfl rfl ?_
    refine r_aload dd_Sta_put_14 rfl ?_
    refine r_ifnullR dd_Sta_put_16 ?_
    refine r_aload dd_Sta_put_19 rfl ?_
    refine r_ifnonnullR dd_Sta_put_21 ?_
    refine r_iloadn dd_Sta_put_26 rfl ?_
    refine r_bip dd_Sta_put_27 ⟨by decide, by decide⟩ ?_
    refine r_icmp_lt dd_Sta_put_29 (fun c_29 => ?_) (fun c_29 => ?_)
    · refine r_bip dd_Sta_put_51 ⟨by decide, by decide⟩ ?_
      exact r_retI dd_Sta_put_53 (by first | (unfold wrFM; (try rw [hj]); (repeat (first | rw [if_pos (by omega)] | rw [if_neg (by omega)])); done) | (exfalso; omega)) rfl
    · refine r_iloadn dd_Sta_put_32 rfl ?_
      refine r_bip dd_Sta_put_33 ⟨by decide, by decide⟩ ?_
      refine r_icmp_gt dd_Sta_put_35 (fun c_35 => ?_) (fun c_35 => ?_)
      · refine r_bip dd_Sta_put_51 ⟨by decide, by decide⟩ ?_
        exact r_retI dd_Sta_put_53 (by first | (unfold wrFM; (try rw [hj]); (repeat (first | rw [if_pos (by omega)] | rw [if_neg (by omega)])); done) | (exfalso; omega)) rfl
      · refine r_iload dd_Sta_put_38 rfl ?_
        refine r_iconst dd_Sta_put_40 ⟨by decide, by decide⟩ ?_
        refine r_icmp_lt dd_Sta_put_41 (fun c_41 => ?_) (fun c_41 => ?_)
        · refine r_bip dd_Sta_put_51 ⟨by decide, by decide⟩ ?_
          exact r_retI dd_Sta_put_53 (by first | (unfold wrFM; (try rw [hj]); (repeat (first | rw [if_pos (by omega)] | rw [if_neg (by omega)])); done) | (exfalso; omega)) rfl
        · refine r_iload dd_Sta_put_44 rfl ?_
          refine r_bip dd_Sta_put_46 ⟨by decide, by decide⟩ ?_
          refine r_icmp_le dd_Sta_put_48 (fun c_48 => ?_) (fun c_48 => ?_)
          · refine r_aload dd_Sta_put_54 rfl ?_
            refine r_getI dd_Sta_put_56 fl_Sta_98 (kI := 0) rfl fi_Blk_0 (vk_blk j0 j1) ?_
            rw [hbb]
            refine r_iconst dd_Sta_put_59 ⟨by decide, by decide⟩ ?_
            refine r_iadd dd_Sta_put_60 ⟨by omega, by omega⟩ ?_
            refine r_iloadn dd_Sta_put_61 rfl ?_
            refine r_iadd dd_Sta_put_62 ⟨by omega, by omega⟩ ?_
            refine r_istore (L' := [_, _, _, _, _, _, _, _, _, _]) dd_Sta_put_63 rfl rfl ?_
            refine r_aloadn dd_Sta_put_65 rfl ?_
            refine r_iload dd_Sta_put_66 rfl ?_
            refine r_V1W dd_Sta_put_68 ml_Sta_101 ok_Sta_blockAt vi_Sta_blockAt vk_1 (by decide) (clS rfl (Nat.le_refl _) (rmOK_self _ _)) rfl (c_Sta_blockAt_s hR ⟨q0, q1⟩ ⟨g0, g1⟩ hu) ?_
            refine r_astore (L' := [_, _, _, _, _, _, _, _, _, _]) dd_Sta_put_71 rfl rfl ?_
            refine r_aload dd_Sta_put_73 rfl ?_
            refine r_getI dd_Sta_put_75 fl_Sta_75 (kI := 2) rfl fi_Blk_2 (vk_blk j0 j1) ?_
            refine r_iloadn dd_Sta_put_78 rfl ?_
            refine r_icmp_ne dd_Sta_put_79 (fun c_79 => ?_) (fun c_79 => ?_)
            · refine r_bip dd_Sta_put_95 ⟨by decide, by decide⟩ ?_
              exact r_retI dd_Sta_put_97 (by first | (unfold wrFM; (try rw [hj]); (repeat (first | rw [if_pos (by omega)] | rw [if_neg (by omega)])); done) | (exfalso; omega)) rfl
            · refine r_aload dd_Sta_put_82 rfl ?_
              refine r_getI dd_Sta_put_84 fl_Sta_104 (kI := 0) rfl fi_Tsk_0 (vk_tsk (by omega) (by omega)) ?_
              refine r_if_eq dd_Sta_put_87 (fun c_87 => ?_) (fun c_87 => ?_)
              · refine r_bip dd_Sta_put_95 ⟨by decide, by decide⟩ ?_
                exact r_retI dd_Sta_put_97 (by first | (unfold wrFM; (try rw [hj]); (repeat (first | rw [if_pos (by omega)] | rw [if_neg (by omega)])); done) | (exfalso; omega)) rfl
              · exfalso; unfold tskR at ht; omega
          · refine r_bip dd_Sta_put_51 ⟨by decide, by decide⟩ ?_
            exact r_retI dd_Sta_put_53 (by first | (unfold wrFM; (try rw [hj]); (repeat (first | rw [if_pos (by omega)] | rw [if_neg (by omega)])); done) | (exfalso; omega)) rfl
