/-! the class: put that writes -/
theorem c_Sta_put_3 {μ : Int → Int → Int} {K : Int} {m : Int → Int} (hR : RI K μ m) {t b i v j q w : Int} (h : wrFM m t b i v = 0) (hj : begOf m b = 4 * j) (j0 : 0 ≤ j) (j1 : j < 16) (ho : owd m (4 * j)) (q0 : 0 ≤ q) (q1 : q < 16) (hw : w = 4 * j + 1 + i) (g0 : 4 * q ≤ w) (g1 : w < 4 * q + m (128 + 4 * q)) (hu : ∀ i, 0 ≤ i → i < 16 → 4 * i ≤ w → w < 4 * i + m (128 + 4 * i) → i = q) (hf : ¬ owd m (4 * q)) : MetC mi_Sta_put [vR 1, vI t, vI b, vI i, vI v] (st μ) (some (vI (3))) (st (upM μ (3 + j) 5 (m 466))) := by
  refine met_of ?_ (Nat.le_of_ble_eq_true rfl) (by decide) trivial (by decide) (Nat.le_of_ble_eq_true rfl)
  show SPW mi_Sta_put 219 0 [some (vR 1), some (vI t), some (vI b), some (vI i), some (vI v), none, none, none, none, none] [] (st μ) (some (vI (3))) (st (upM μ (3 + j) 5 (m 466)))
  have hc := wrFM_c m t b i v
  rw [hj] at hc
  have ht := hR.tsk (t := t) (by omega) (by omega)
  have htb := hR.2.1.2.1 t (by omega) (by omega)
  have hbj := hR.blk j0 j1
  have hbb := hbj.1
  have hoj := hbj.2.2.2.1 ho
  have h3 : μ 1 3 = m 466 := hR.1.2.2.2.1
  have hc0 := hR.2.1.2.2.1
  have hK := hR.2.1.2.2.2.2.2.2.2.2.1
  have hT := RI_touch hR (j := j) (v := m 466) j0 j1 hc0
  have f1 : ∀ k, k < 384 → up1 m (384 + 4 * j) (m 466) k = m k := fun k a => up1_ne (by omega)
  have e1 := f1 (128 + 4 * q) (by omega)
  have e2 := f1 (192 + 4 * q) (by omega)
  have e3 := f1 (320 + 4 * q) (by omega)
  have e4 := f1 w (by omega)
  have w0 : 0 ≤ w ∧ w < 64 := by omega
  refine r_aloadn dd_Sta_put_0 rfl ?_
  refine r_iloadn dd_Sta_put_1 rfl ?_
  refine r_V1W dd_Sta_put_2 ml_Sta_90 ok_Sta_taskOf vi_Sta_taskOf vk_1 (by decide) (clS rfl (Nat.le_refl _) (rmOK_self _ _)) rfl (c_Sta_taskOf_s (by omega)) ?_
  refine r_astore (L' := [_, _, _, _, _, _, _, _, _, _]) dd_Sta_put_5 rfl rfl ?_
  refine r_aloadn dd_Sta_put_7 rfl ?_
  refine r_iloadn dd_Sta_put_8 rfl ?_
  refine r_V1W dd_Sta_put_9 ml_Sta_87 ok_Sta_blockOf vi_Sta_blockOf vk_1 (by decide) (clS rfl (Nat.le_refl _) (rmOK_self _ _)) rfl (c_Sta_blockOf_s hR hj j0) ?_
  refine r_astore (L' := [_, _, _, _, _, _, _, _, _, _]) dd_Sta_put_12 rfl rfl ?_
  refine r_aload dd_Sta_put_14 rfl ?_
  refine r_ifnullR dd_Sta_put_16 ?_
  refine r_aload dd_Sta_put_19 rfl ?_
  refine r_ifnonnullR dd_Sta_put_21 ?_
  refine r_iloadn dd_Sta_put_26 rfl ?_
  refine r_bip dd_Sta_put_27 ⟨by decide, by decide⟩ ?_
  refine r_icmp_lt dd_Sta_put_29 (fun c_29 => ?_) (fun c_29 => ?_)
  · exfalso; omega
  · refine r_iloadn dd_Sta_put_32 rfl ?_
    refine r_bip dd_Sta_put_33 ⟨by decide, by decide⟩ ?_
    refine r_icmp_gt dd_Sta_put_35 (fun c_35 => ?_) (fun c_35 => ?_)
    · exfalso; omega
    · refine r_iload dd_Sta_put_38 rfl ?_
      refine r_iconst dd_Sta_put_40 ⟨by decide, by decide⟩ ?_
      refine r_icmp_lt dd_Sta_put_41 (fun c_41 => ?_) (fun c_41 => ?_)
      · exfalso; omega
      · refine r_iload dd_Sta_put_44 rfl ?_
        refine r_bip dd_Sta_put_46 ⟨by decide, by decide⟩ ?_
        refine r_icmp_le dd_Sta_put_48 (fun c_48 => ?_) (fun c_48 => ?_)
        · refine r_aload dd_Sta_put_54 rfl ?_
          refine r_getI dd_Sta_put_56 fl_Sta_98 (kI := 0) rfl fi_Blk_0 (vk_blk j0 j1) ?_
          rw [hbb]
          refine r_iconst dd_Sta_put_59 ⟨by decide, by decide⟩ ?_
          refine r_iadd dd_Sta_put_60 ⟨by omega, by omega⟩ ?_
          refine r_iloadn dd_Sta_put_61 rfl ?_
          refine r_iadd dd_Sta_put_62 ⟨by omega, by omega⟩ ?_
          rw [← hw]
          refine r_istore (L' := [_, _, _, _, _, _, _, _, _, _]) dd_Sta_put_63 rfl rfl ?_
          refine r_aloadn dd_Sta_put_65 rfl ?_
          refine r_iload dd_Sta_put_66 rfl ?_
          refine r_V1W dd_Sta_put_68 ml_Sta_101 ok_Sta_blockAt vi_Sta_blockAt vk_1 (by decide) (clS rfl (Nat.le_refl _) (rmOK_self _ _)) rfl (c_Sta_blockAt_s hR ⟨q0, q1⟩ ⟨g0, g1⟩ hu) ?_
          refine r_astore (L' := [_, _, _, _, _, _, _, _, _, _]) dd_Sta_put_71 rfl rfl ?_
          refine r_aload dd_Sta_put_73 rfl ?_
          refine r_getI dd_Sta_put_75 fl_Sta_75 (kI := 2) rfl fi_Blk_2 (vk_blk j0 j1) ?_
          refine r_iloadn dd_Sta_put_78 rfl ?_
          refine r_icmp_ne dd_Sta_put_79 (fun c_79 => ?_) (fun c_79 => ?_)
          · exfalso; omega
          · refine r_aload dd_Sta_put_82 rfl ?_
            refine r_getI dd_Sta_put_84 fl_Sta_104 (kI := 0) rfl fi_Tsk_0 (vk_tsk (by omega) (by omega)) ?_
            refine r_if_eq dd_Sta_put_87 (fun c_87 => ?_) (fun c_87 => ?_)
            · exfalso; unfold tskR at ht; omega
            · refine r_aload dd_Sta_put_90 rfl ?_
              refine r_ifnonnullR dd_Sta_put_92 ?_
              refine r_aload dd_Sta_put_98 rfl ?_
              refine r_aloadn dd_Sta_put_100 rfl ?_
              refine r_getI dd_Sta_put_101 fl_Sta_48 (kI := 3) rfl fi_Sta_3 vk_1 ?_
              rw [h3]
              refine r_putI dd_Sta_put_104 fl_Sta_84 (kI := 5) rfl fc_Blk_5 ff_Blk_5 (pi_Blk_5 _) (vk_blk j0 j1) ?_
              refine r_iload dd_Sta_put_107 rfl ?_
              refine r_aload dd_Sta_put_109 rfl ?_
              refine r_aload dd_Sta_put_111 rfl ?_
              refine r_S3W dd_Sta_put_113 ml_Sta_108 ok_Sta_kindOfHit st_Sta_kindOfHit (clS rfl (Nat.le_refl _) (rmOK_self _ _)) rfl (c_Sta_kindOfHit_3 hT ⟨q0, q1⟩ ⟨j0, j1⟩ (by omega)) ?_
              refine r_istore (L' := [_, _, _, _, _, _, _, _, _, _]) dd_Sta_put_116 rfl rfl ?_
              refine r_iload dd_Sta_put_118 rfl ?_
              refine r_iconst dd_Sta_put_120 ⟨by decide, by decide⟩ ?_
              refine r_icmp_ne dd_Sta_put_121 (fun c_121 => ?_) (fun c_121 => ?_)
              · refine r_iload dd_Sta_put_144 rfl ?_
                refine r_iconst dd_Sta_put_146 ⟨by decide, by decide⟩ ?_
                refine r_icmp_eq dd_Sta_put_147 (fun c_147 => ?_) (fun c_147 => ?_)
                · refine r_iload dd_Sta_put_158 rfl ?_
                  exact r_retI dd_Sta_put_160 (by first | rfl | omega | exact (b2_t (by first | assumption | omega)).symm | exact (b2_f (by first | assumption | omega)).symm) rfl
                · exfalso; omega
              · exfalso; omega
        · exfalso; omega
theorem c_Sta_put_2 {μ : Int → Int → Int} {K : Int} {m : Int → Int} (hR : RI K μ m) {t b i v j q w : Int} (h : wrFM m t b i v = 0) (hj : begOf m b = 4 * j) (j0 : 0 ≤ j) (j1 : j < 16) (ho : owd m (4 * j)) (q0 : 0 ≤ q) (q1 : q < 16) (hw : w = 4 * j + 1 + i) (g0 : 4 * q ≤ w) (g1 : w < 4 * q + m (128 + 4 * q)) (hu : ∀ i, 0 ≤ i → i < 16 → 4 * i ≤ w → w < 4 * i + m (128 + 4 * i) → i = q) (hf : owd m (4 * q)) (hg : w = 4 * q ∨ w = 4 * q + m (320 + 4 * q) + 1) (hm : m w ≠ 0) : MetC mi_Sta_put [vR 1, vI t, vI b, vI i, vI v] (st μ) (some (vI (2))) (st (upM (upM μ (3 + j) 5 (m 466)) 19 w v)) := by
  refine met_of ?_ (Nat.le_of_ble_eq_true rfl) (by decide) trivial (by decide) (Nat.le_of_ble_eq_true rfl)
  show SPW mi_Sta_put 219 0 [some (vR 1), some (vI t), some (vI b), some (vI i), some (vI v), none, none, none, none, none] [] (st μ) (some (vI (2))) (st (upM (upM μ (3 + j) 5 (m 466)) 19 w v))
  have hc := wrFM_c m t b i v
  rw [hj] at hc
  have ht := hR.tsk (t := t) (by omega) (by omega)
  have htb := hR.2.1.2.1 t (by omega) (by omega)
  have hbj := hR.blk j0 j1
  have hbb := hbj.1
  have hoj := hbj.2.2.2.1 ho
  have h3 : μ 1 3 = m 466 := hR.1.2.2.2.1
  have hc0 := hR.2.1.2.2.1
  have hK := hR.2.1.2.2.2.2.2.2.2.2.1
  have hT := RI_touch hR (j := j) (v := m 466) j0 j1 hc0
  have f1 : ∀ k, k < 384 → up1 m (384 + 4 * j) (m 466) k = m k := fun k a => up1_ne (by omega)
  have e1 := f1 (128 + 4 * q) (by omega)
  have e2 := f1 (192 + 4 * q) (by omega)
  have e3 := f1 (320 + 4 * q) (by omega)
  have e4 := f1 w (by omega)
  have w0 : 0 ≤ w ∧ w < 64 := by omega
  refine r_aloadn dd_Sta_put_0 rfl ?_
  refine r_iloadn dd_Sta_put_1 rfl ?_
  refine r_V1W dd_Sta_put_2 ml_Sta_90 ok_Sta_taskOf vi_Sta_taskOf vk_1 (by decide) (clS rfl (Nat.le_refl _) (rmOK_self _ _)) rfl (c_Sta_taskOf_s (by omega)) ?_
  refine r_astore (L' := [_, _, _, _, _, _, _, _, _, _]) dd_Sta_put_5 rfl rfl ?_
  refine r_aloadn dd_Sta_put_7 rfl ?_
  refine r_iloadn dd_Sta_put_8 rfl ?_
  refine r_V1W dd_Sta_put_9 ml_Sta_87 ok_Sta_blockOf vi_Sta_blockOf vk_1 (by decide) (clS rfl (Nat.le_refl _) (rmOK_self _ _)) rfl (c_Sta_blockOf_s hR hj j0) ?_
  refine r_astore (L' := [_, _, _, _, _, _, _, _, _, _]) dd_Sta_put_12 rfl rfl ?_
  refine r_aload dd_Sta_put_14 rfl ?_
  refine r_ifnullR dd_Sta_put_16 ?_
  refine r_aload dd_Sta_put_19 rfl ?_
  refine r_ifnonnullR dd_Sta_put_21 ?_
  refine r_iloadn dd_Sta_put_26 rfl ?_
  refine r_bip dd_Sta_put_27 ⟨by decide, by decide⟩ ?_
  refine r_icmp_lt dd_Sta_put_29 (fun c_29 => ?_) (fun c_29 => ?_)
  · exfalso; omega
  · refine r_iloadn dd_Sta_put_32 rfl ?_
    refine r_bip dd_Sta_put_33 ⟨by decide, by decide⟩ ?_
    refine r_icmp_gt dd_Sta_put_35 (fun c_35 => ?_) (fun c_35 => ?_)
    · exfalso; omega
    · refine r_iload dd_Sta_put_38 rfl ?_
      refine r_iconst dd_Sta_put_40 ⟨by decide, by decide⟩ ?_
      refine r_icmp_lt dd_Sta_put_41 (fun c_41 => ?_) (fun c_41 => ?_)
      · exfalso; omega
      · refine r_iload dd_Sta_put_44 rfl ?_
        refine r_bip dd_Sta_put_46 ⟨by decide, by decide⟩ ?_
        refine r_icmp_le dd_Sta_put_48 (fun c_48 => ?_) (fun c_48 => ?_)
        · refine r_aload dd_Sta_put_54 rfl ?_
          refine r_getI dd_Sta_put_56 fl_Sta_98 (kI := 0) rfl fi_Blk_0 (vk_blk j0 j1) ?_
          rw [hbb]
          refine r_iconst dd_Sta_put_59 ⟨by decide, by decide⟩ ?_
          refine r_iadd dd_Sta_put_60 ⟨by omega, by omega⟩ ?_
          refine r_iloadn dd_Sta_put_61 rfl ?_
          refine r_iadd dd_Sta_put_62 ⟨by omega, by omega⟩ ?_
          rw [← hw]
          refine r_istore (L' := [_, _, _, _, _, _, _, _, _, _]) dd_Sta_put_63 rfl rfl ?_
          refine r_aloadn dd_Sta_put_65 rfl ?_
          refine r_iload dd_Sta_put_66 rfl ?_
          refine r_V1W dd_Sta_put_68 ml_Sta_101 ok_Sta_blockAt vi_Sta_blockAt vk_1 (by decide) (clS rfl (Nat.le_refl _) (rmOK_self _ _)) rfl (c_Sta_blockAt_s hR ⟨q0, q1⟩ ⟨g0, g1⟩ hu) ?_
          refine r_astore (L' := [_, _, _, _, _, _, _, _, _, _]) dd_Sta_put_71 rfl rfl ?_
          refine r_aload dd_Sta_put_73 rfl ?_
          refine r_getI dd_Sta_put_75 fl_Sta_75 (kI := 2) rfl fi_Blk_2 (vk_blk j0 j1) ?_
          refine r_iloadn dd_Sta_put_78 rfl ?_
          refine r_icmp_ne dd_Sta_put_79 (fun c_79 => ?_) (fun c_79 => ?_)
          · exfalso; omega
          · refine r_aload dd_Sta_put_82 rfl ?_
            refine r_getI dd_Sta_put_84 fl_Sta_104 (kI := 0) rfl fi_Tsk_0 (vk_tsk (by omega) (by omega)) ?_
            refine r_if_eq dd_Sta_put_87 (fun c_87 => ?_) (fun c_87 => ?_)
            · exfalso; unfold tskR at ht; omega
            · refine r_aload dd_Sta_put_90 rfl ?_
              refine r_ifnonnullR dd_Sta_put_92 ?_
              refine r_aload dd_Sta_put_98 rfl ?_
              refine r_aloadn dd_Sta_put_100 rfl ?_
              refine r_getI dd_Sta_put_101 fl_Sta_48 (kI := 3) rfl fi_Sta_3 vk_1 ?_
              rw [h3]
              refine r_putI dd_Sta_put_104 fl_Sta_84 (kI := 5) rfl fc_Blk_5 ff_Blk_5 (pi_Blk_5 _) (vk_blk j0 j1) ?_
              refine r_iload dd_Sta_put_107 rfl ?_
              refine r_aload dd_Sta_put_109 rfl ?_
              refine r_aload dd_Sta_put_111 rfl ?_
              refine r_S3W dd_Sta_put_113 ml_Sta_108 ok_Sta_kindOfHit st_Sta_kindOfHit (clS rfl (Nat.le_refl _) (rmOK_self _ _)) rfl (c_Sta_kindOfHit_2 hT ⟨q0, q1⟩ ⟨j0, j1⟩ (by omega) (by omega)) ?_
              refine r_istore (L' := [_, _, _, _, _, _, _, _, _, _]) dd_Sta_put_116 rfl rfl ?_
              refine r_iload dd_Sta_put_118 rfl ?_
              refine r_iconst dd_Sta_put_120 ⟨by decide, by decide⟩ ?_
              refine r_icmp_ne dd_Sta_put_121 (fun c_121 => ?_) (fun c_121 => ?_)
              · exfalso; omega
              · refine r_aloadn dd_Sta_put_124 rfl ?_
                refine r_iload dd_Sta_put_125 rfl ?_
                refine r_V1W dd_Sta_put_127 ml_Sta_112 ok_Sta_valueAt vi_Sta_valueAt vk_1 (by decide) (clS rfl (Nat.le_refl _) (rmOK_self _ _)) rfl (c_Sta_valueAt hT w0) ?_
                refine r_if_ne dd_Sta_put_130 (fun c_130 => ?_) (fun c_130 => ?_)
                · refine r_iload dd_Sta_put_144 rfl ?_
                  refine r_iconst dd_Sta_put_146 ⟨by decide, by decide⟩ ?_
                  refine r_icmp_eq dd_Sta_put_147 (fun c_147 => ?_) (fun c_147 => ?_)
                  · exfalso; omega
                  · refine r_aloadn dd_Sta_put_150 rfl ?_
                    refine r_iload dd_Sta_put_151 rfl ?_
                    refine r_iload dd_Sta_put_153 rfl ?_
                    refine r_V2N dd_Sta_put_155 ml_Sta_118 ok_Sta_setValue vi_Sta_setValue vk_1 (by decide) (clS rfl (Nat.le_refl _) (rmOK_self _ _)) rfl (c_Sta_setValue w0) ?_
                    refine r_iload dd_Sta_put_158 rfl ?_
                    exact r_retI dd_Sta_put_160 (by first | rfl | omega | exact (b2_t (by first | assumption | omega)).symm | exact (b2_f (by first | assumption | omega)).symm) rfl
                · exfalso; omega
        · exfalso; omega
theorem c_Sta_put_b {μ : Int → Int → Int} {K : Int} {m : Int → Int} (hR : RI K μ m) {t b i v j q w : Int} (h : wrFM m t b i v = 0) (hj : begOf m b = 4 * j) (j0 : 0 ≤ j) (j1 : j < 16) (ho : owd m (4 * j)) (q0 : 0 ≤ q) (q1 : q < 16) (hw : w = 4 * j + 1 + i) (g0 : 4 * q ≤ w) (g1 : w < 4 * q + m (128 + 4 * q)) (hu : ∀ i, 0 ≤ i → i < 16 → 4 * i ≤ w → w < 4 * i + m (128 + 4 * i) → i = q) (hf : owd m (4 * q)) (hg : w = 4 * q ∨ w = 4 * q + m (320 + 4 * q) + 1) (hm : m w = 0) : MetC mi_Sta_put [vR 1, vI t, vI b, vI i, vI v] (st μ) (some (vI (2))) (st (upM (upM (upM μ (3 + j) 5 (m 466)) (21 + t) 2 (m (460 + t) + 1)) 19 w v)) := by
  refine met_of ?_ (Nat.le_of_ble_eq_true rfl) (by decide) trivial (by decide) (Nat.le_of_ble_eq_true rfl)
  show SPW mi_Sta_put 219 0 [some (vR 1), some (vI t), some (vI b), some (vI i), some (vI v), none, none, none, none, none] [] (st μ) (some (vI (2))) (st (upM (upM (upM μ (3 + j) 5 (m 466)) (21 + t) 2 (m (460 + t) + 1)) 19 w v))
  have hc := wrFM_c m t b i v
  rw [hj] at hc
  have ht := hR.tsk (t := t) (by omega) (by omega)
  have htb := hR.2.1.2.1 t (by omega) (by omega)
  have hbj := hR.blk j0 j1
  have hbb := hbj.1
  have hoj := hbj.2.2.2.1 ho
  have h3 : μ 1 3 = m 466 := hR.1.2.2.2.1
  have hc0 := hR.2.1.2.2.1
  have hK := hR.2.1.2.2.2.2.2.2.2.2.1
  have hT := RI_touch hR (j := j) (v := m 466) j0 j1 hc0
  have f1 : ∀ k, k < 384 → up1 m (384 + 4 * j) (m 466) k = m k := fun k a => up1_ne (by omega)
  have e1 := f1 (128 + 4 * q) (by omega)
  have e2 := f1 (192 + 4 * q) (by omega)
  have e3 := f1 (320 + 4 * q) (by omega)
  have e4 := f1 w (by omega)
  have w0 : 0 ≤ w ∧ w < 64 := by omega
  refine r_aloadn dd_Sta_put_0 rfl ?_
  refine r_iloadn dd_Sta_put_1 rfl ?_
  refine r_V1W dd_Sta_put_2 ml_Sta_90 ok_Sta_taskOf vi_Sta_taskOf vk_1 (by decide) (clS rfl (Nat.le_refl _) (rmOK_self _ _)) rfl (c_Sta_taskOf_s (by omega)) ?_
  refine r_astore (L' := [_, _, _, _, _, _, _, _, _, _]) dd_Sta_put_5 rfl rfl ?_
  refine r_aloadn dd_Sta_put_7 rfl ?_
  refine r_iloadn dd_Sta_put_8 rfl ?_
  refine r_V1W dd_Sta_put_9 ml_Sta_87 ok_Sta_blockOf vi_Sta_blockOf vk_1 (by decide) (clS rfl (Nat.le_refl _) (rmOK_self _ _)) rfl (c_Sta_blockOf_s hR hj j0) ?_
  refine r_astore (L' := [_, _, _, _, _, _, _, _, _, _]) dd_Sta_put_12 rfl rfl ?_
  refine r_aload dd_Sta_put_14 rfl ?_
  refine r_ifnullR dd_Sta_put_16 ?_
  refine r_aload dd_Sta_put_19 rfl ?_
  refine r_ifnonnullR dd_Sta_put_21 ?_
  refine r_iloadn dd_Sta_put_26 rfl ?_
  refine r_bip dd_Sta_put_27 ⟨by decide, by decide⟩ ?_
  refine r_icmp_lt dd_Sta_put_29 (fun c_29 => ?_) (fun c_29 => ?_)
  · exfalso; omega
  · refine r_iloadn dd_Sta_put_32 rfl ?_
    refine r_bip dd_Sta_put_33 ⟨by decide, by decide⟩ ?_
    refine r_icmp_gt dd_Sta_put_35 (fun c_35 => ?_) (fun c_35 => ?_)
    · exfalso; omega
    · refine r_iload dd_Sta_put_38 rfl ?_
      refine r_iconst dd_Sta_put_40 ⟨by decide, by decide⟩ ?_
      refine r_icmp_lt dd_Sta_put_41 (fun c_41 => ?_) (fun c_41 => ?_)
      · exfalso; omega
      · refine r_iload dd_Sta_put_44 rfl ?_
        refine r_bip dd_Sta_put_46 ⟨by decide, by decide⟩ ?_
        refine r_icmp_le dd_Sta_put_48 (fun c_48 => ?_) (fun c_48 => ?_)
        · refine r_aload dd_Sta_put_54 rfl ?_
          refine r_getI dd_Sta_put_56 fl_Sta_98 (kI := 0) rfl fi_Blk_0 (vk_blk j0 j1) ?_
          rw [hbb]
          refine r_iconst dd_Sta_put_59 ⟨by decide, by decide⟩ ?_
          refine r_iadd dd_Sta_put_60 ⟨by omega, by omega⟩ ?_
          refine r_iloadn dd_Sta_put_61 rfl ?_
          refine r_iadd dd_Sta_put_62 ⟨by omega, by omega⟩ ?_
          rw [← hw]
          refine r_istore (L' := [_, _, _, _, _, _, _, _, _, _]) dd_Sta_put_63 rfl rfl ?_
          refine r_aloadn dd_Sta_put_65 rfl ?_
          refine r_iload dd_Sta_put_66 rfl ?_
          refine r_V1W dd_Sta_put_68 ml_Sta_101 ok_Sta_blockAt vi_Sta_blockAt vk_1 (by decide) (clS rfl (Nat.le_refl _) (rmOK_self _ _)) rfl (c_Sta_blockAt_s hR ⟨q0, q1⟩ ⟨g0, g1⟩ hu) ?_
          refine r_astore (L' := [_, _, _, _, _, _, _, _, _, _]) dd_Sta_put_71 rfl rfl ?_
          refine r_aload dd_Sta_put_73 rfl ?_
          refine r_getI dd_Sta_put_75 fl_Sta_75 (kI := 2) rfl fi_Blk_2 (vk_blk j0 j1) ?_
          refine r_iloadn dd_Sta_put_78 rfl ?_
          refine r_icmp_ne dd_Sta_put_79 (fun c_79 => ?_) (fun c_79 => ?_)
          · exfalso; omega
          · refine r_aload dd_Sta_put_82 rfl ?_
            refine r_getI dd_Sta_put_84 fl_Sta_104 (kI := 0) rfl fi_Tsk_0 (vk_tsk (by omega) (by omega)) ?_
            refine r_if_eq dd_Sta_put_87 (fun c_87 => ?_) (fun c_87 => ?_)
            · exfalso; unfold tskR at ht; omega
            · refine r_aload dd_Sta_put_90 rfl ?_
              refine r_ifnonnullR dd_Sta_put_92 ?_
              refine r_aload dd_Sta_put_98 rfl ?_
              refine r_aloadn dd_Sta_put_100 rfl ?_
              refine r_getI dd_Sta_put_101 fl_Sta_48 (kI := 3) rfl fi_Sta_3 vk_1 ?_
              rw [h3]
              refine r_putI dd_Sta_put_104 fl_Sta_84 (kI := 5) rfl fc_Blk_5 ff_Blk_5 (pi_Blk_5 _) (vk_blk j0 j1) ?_
              refine r_iload dd_Sta_put_107 rfl ?_
              refine r_aload dd_Sta_put_109 rfl ?_
              refine r_aload dd_Sta_put_111 rfl ?_
              refine r_S3W dd_Sta_put_113 ml_Sta_108 ok_Sta_kindOfHit st_Sta_kindOfHit (clS rfl (Nat.le_refl _) (rmOK_self _ _)) rfl (c_Sta_kindOfHit_2 hT ⟨q0, q1⟩ ⟨j0, j1⟩ (by omega) (by omega)) ?_
              refine r_istore (L' := [_, _, _, _, _, _, _, _, _, _]) dd_Sta_put_116 rfl rfl ?_
              refine r_iload dd_Sta_put_118 rfl ?_
              refine r_iconst dd_Sta_put_120 ⟨by decide, by decide⟩ ?_
              refine r_icmp_ne dd_Sta_put_121 (fun c_121 => ?_) (fun c_121 => ?_)
              · exfalso; omega
              · refine r_aloadn dd_Sta_put_124 rfl ?_
                refine r_iload dd_Sta_put_125 rfl ?_
                refine r_V1W dd_Sta_put_127 ml_Sta_112 ok_Sta_valueAt vi_Sta_valueAt vk_1 (by decide) (clS rfl (Nat.le_refl _) (rmOK_self _ _)) rfl (c_Sta_valueAt hT w0) ?_
                refine r_if_ne dd_Sta_put_130 (fun c_130 => ?_) (fun c_130 => ?_)
                · exfalso; omega
                · refine r_aload dd_Sta_put_133 rfl ?_
                  refine r_dup dd_Sta_put_135 ?_
                  refine r_getI dd_Sta_put_136 fl_Sta_115 (kI := 2) rfl fi_Tsk_2 (vk_tsk (by omega) (by omega)) ?_
                  rw [upM_ne (Or.inl (by omega)), ht.2.2]
                  refine r_iconst dd_Sta_put_139 ⟨by decide, by decide⟩ ?_
                  refine r_iadd dd_Sta_put_140 ⟨by omega, by omega⟩ ?_
                  refine r_putI dd_Sta_put_141 fl_Sta_115 (kI := 2) rfl fc_Tsk_2 ff_Tsk_2 (pi_Tsk_2 _) (vk_tsk (by omega) (by omega)) ?_
                  refine r_iload dd_Sta_put_144 rfl ?_
                  refine r_iconst dd_Sta_put_146 ⟨by decide, by decide⟩ ?_
                  refine r_icmp_eq dd_Sta_put_147 (fun c_147 => ?_) (fun c_147 => ?_)
                  · exfalso; omega
                  · refine r_aloadn dd_Sta_put_150 rfl ?_
                    refine r_iload dd_Sta_put_151 rfl ?_
                    refine r_iload dd_Sta_put_153 rfl ?_
                    refine r_V2N dd_Sta_put_155 ml_Sta_118 ok_Sta_setValue vi_Sta_setValue vk_1 (by decide) (clS rfl (Nat.le_refl _) (rmOK_self _ _)) rfl (c_Sta_setValue w0) ?_
                    refine r_iload dd_Sta_put_158 rfl ?_
                    exact r_retI dd_Sta_put_160 (by first | rfl | omega | exact (b2_t (by first | assumption | omega)).symm | exact (b2_f (by first | assumption | omega)).symm) rfl
        · exfalso; omega
theorem kM_up {m m' : Int → Int} {w j q : Int} (e : m' (320 + 4 * q) = m (320 + 4 * q)) : kM m' w j q = kM m w j q := by
  unfold kM
  rw [e]

theorem c_Sta_put_1 {μ : Int → Int → Int} {K : Int} {m : Int → Int} (hR : RI K μ m) {t b i v j q w : Int} (h : wrFM m t b i v = 0) (hj : begOf m b = 4 * j) (j0 : 0 ≤ j) (j1 : j < 16) (ho : owd m (4 * j)) (q0 : 0 ≤ q) (q1 : q < 16) (hw : w = 4 * j + 1 + i) (g0 : 4 * q ≤ w) (g1 : w < 4 * q + m (128 + 4 * q)) (hu : ∀ i, 0 ≤ i → i < 16 → 4 * i ≤ w → w < 4 * i + m (128 + 4 * i) → i = q) (hf : owd m (4 * q)) (hg : ¬ (w = 4 * q ∨ w = 4 * q + m (320 + 4 * q) + 1)) : MetC mi_Sta_put [vR 1, vI t, vI b, vI i, vI v] (st μ) (some (vI (kM m w j q))) (st (upM (upM μ (3 + j) 5 (m 466)) 19 w v)) := by
  refine met_of ?_ (Nat.le_of_ble_eq_true rfl) (by decide) trivial (by decide) (Nat.le_of_ble_eq_true rfl)
  show SPW mi_Sta_put 219 0 [some (vR 1), some (vI t), some (vI b), some (vI i), some (vI v), none, none, none, none, none] [] (st μ) (some (vI (kM m w j q))) (st (upM (upM μ (3 + j) 5 (m 466)) 19 w v))
  have hc := wrFM_c m t b i v
  rw [hj] at hc
  have ht := hR.tsk (t := t) (by omega) (by omega)
  have htb := hR.2.1.2.1 t (by omega) (by omega)
  have hbj := hR.blk j0 j1
  have hbb := hbj.1
  have hoj := hbj.2.2.2.1 ho
  have h3 : μ 1 3 = m 466 := hR.1.2.2.2.1
  have hc0 := hR.2.1.2.2.1
  have hK := hR.2.1.2.2.2.2.2.2.2.2.1
  have hT := RI_touch hR (j := j) (v := m 466) j0 j1 hc0
  have f1 : ∀ k, k < 384 → up1 m (384 + 4 * j) (m 466) k = m k := fun k a => up1_ne (by omega)
  have e1 := f1 (128 + 4 * q) (by omega)
  have e2 := f1 (192 + 4 * q) (by omega)
  have e3 := f1 (320 + 4 * q) (by omega)
  have e4 := f1 w (by omega)
  have w0 : 0 ≤ w ∧ w < 64 := by omega
  refine r_aloadn dd_Sta_put_0 rfl ?_
  refine r_iloadn dd_Sta_put_1 rfl ?_
  refine r_V1W dd_Sta_put_2 ml_Sta_90 ok_Sta_taskOf vi_Sta_taskOf vk_1 (by decide) (clS rfl (Nat.le_refl _) (rmOK_self _ _)) rfl (c_Sta_taskOf_s (by omega)) ?_
  refine r_astore (L' := [_, _, _, _, _, _, _, _, _, _]) dd_Sta_put_5 rfl rfl ?_
  refine r_aloadn dd_Sta_put_7 rfl ?_
  refine r_iloadn dd_Sta_put_8 rfl ?_
  refine r_V1W dd_Sta_put_9 ml_Sta_87 ok_Sta_blockOf vi_Sta_blockOf vk_1 (by decide) (clS rfl (Nat.le_refl _) (rmOK_self _ _)) rfl (c_Sta_blockOf_s hR hj j0) ?_
  refine r_astore (L' := [_, _, _, _, _, _, _, _, _, _]) dd_Sta_put_12 rfl rfl ?_
  refine r_aload dd_Sta_put_14 rfl ?_
  refine r_ifnullR dd_Sta_put_16 ?_
  refine r_aload dd_Sta_put_19 rfl ?_
  refine r_ifnonnullR dd_Sta_put_21 ?_
  refine r_iloadn dd_Sta_put_26 rfl ?_
  refine r_bip dd_Sta_put_27 ⟨by decide, by decide⟩ ?_
  refine r_icmp_lt dd_Sta_put_29 (fun c_29 => ?_) (fun c_29 => ?_)
  · exfalso; omega
  · refine r_iloadn dd_Sta_put_32 rfl ?_
    refine r_bip dd_Sta_put_33 ⟨by decide, by decide⟩ ?_
    refine r_icmp_gt dd_Sta_put_35 (fun c_35 => ?_) (fun c_35 => ?_)
    · exfalso; omega
    · refine r_iload dd_Sta_put_38 rfl ?_
      refine r_iconst dd_Sta_put_40 ⟨by decide, by decide⟩ ?_
      refine r_icmp_lt dd_Sta_put_41 (fun c_41 => ?_) (fun c_41 => ?_)
      · exfalso; omega
      · refine r_iload dd_Sta_put_44 rfl ?_
        refine r_bip dd_Sta_put_46 ⟨by decide, by decide⟩ ?_
        refine r_icmp_le dd_Sta_put_48 (fun c_48 => ?_) (fun c_48 => ?_)
        · refine r_aload dd_Sta_put_54 rfl ?_
          refine r_getI dd_Sta_put_56 fl_Sta_98 (kI := 0) rfl fi_Blk_0 (vk_blk j0 j1) ?_
          rw [hbb]
          refine r_iconst dd_Sta_put_59 ⟨by decide, by decide⟩ ?_
          refine r_iadd dd_Sta_put_60 ⟨by omega, by omega⟩ ?_
          refine r_iloadn dd_Sta_put_61 rfl ?_
          refine r_iadd dd_Sta_put_62 ⟨by omega, by omega⟩ ?_
          rw [← hw]
          refine r_istore (L' := [_, _, _, _, _, _, _, _, _, _]) dd_Sta_put_63 rfl rfl ?_
          refine r_aloadn dd_Sta_put_65 rfl ?_
          refine r_iload dd_Sta_put_66 rfl ?_
          refine r_V1W dd_Sta_put_68 ml_Sta_101 ok_Sta_blockAt vi_Sta_blockAt vk_1 (by decide) (clS rfl (Nat.le_refl _) (rmOK_self _ _)) rfl (c_Sta_blockAt_s hR ⟨q0, q1⟩ ⟨g0, g1⟩ hu) ?_
          refine r_astore (L' := [_, _, _, _, _, _, _, _, _, _]) dd_Sta_put_71 rfl rfl ?_
          refine r_aload dd_Sta_put_73 rfl ?_
          refine r_getI dd_Sta_put_75 fl_Sta_75 (kI := 2) rfl fi_Blk_2 (vk_blk j0 j1) ?_
          refine r_iloadn dd_Sta_put_78 rfl ?_
          refine r_icmp_ne dd_Sta_put_79 (fun c_79 => ?_) (fun c_79 => ?_)
          · exfalso; omega
          · refine r_aload dd_Sta_put_82 rfl ?_
            refine r_getI dd_Sta_put_84 fl_Sta_104 (kI := 0) rfl fi_Tsk_0 (vk_tsk (by omega) (by omega)) ?_
            refine r_if_eq dd_Sta_put_87 (fun c_87 => ?_) (fun c_87 => ?_)
            · exfalso; unfold tskR at ht; omega
            · refine r_aload dd_Sta_put_90 rfl ?_
              refine r_ifnonnullR dd_Sta_put_92 ?_
              refine r_aload dd_Sta_put_98 rfl ?_
              refine r_aloadn dd_Sta_put_100 rfl ?_
              refine r_getI dd_Sta_put_101 fl_Sta_48 (kI := 3) rfl fi_Sta_3 vk_1 ?_
              rw [h3]
              refine r_putI dd_Sta_put_104 fl_Sta_84 (kI := 5) rfl fc_Blk_5 ff_Blk_5 (pi_Blk_5 _) (vk_blk j0 j1) ?_
              refine r_iload dd_Sta_put_107 rfl ?_
              refine r_aload dd_Sta_put_109 rfl ?_
              refine r_aload dd_Sta_put_111 rfl ?_
              refine r_S3W dd_Sta_put_113 ml_Sta_108 ok_Sta_kindOfHit st_Sta_kindOfHit (clS rfl (Nat.le_refl _) (rmOK_self _ _)) rfl ((c_Sta_kindOfHit_1 hT ⟨q0, q1⟩ ⟨j0, j1⟩ (by omega) (by omega)).eqr (by rw [kM_up e3]) : MetC _ _ _ (some (vI (kM m w j q))) _) ?_
              refine r_istore (L' := [_, _, _, _, _, _, _, _, _, _]) dd_Sta_put_116 rfl rfl ?_
              refine r_iload dd_Sta_put_118 rfl ?_
              refine r_iconst dd_Sta_put_120 ⟨by decide, by decide⟩ ?_
              refine r_icmp_ne dd_Sta_put_121 (fun c_121 => ?_) (fun c_121 => ?_)
              · refine r_iload dd_Sta_put_144 rfl ?_
                refine r_iconst dd_Sta_put_146 ⟨by decide, by decide⟩ ?_
                refine r_icmp_eq dd_Sta_put_147 (fun c_147 => ?_) (fun c_147 => ?_)
                · exfalso; have := kM_rg m w j q; omega
                · refine r_aloadn dd_Sta_put_150 rfl ?_
                  refine r_iload dd_Sta_put_151 rfl ?_
                  refine r_iload dd_Sta_put_153 rfl ?_
                  refine r_V2N dd_Sta_put_155 ml_Sta_118 ok_Sta_setValue vi_Sta_setValue vk_1 (by decide) (clS rfl (Nat.le_refl _) (rmOK_self _ _)) rfl (c_Sta_setValue w0) ?_
                  refine r_iload dd_Sta_put_158 rfl ?_
                  exact r_retI dd_Sta_put_160 (by first | rfl | omega | exact (b2_t (by first | assumption | omega)).symm | exact (b2_f (by first | assumption | omega)).symm) rfl
              · exfalso; have := kM_rg m w j q; omega
        · exfalso; omega
