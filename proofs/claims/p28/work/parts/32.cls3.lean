/-! the class: sums over the blocks, reasons, what is told -/
theorem lowF_4 {m : Int → Int} (h : ML m) {z : Int} (hz : lowF m z ≠ -5) : ∃ j, lowF m z = 4 * j ∧ 0 ≤ j ∧ j < 16 := by
  rcases lowF_rg m z with e | ⟨h1, h2, h3, h4⟩
  · exact absurd e hz
  · by_cases q : lowF m z % 4 = 0
    · exact ⟨lowF m z / 4, by omega, by omega, by omega⟩
    · have := h.1 _ h1 h2 q
      omega
theorem begOf_4 {m : Int → Int} (h : ML m) {b : Int} (hz : begOf m b ≠ -5) : ∃ j, begOf m b = 4 * j ∧ 0 ≤ j ∧ j < 16 ∧ owd m (4 * j) ∧ m (192 + 4 * j) = b := by
  rcases begOf_rg m b with e | ⟨h1, h2, h3, h4⟩
  · exact absurd e hz
  · by_cases q : begOf m b % 4 = 0
    · have e : begOf m b = 4 * (begOf m b / 4) := by omega
      rw [e] at h3 h4
      exact ⟨begOf m b / 4, e, by omega, by omega, h3, h4⟩
    · have := h.1 _ h1 h2 q
      omega

theorem l_Sta_wordsOf {μ : Int → Int → Int} {K : Int} {m : Int → Int} (hR : RI K μ m) {t : Int} (ht : 0 ≤ t ∧ t ≤ 5) : ∀ (n : Nat) (i a : Int), (i + n = 16) → (0 ≤ i) → (0 ≤ a ∧ a ≤ 16 * i) → SPW mi_Sta_wordsOf 219 14 [some (vR 1), some (vI t), some (vI a), some (vR 2), some (vI 16), some (vI i), none] [] (st (μ)) (some (vI (a + sumF (4 * n) (4 * i) (fun w => if owd m w ∧ m (256 + w) = t then m (128 + w) else 0)))) (st (μ)) := by
  intro n
  induction n with
  | zero =>
    intro i a h0 h1 h2
    refine r_iload dd_Sta_wordsOf_14 rfl ?_
    refine r_iload dd_Sta_wordsOf_16 rfl ?_
    refine r_icmp_ge dd_Sta_wordsOf_18 (fun c_18 => ?_) (fun c_18 => ?_)
    · refine r_iloadn dd_Sta_wordsOf_50 rfl ?_
      exact r_retI dd_Sta_wordsOf_51 (by show _ = a + sumF 0 _ _; rw [sumF_0]; omega) rfl
    · exfalso; omega
  | succ n ih =>
    intro i a h0 h1 h2
    have ho := hR.own h1 (by omega)
    have hb := hR.blk h1 (by omega)
    have hw := hR.2.1.1 (4 * i) (by omega) (by omega)
    have z1 := hR.2.2.z h1 (by omega : i < 16) (j := 1) (by omega)
    have z2 := hR.2.2.z h1 (by omega : i < 16) (j := 2) (by omega)
    have z3 := hR.2.2.z h1 (by omega : i < 16) (j := 3) (by omega)
    refine r_iload dd_Sta_wordsOf_14 rfl ?_
    refine r_iload dd_Sta_wordsOf_16 rfl ?_
    refine r_icmp_ge dd_Sta_wordsOf_18 (fun c_18 => ?_) (fun c_18 => ?_)
    · exfalso; omega
    · refine r_aloadn dd_Sta_wordsOf_21 rfl ?_
      refine r_iload dd_Sta_wordsOf_22 rfl ?_
      refine r_aald dd_Sta_wordsOf_24 (q := 17) (by decide) vk_2 (by omega) (by show _ < ((16 : Nat) : Int); omega) (by first | exact R0_2 | exact R0_20 | exact R0_80 | exact R0_187 | exact R0_b (by assumption) | exact R0_t (by assumption)) ?_
      refine r_astore (L' := [_, _, _, _, _, _, _]) dd_Sta_wordsOf_25 rfl rfl ?_
      refine r_aload dd_Sta_wordsOf_27 rfl ?_
      refine r_getI dd_Sta_wordsOf_29 fl_Sta_75 (kI := 2) rfl fi_Blk_2 (by first | assumption | exact vk_blk (by omega) (by omega) | exact vk_tsk (by omega) (by omega) | exact vk_cmd (by omega) (by omega)) ?_
      refine r_iloadn dd_Sta_wordsOf_32 rfl ?_
      refine r_icmp_ne dd_Sta_wordsOf_33 (fun c_33 => ?_) (fun c_33 => ?_)
      · refine r_iinc (L' := [_, _, _, _, _, _, _]) dd_Sta_wordsOf_44 rfl ⟨by omega, by omega⟩ rfl ?_
        refine r_goto dd_Sta_wordsOf_47 ?_
        refine r_drop 6 (r_eqr (by rw [(sumF4 (by rw [if_neg (by omega)]) (by rw [if_neg (by omega)]) (by rw [if_neg (by omega)]))]; first | (rw [if_pos (by omega)]; omega) | (rw [if_neg (by omega)]; omega)) (ih (i + 1) _ (by omega) (by omega) ⟨by omega, by omega⟩))
      · refine r_iloadn dd_Sta_wordsOf_36 rfl ?_
        refine r_aload dd_Sta_wordsOf_37 rfl ?_
        refine r_V0W dd_Sta_wordsOf_39 ml_Sta_157 ok_Blk_words vi_Blk_words (by first | assumption | exact vk_blk (by omega) (by omega) | exact vk_tsk (by omega) (by omega) | exact vk_cmd (by omega) (by omega)) (by decide) (clS rfl (Nat.le_refl _) (rmOK_self _ _)) rfl (c_Blk_words (vk_blk h1 (by omega))) ?_
        refine r_iadd dd_Sta_wordsOf_42 ⟨by omega, by omega⟩ ?_
        refine r_istoren (L' := [_, _, _, _, _, _, _]) dd_Sta_wordsOf_43 rfl rfl ?_
        refine r_iinc (L' := [_, _, _, _, _, _, _]) dd_Sta_wordsOf_44 rfl ⟨by omega, by omega⟩ rfl ?_
        refine r_goto dd_Sta_wordsOf_47 ?_
        refine r_drop 6 (r_eqr (by rw [(sumF4 (by rw [if_neg (by omega)]) (by rw [if_neg (by omega)]) (by rw [if_neg (by omega)]))]; first | (rw [if_pos (by omega)]; omega) | (rw [if_neg (by omega)]; omega)) (ih (i + 1) _ (by omega) (by omega) ⟨by omega, by omega⟩))
theorem c_Sta_wordsOf {μ : Int → Int → Int} {K : Int} {m : Int → Int} (hR : RI K μ m) {t : Int} (ht : 0 ≤ t ∧ t ≤ 5) : MetC mi_Sta_wordsOf [vR 1, vI t] (st μ) (some (vI (wdsM m t))) (st (μ)) := by
  refine met_of ?_ (Nat.le_of_ble_eq_true rfl) (by decide) trivial (by decide) (Nat.le_of_ble_eq_true rfl)
  show SPW mi_Sta_wordsOf 219 0 [some (vR 1), some (vI t), none, none, none, none, none] [] (st μ) (some (vI (wdsM m t))) (st (μ))
  refine r_iconst dd_Sta_wordsOf_0 ⟨by decide, by decide⟩ ?_
  refine r_istoren (L' := [_, _, _, _, _, _, _]) dd_Sta_wordsOf_1 rfl rfl ?_
  refine r_aloadn dd_Sta_wordsOf_2 rfl ?_
  refine r_getR dd_Sta_wordsOf_3 fl_Sta_11 (kI := 0) rfl fr_Sta_0 vk_1 R0_1_0 ?_
  refine r_astoren (L' := [_, _, _, _, _, _, _]) dd_Sta_wordsOf_6 rfl rfl ?_
  refine r_aloadn dd_Sta_wordsOf_7 rfl ?_
  refine r_alen dd_Sta_wordsOf_8 (q := 17) (n := 16) (by decide) vk_2 rfl ⟨by decide, by decide⟩ ?_
  refine r_istore (L' := [_, _, _, _, _, _, _]) dd_Sta_wordsOf_9 rfl rfl ?_
  refine r_iconst dd_Sta_wordsOf_11 ⟨by decide, by decide⟩ ?_
  refine r_istore (L' := [_, _, _, _, _, _, _]) dd_Sta_wordsOf_12 rfl rfl ?_
  exact r_eqr (show 0 + sumF (4 * 16) (4 * 0) (fun w => if owd m w ∧ m (256 + w) = t then m (128 + w) else 0) = _ from Int.zero_add _) (l_Sta_wordsOf hR ht 16 0 0 (by decide) (by decide) ⟨by decide, by decide⟩)
theorem l_Sta_blocksOf {μ : Int → Int → Int} {K : Int} {m : Int → Int} (hR : RI K μ m) {t : Int} (ht : 0 ≤ t ∧ t ≤ 5) : ∀ (n : Nat) (i a : Int), (i + n = 16) → (0 ≤ i) → (0 ≤ a ∧ a ≤ 1 * i) → SPW mi_Sta_blocksOf 219 14 [some (vR 1), some (vI t), some (vI a), some (vR 2), some (vI 16), some (vI i), none] [] (st (μ)) (some (vI (a + sumF (4 * n) (4 * i) (fun w => if owd m w ∧ m (256 + w) = t then 1 else 0)))) (st (μ)) := by
  intro n
  induction n with
  | zero =>
    intro i a h0 h1 h2
    refine r_iload dd_Sta_blocksOf_14 rfl ?_
    refine r_iload dd_Sta_blocksOf_16 rfl ?_
    refine r_icmp_ge dd_Sta_blocksOf_18 (fun c_18 => ?_) (fun c_18 => ?_)
    · refine r_iloadn dd_Sta_blocksOf_45 rfl ?_
      exact r_retI dd_Sta_blocksOf_46 (by show _ = a + sumF 0 _ _; rw [sumF_0]; omega) rfl
    · exfalso; omega
  | succ n ih =>
    intro i a h0 h1 h2
    have ho := hR.own h1 (by omega)
    have hb := hR.blk h1 (by omega)
    have hw := hR.2.1.1 (4 * i) (by omega) (by omega)
    have z1 := hR.2.2.z h1 (by omega : i < 16) (j := 1) (by omega)
    have z2 := hR.2.2.z h1 (by omega : i < 16) (j := 2) (by omega)
    have z3 := hR.2.2.z h1 (by omega : i < 16) (j := 3) (by omega)
    refine r_iload dd_Sta_blocksOf_14 rfl ?_
    refine r_iload dd_Sta_blocksOf_16 rfl ?_
    refine r_icmp_ge dd_Sta_blocksOf_18 (fun c_18 => ?_) (fun c_18 => ?_)
    · exfalso; omega
    · refine r_aloadn dd_Sta_blocksOf_21 rfl ?_
      refine r_iload dd_Sta_blocksOf_22 rfl ?_
      refine r_aald dd_Sta_blocksOf_24 (q := 17) (by decide) vk_2 (by omega) (by show _ < ((16 : Nat) : Int); omega) (by first | exact R0_2 | exact R0_20 | exact R0_80 | exact R0_187 | exact R0_b (by assumption) | exact R0_t (by assumption)) ?_
      refine r_astore (L' := [_, _, _, _, _, _, _]) dd_Sta_blocksOf_25 rfl rfl ?_
      refine r_aload dd_Sta_blocksOf_27 rfl ?_
      refine r_getI dd_Sta_blocksOf_29 fl_Sta_75 (kI := 2) rfl fi_Blk_2 (by first | assumption | exact vk_blk (by omega) (by omega) | exact vk_tsk (by omega) (by omega) | exact vk_cmd (by omega) (by omega)) ?_
      refine r_iloadn dd_Sta_blocksOf_32 rfl ?_
      refine r_icmp_ne dd_Sta_blocksOf_33 (fun c_33 => ?_) (fun c_33 => ?_)
      · refine r_iinc (L' := [_, _, _, _, _, _, _]) dd_Sta_blocksOf_39 rfl ⟨by omega, by omega⟩ rfl ?_
        refine r_goto dd_Sta_blocksOf_42 ?_
        refine r_drop 6 (r_eqr (by rw [(sumF4 (by rw [if_neg (by omega)]) (by rw [if_neg (by omega)]) (by rw [if_neg (by omega)]))]; first | (rw [if_pos (by omega)]; omega) | (rw [if_neg (by omega)]; omega)) (ih (i + 1) _ (by omega) (by omega) ⟨by omega, by omega⟩))
      · refine r_iinc (L' := [_, _, _, _, _, _, _]) dd_Sta_blocksOf_36 rfl ⟨by omega, by omega⟩ rfl ?_
        refine r_iinc (L' := [_, _, _, _, _, _, _]) dd_Sta_blocksOf_39 rfl ⟨by omega, by omega⟩ rfl ?_
        refine r_goto dd_Sta_blocksOf_42 ?_
        refine r_drop 6 (r_eqr (by rw [(sumF4 (by rw [if_neg (by omega)]) (by rw [if_neg (by omega)]) (by rw [if_neg (by omega)]))]; first | (rw [if_pos (by omega)]; omega) | (rw [if_neg (by omega)]; omega)) (ih (i + 1) _ (by omega) (by omega) ⟨by omega, by omega⟩))
theorem c_Sta_blocksOf {μ : Int → Int → Int} {K : Int} {m : Int → Int} (hR : RI K μ m) {t : Int} (ht : 0 ≤ t ∧ t ≤ 5) : MetC mi_Sta_blocksOf [vR 1, vI t] (st μ) (some (vI (blksM m t))) (st (μ)) := by
  refine met_of ?_ (Nat.le_of_ble_eq_true rfl) (by decide) trivial (by decide) (Nat.le_of_ble_eq_true rfl)
  show SPW mi_Sta_blocksOf 219 0 [some (vR 1), some (vI t), none, none, none, none, none] [] (st μ) (some (vI (blksM m t))) (st (μ))
  refine r_iconst dd_Sta_blocksOf_0 ⟨by decide, by decide⟩ ?_
  refine r_istoren (L' := [_, _, _, _, _, _, _]) dd_Sta_blocksOf_1 rfl rfl ?_
  refine r_aloadn dd_Sta_blocksOf_2 rfl ?_
  refine r_getR dd_Sta_blocksOf_3 fl_Sta_11 (kI := 0) rfl fr_Sta_0 vk_1 R0_1_0 ?_
  refine r_astoren (L' := [_, _, _, _, _, _, _]) dd_Sta_blocksOf_6 rfl rfl ?_
  refine r_aloadn dd_Sta_blocksOf_7 rfl ?_
  refine r_alen dd_Sta_blocksOf_8 (q := 17) (n := 16) (by decide) vk_2 rfl ⟨by decide, by decide⟩ ?_
  refine r_istore (L' := [_, _, _, _, _, _, _]) dd_Sta_blocksOf_9 rfl rfl ?_
  refine r_iconst dd_Sta_blocksOf_11 ⟨by decide, by decide⟩ ?_
  refine r_istore (L' := [_, _, _, _, _, _, _]) dd_Sta_blocksOf_12 rfl rfl ?_
  exact r_eqr (show 0 + sumF (4 * 16) (4 * 0) (fun w => if owd m w ∧ m (256 + w) = t then 1 else 0) = _ from Int.zero_add _) (l_Sta_blocksOf hR ht 16 0 0 (by decide) (by decide) ⟨by decide, by decide⟩)
theorem l_Sta_askedBy {μ : Int → Int → Int} {K : Int} {m : Int → Int} (hR : RI K μ m) {t : Int} (ht : 0 ≤ t ∧ t ≤ 5) : ∀ (n : Nat) (i a : Int), (i + n = 16) → (0 ≤ i) → (0 ≤ a ∧ a ≤ 14 * i) → SPW mi_Sta_askedBy 219 14 [some (vR 1), some (vI t), some (vI a), some (vR 2), some (vI 16), some (vI i), none] [] (st (μ)) (some (vI (a + sumF (4 * n) (4 * i) (fun w => if owd m w ∧ (t = 6 ∨ m (256 + w) = t) then m (320 + w) else 0)))) (st (μ)) := by
  intro n
  induction n with
  | zero =>
    intro i a h0 h1 h2
    refine r_iload dd_Sta_askedBy_14 rfl ?_
    refine r_iload dd_Sta_askedBy_16 rfl ?_
    refine r_icmp_ge dd_Sta_askedBy_18 (fun c_18 => ?_) (fun c_18 => ?_)
    · refine r_iloadn dd_Sta_askedBy_50 rfl ?_
      exact r_retI dd_Sta_askedBy_51 (by show _ = a + sumF 0 _ _; rw [sumF_0]; omega) rfl
    · exfalso; omega
  | succ n ih =>
    intro i a h0 h1 h2
    have ho := hR.own h1 (by omega)
    have hb := hR.blk h1 (by omega)
    have hw := hR.2.1.1 (4 * i) (by omega) (by omega)
    have z1 := hR.2.2.z h1 (by omega : i < 16) (j := 1) (by omega)
    have z2 := hR.2.2.z h1 (by omega : i < 16) (j := 2) (by omega)
    have z3 := hR.2.2.z h1 (by omega : i < 16) (j := 3) (by omega)
    refine r_iload dd_Sta_askedBy_14 rfl ?_
    refine r_iload dd_Sta_askedBy_16 rfl ?_
    refine r_icmp_ge dd_Sta_askedBy_18 (fun c_18 => ?_) (fun c_18 => ?_)
    · exfalso; omega
    · refine r_aloadn dd_Sta_askedBy_21 rfl ?_
      refine r_iload dd_Sta_askedBy_22 rfl ?_
      refine r_aald dd_Sta_askedBy_24 (q := 17) (by decide) vk_2 (by omega) (by show _ < ((16 : Nat) : Int); omega) (by first | exact R0_2 | exact R0_20 | exact R0_80 | exact R0_187 | exact R0_b (by assumption) | exact R0_t (by assumption)) ?_
      refine r_astore (L' := [_, _, _, _, _, _, _]) dd_Sta_askedBy_25 rfl rfl ?_
      refine r_aload dd_Sta_askedBy_27 rfl ?_
      refine r_getI dd_Sta_askedBy_29 fl_Sta_75 (kI := 2) rfl fi_Blk_2 (by first | assumption | exact vk_blk (by omega) (by omega) | exact vk_tsk (by omega) (by omega) | exact vk_cmd (by omega) (by omega)) ?_
      refine r_iloadn dd_Sta_askedBy_32 rfl ?_
      refine r_icmp_ne dd_Sta_askedBy_33 (fun c_33 => ?_) (fun c_33 => ?_)
      · refine r_iinc (L' := [_, _, _, _, _, _, _]) dd_Sta_askedBy_44 rfl ⟨by omega, by omega⟩ rfl ?_
        refine r_goto dd_Sta_askedBy_47 ?_
        refine r_drop 6 (r_eqr (by rw [(sumF4 (by rw [if_neg (by omega)]) (by rw [if_neg (by omega)]) (by rw [if_neg (by omega)]))]; first | (rw [if_pos (by omega)]; omega) | (rw [if_neg (by omega)]; omega)) (ih (i + 1) _ (by omega) (by omega) ⟨by omega, by omega⟩))
      · refine r_iloadn dd_Sta_askedBy_36 rfl ?_
        refine r_aload dd_Sta_askedBy_37 rfl ?_
        refine r_getI dd_Sta_askedBy_39 fl_Sta_81 (kI := 4) rfl fi_Blk_4 (by first | assumption | exact vk_blk (by omega) (by omega) | exact vk_tsk (by omega) (by omega) | exact vk_cmd (by omega) (by omega)) ?_
        refine r_iadd dd_Sta_askedBy_42 ⟨by omega, by omega⟩ ?_
        refine r_istoren (L' := [_, _, _, _, _, _, _]) dd_Sta_askedBy_43 rfl rfl ?_
        refine r_iinc (L' := [_, _, _, _, _, _, _]) dd_Sta_askedBy_44 rfl ⟨by omega, by omega⟩ rfl ?_
        refine r_goto dd_Sta_askedBy_47 ?_
        refine r_drop 6 (r_eqr (by rw [(sumF4 (by rw [if_neg (by omega)]) (by rw [if_neg (by omega)]) (by rw [if_neg (by omega)]))]; first | (rw [if_pos (by omega)]; omega) | (rw [if_neg (by omega)]; omega)) (ih (i + 1) _ (by omega) (by omega) ⟨by omega, by omega⟩))
theorem c_Sta_askedBy {μ : Int → Int → Int} {K : Int} {m : Int → Int} (hR : RI K μ m) {t : Int} (ht : 0 ≤ t ∧ t ≤ 5) : MetC mi_Sta_askedBy [vR 1, vI t] (st μ) (some (vI (askdM m t))) (st (μ)) := by
  refine met_of ?_ (Nat.le_of_ble_eq_true rfl) (by decide) trivial (by decide) (Nat.le_of_ble_eq_true rfl)
  show SPW mi_Sta_askedBy 219 0 [some (vR 1), some (vI t), none, none, none, none, none] [] (st μ) (some (vI (askdM m t))) (st (μ))
  refine r_iconst dd_Sta_askedBy_0 ⟨by decide, by decide⟩ ?_
  refine r_istoren (L' := [_, _, _, _, _, _, _]) dd_Sta_askedBy_1 rfl rfl ?_
  refine r_aloadn dd_Sta_askedBy_2 rfl ?_
  refine r_getR dd_Sta_askedBy_3 fl_Sta_11 (kI := 0) rfl fr_Sta_0 vk_1 R0_1_0 ?_
  refine r_astoren (L' := [_, _, _, _, _, _, _]) dd_Sta_askedBy_6 rfl rfl ?_
  refine r_aloadn dd_Sta_askedBy_7 rfl ?_
  refine r_alen dd_Sta_askedBy_8 (q := 17) (n := 16) (by decide) vk_2 rfl ⟨by decide, by decide⟩ ?_
  refine r_istore (L' := [_, _, _, _, _, _, _]) dd_Sta_askedBy_9 rfl rfl ?_
  refine r_iconst dd_Sta_askedBy_11 ⟨by decide, by decide⟩ ?_
  refine r_istore (L' := [_, _, _, _, _, _, _]) dd_Sta_askedBy_12 rfl rfl ?_
  exact r_eqr (show 0 + sumF (4 * 16) (4 * 0) (fun w => if owd m w ∧ (t = 6 ∨ m (256 + w) = t) then m (320 + w) else 0) = _ from Int.zero_add _) (l_Sta_askedBy hR ht 16 0 0 (by decide) (by decide) ⟨by decide, by decide⟩)
theorem l_Sta_leaksOf {μ : Int → Int → Int} {K : Int} {m : Int → Int} (hR : RI K μ m) {t : Int} (ht : 0 ≤ t ∧ t ≤ 5) : ∀ (n : Nat) (i a : Int), (i + n = 16) → (0 ≤ i) → (0 ≤ a ∧ a ≤ 1 * i) → SPW mi_Sta_leaksOf 219 14 [some (vR 1), some (vI t), some (vI a), some (vR 2), some (vI 16), some (vI i), none] [] (st (μ)) (some (vI (a + sumF (4 * n) (4 * i) (fun w => if lkM m w ∧ (t = 6 ∨ m (256 + w) = t) then 1 else 0)))) (st (μ)) := by
  intro n
  induction n with
  | zero =>
    intro i a h0 h1 h2
    refine r_iload dd_Sta_leaksOf_14 rfl ?_
    refine r_iload dd_Sta_leaksOf_16 rfl ?_
    refine r_icmp_ge dd_Sta_leaksOf_18 (fun c_18 => ?_) (fun c_18 => ?_)
    · refine r_iloadn dd_Sta_leaksOf_54 rfl ?_
      exact r_retI dd_Sta_leaksOf_55 (by show _ = a + sumF 0 _ _; rw [sumF_0]; omega) rfl
    · exfalso; omega
  | succ n ih =>
    intro i a h0 h1 h2
    have ho := hR.own h1 (by omega)
    have hb := hR.blk h1 (by omega)
    have hw := hR.2.1.1 (4 * i) (by omega) (by omega)
    have z1 := hR.2.2.z h1 (by omega : i < 16) (j := 1) (by omega)
    have z2 := hR.2.2.z h1 (by omega : i < 16) (j := 2) (by omega)
    have z3 := hR.2.2.z h1 (by omega : i < 16) (j := 3) (by omega)
    refine r_iload dd_Sta_leaksOf_14 rfl ?_
    refine r_iload dd_Sta_leaksOf_16 rfl ?_
    refine r_icmp_ge dd_Sta_leaksOf_18 (fun c_18 => ?_) (fun c_18 => ?_)
    · exfalso; omega
    · refine r_aloadn dd_Sta_leaksOf_21 rfl ?_
      refine r_iload dd_Sta_leaksOf_22 rfl ?_
      refine r_aald dd_Sta_leaksOf_24 (q := 17) (by decide) vk_2 (by omega) (by show _ < ((16 : Nat) : Int); omega) (by first | exact R0_2 | exact R0_20 | exact R0_80 | exact R0_187 | exact R0_b (by assumption) | exact R0_t (by assumption)) ?_
      refine r_astore (L' := [_, _, _, _, _, _, _]) dd_Sta_leaksOf_25 rfl rfl ?_
      refine r_aload dd_Sta_leaksOf_27 rfl ?_
      refine r_getI dd_Sta_leaksOf_29 fl_Sta_75 (kI := 2) rfl fi_Blk_2 (by first | assumption | exact vk_blk (by omega) (by omega) | exact vk_tsk (by omega) (by omega) | exact vk_cmd (by omega) (by omega)) ?_
      refine r_iloadn dd_Sta_leaksOf_32 rfl ?_
      refine r_icmp_ne dd_Sta_leaksOf_33 (fun c_33 => ?_) (fun c_33 => ?_)
      · refine r_iinc (L' := [_, _, _, _, _, _, _]) dd_Sta_leaksOf_48 rfl ⟨by omega, by omega⟩ rfl ?_
        refine r_goto dd_Sta_leaksOf_51 ?_
        refine r_drop 6 (r_eqr (by rw [(sumF4 (by rw [if_neg (by omega)]) (by rw [if_neg (by omega)]) (by rw [if_neg (by omega)]))]; first | (rw [if_pos (by omega)]; omega) | (rw [if_neg (by omega)]; omega)) (ih (i + 1) _ (by omega) (by omega) ⟨by omega, by omega⟩))
      · refine r_aloadn dd_Sta_leaksOf_36 rfl ?_
        refine r_aload dd_Sta_leaksOf_37 rfl ?_
        refine r_V1W dd_Sta_leaksOf_39 ml_Sta_134 ok_Sta_isLeak vi_Sta_isLeak vk_1 (by decide) (clS rfl (Nat.le_refl _) (rmOK_self _ _)) rfl (c_Sta_isLeak hR h1 (by omega)) ?_
        refine r_if_eq_b dd_Sta_leaksOf_42 (fun c_42 => ?_) (fun c_42 => ?_)
        · refine r_iinc (L' := [_, _, _, _, _, _, _]) dd_Sta_leaksOf_48 rfl ⟨by omega, by omega⟩ rfl ?_
          refine r_goto dd_Sta_leaksOf_51 ?_
          refine r_drop 6 (r_eqr (by rw [(sumF4 (by rw [if_neg (by omega)]) (by rw [if_neg (by omega)]) (by rw [if_neg (by omega)]))]; first | (rw [if_pos (by omega)]; omega) | (rw [if_neg (by omega)]; omega)) (ih (i + 1) _ (by omega) (by omega) ⟨by omega, by omega⟩))
        · refine r_iinc (L' := [_, _, _, _, _, _, _]) dd_Sta_leaksOf_45 rfl ⟨by omega, by omega⟩ rfl ?_
          refine r_iinc (L' := [_, _, _, _, _, _, _]) dd_Sta_leaksOf_48 rfl ⟨by omega, by omega⟩ rfl ?_
          refine r_goto dd_Sta_leaksOf_51 ?_
          refine r_drop 6 (r_eqr (by rw [(sumF4 (by rw [if_neg (by omega)]) (by rw [if_neg (by omega)]) (by rw [if_neg (by omega)]))]; first | (rw [if_pos (by omega)]; omega) | (rw [if_neg (by omega)]; omega)) (ih (i + 1) _ (by omega) (by omega) ⟨by omega, by omega⟩))
theorem c_Sta_leaksOf {μ : Int → Int → Int} {K : Int} {m : Int → Int} (hR : RI K μ m) {t : Int} (ht : 0 ≤ t ∧ t ≤ 5) : MetC mi_Sta_leaksOf [vR 1, vI t] (st μ) (some (vI (lksM m t))) (st (μ)) := by
  refine met_of ?_ (Nat.le_of_ble_eq_true rfl) (by decide) trivial (by decide) (Nat.le_of_ble_eq_true rfl)
  show SPW mi_Sta_leaksOf 219 0 [some (vR 1), some (vI t), none, none, none, none, none] [] (st μ) (some (vI (lksM m t))) (st (μ))
  refine r_iconst dd_Sta_leaksOf_0 ⟨by decide, by decide⟩ ?_
  refine r_istoren (L' := [_, _, _, _, _, _, _]) dd_Sta_leaksOf_1 rfl rfl ?_
  refine r_aloadn dd_Sta_leaksOf_2 rfl ?_
  refine r_getR dd_Sta_leaksOf_3 fl_Sta_11 (kI := 0) rfl fr_Sta_0 vk_1 R0_1_0 ?_
  refine r_astoren (L' := [_, _, _, _, _, _, _]) dd_Sta_leaksOf_6 rfl rfl ?_
  refine r_aloadn dd_Sta_leaksOf_7 rfl ?_
  refine r_alen dd_Sta_leaksOf_8 (q := 17) (n := 16) (by decide) vk_2 rfl ⟨by decide, by decide⟩ ?_
  refine r_istore (L' := [_, _, _, _, _, _, _]) dd_Sta_leaksOf_9 rfl rfl ?_
  refine r_iconst dd_Sta_leaksOf_11 ⟨by decide, by decide⟩ ?_
  refine r_istore (L' := [_, _, _, _, _, _, _]) dd_Sta_leaksOf_12 rfl rfl ?_
  exact r_eqr (show 0 + sumF (4 * 16) (4 * 0) (fun w => if lkM m w ∧ (t = 6 ∨ m (256 + w) = t) then 1 else 0) = _ from Int.zero_add _) (l_Sta_leaksOf hR ht 16 0 0 (by decide) (by decide) ⟨by decide, by decide⟩)
theorem l_Sta_leaksAheadOf {μ : Int → Int → Int} {K : Int} {m : Int → Int} (hR : RI K μ m) {j : Int} (j0 : 0 ≤ j) (j1 : j < 16) (hj : owd m (4 * j)) : ∀ (n : Nat) (i a : Int), (i + n = 16) → (0 ≤ i) → (0 ≤ a ∧ a ≤ i) → SPW mi_Sta_leaksAheadOf 219 14 [some (vR 1), some (vR (3 + j)), some (vI a), some (vR 2), some (vI 16), some (vI i), none, none] [] (st (μ)) (some (vI (a + sumF (4 * n) (4 * i) (fun w => if lkM m w ∧ (m (384 + w) < m (384 + 4 * j) ∨ (m (384 + w) = m (384 + 4 * j) ∧ m (192 + w) < m (192 + 4 * j))) then 1 else 0)))) (st (μ)) := by
  intro n
  induction n with
  | zero =>
    intro i a h0 h1 h2
    refine r_iload dd_Sta_leaksAheadOf_14 rfl ?_
    refine r_iload dd_Sta_leaksAheadOf_16 rfl ?_
    refine r_icmp_ge dd_Sta_leaksAheadOf_18 (fun c_18 => ?_) (fun c_18 => ?_)
    · refine r_iloadn dd_Sta_leaksAheadOf_93 rfl ?_
      exact r_retI dd_Sta_leaksAheadOf_94 (by show _ = a + sumF 0 _ _; rw [sumF_0]; omega) rfl
    · exfalso; omega
  | succ n ih =>
    intro i a h0 h1 h2
    have ho := hR.own h1 (by omega)
    have hb := hR.blk h1 (by omega)
    have hw := hR.2.1.1 (4 * i) (by omega) (by omega)
    have z1 := hR.2.2.z h1 (by omega : i < 16) (j := 1) (by omega)
    have z2 := hR.2.2.z h1 (by omega : i < 16) (j := 2) (by omega)
    have z3 := hR.2.2.z h1 (by omega : i < 16) (j := 3) (by omega)
    have hbj := hR.blk j0 j1
    refine r_iload dd_Sta_leaksAheadOf_14 rfl ?_
    refine r_iload dd_Sta_leaksAheadOf_16 rfl ?_
    refine r_icmp_ge dd_Sta_leaksAheadOf_18 (fun c_18 => ?_) (fun c_18 => ?_)
    · exfalso; omega
    · refine r_aloadn dd_Sta_leaksAheadOf_21 rfl ?_
      refine r_iload dd_Sta_leaksAheadOf_22 rfl ?_
      refine r_aald dd_Sta_leaksAheadOf_24 (q := 17) (by decide) vk_2 (by omega) (by show _ < ((16 : Nat) : Int); omega) (by first | exact R0_2 | exact R0_20 | exact R0_80 | exact R0_187 | exact R0_b (by assumption) | exact R0_t (by assumption)) ?_
      refine r_astore (L' := [_, _, _, _, _, _, _, _]) dd_Sta_leaksAheadOf_25 rfl rfl ?_
      refine r_aload dd_Sta_leaksAheadOf_27 rfl ?_
      refine r_getI dd_Sta_leaksAheadOf_29 fl_Sta_84 (kI := 5) rfl fi_Blk_5 (by first | assumption | exact vk_blk (by omega) (by omega) | exact vk_tsk (by omega) (by omega) | exact vk_cmd (by omega) (by omega)) ?_
      refine r_aloadn dd_Sta_leaksAheadOf_32 rfl ?_
      refine r_getI dd_Sta_leaksAheadOf_33 fl_Sta_84 (kI := 5) rfl fi_Blk_5 (by first | assumption | exact vk_blk (by omega) (by omega) | exact vk_tsk (by omega) (by omega) | exact vk_cmd (by omega) (by omega)) ?_
      refine r_icmp_lt dd_Sta_leaksAheadOf_36 (fun c_36 => ?_) (fun c_36 => ?_)
      · refine r_iconst dd_Sta_leaksAheadOf_63 ⟨by decide, by decide⟩ ?_
        refine r_goto dd_Sta_leaksAheadOf_64 ?_
        refine r_istore (L' := [_, _, _, _, _, _, _, _]) dd_Sta_leaksAheadOf_68 rfl rfl ?_
        refine r_iload dd_Sta_leaksAheadOf_70 rfl ?_
        refine r_if_eq dd_Sta_leaksAheadOf_72 (fun c_72 => ?_) (fun c_72 => ?_)
        · exfalso; omega
        · refine r_aloadn dd_Sta_leaksAheadOf_75 rfl ?_
          refine r_aload dd_Sta_leaksAheadOf_76 rfl ?_
          refine r_V1W dd_Sta_leaksAheadOf_78 ml_Sta_134 ok_Sta_isLeak vi_Sta_isLeak vk_1 (by decide) (clS rfl (Nat.le_refl _) (rmOK_self _ _)) rfl (c_Sta_isLeak hR h1 (by omega)) ?_
          refine r_if_eq_b dd_Sta_leaksAheadOf_81 (fun c_81 => ?_) (fun c_81 => ?_)
          · refine r_iinc (L' := [_, _, _, _, _, _, _, _]) dd_Sta_leaksAheadOf_87 rfl ⟨by omega, by omega⟩ rfl ?_
            refine r_goto dd_Sta_leaksAheadOf_90 ?_
            refine r_drop 6 (r_drop 7 (r_eqr (by rw [(sumF4 (by rw [if_neg (by omega)]) (by rw [if_neg (by omega)]) (by rw [if_neg (by omega)]))]; first | (rw [if_pos (by omega)]; omega) | (rw [if_neg (by omega)]; omega)) (ih (i + 1) _ (by omega) (by omega) ⟨by omega, by omega⟩)))
          · refine r_iinc (L' := [_, _, _, _, _, _, _, _]) dd_Sta_leaksAheadOf_84 rfl ⟨by omega, by omega⟩ rfl ?_
            refine r_iinc (L' := [_, _, _, _, _, _, _, _]) dd_Sta_leaksAheadOf_87 rfl ⟨by omega, by omega⟩ rfl ?_
            refine r_goto dd_Sta_leaksAheadOf_90 ?_
            refine r_drop 6 (r_drop 7 (r_eqr (by rw [(sumF4 (by rw [if_neg (by omega)]) (by rw [if_neg (by omega)]) (by rw [if_neg (by omega)]))]; first | (rw [if_pos (by omega)]; omega) | (rw [if_neg (by omega)]; omega)) (ih (i + 1) _ (by omega) (by omega) ⟨by omega, by omega⟩)))
      · refine r_aload dd_Sta_leaksAheadOf_39 rfl ?_
        refine r_getI dd_Sta_leaksAheadOf_41 fl_Sta_84 (kI := 5) rfl fi_Blk_5 (by first | assumption | exact vk_blk (by omega) (by omega) | exact vk_tsk (by omega) (by omega) | exact vk_cmd (by omega) (by omega)) ?_
        refine r_aloadn dd_Sta_leaksAheadOf_44 rfl ?_
        refine r_getI dd_Sta_leaksAheadOf_45 fl_Sta_84 (kI := 5) rfl fi_Blk_5 (by first | assumption | exact vk_blk (by omega) (by omega) | exact vk_tsk (by omega) (by omega) | exact vk_cmd (by omega) (by omega)) ?_
        refine r_icmp_ne dd_Sta_leaksAheadOf_48 (fun c_48 => ?_) (fun c_48 => ?_)
        · refine r_iconst dd_Sta_leaksAheadOf_67 ⟨by decide, by decide⟩ ?_
          refine r_istore (L' := [_, _, _, _, _, _, _, _]) dd_Sta_leaksAheadOf_68 rfl rfl ?_
          refine r_iload dd_Sta_leaksAheadOf_70 rfl ?_
          refine r_if_eq dd_Sta_leaksAheadOf_72 (fun c_72 => ?_) (fun c_72 => ?_)
          · refine r_iinc (L' := [_, _, _, _, _, _, _, _]) dd_Sta_leaksAheadOf_87 rfl ⟨by omega, by omega⟩ rfl ?_
            refine r_goto dd_Sta_leaksAheadOf_90 ?_
            refine r_drop 6 (r_drop 7 (r_eqr (by rw [(sumF4 (by rw [if_neg (by omega)]) (by rw [if_neg (by omega)]) (by rw [if_neg (by omega)]))]; first | (rw [if_pos (by omega)]; omega) | (rw [if_neg (by omega)]; omega)) (ih (i + 1) _ (by omega) (by omega) ⟨by omega, by omega⟩)))
          · exfalso; omega
        · refine r_aload dd_Sta_leaksAheadOf_51 rfl ?_
          refine r_getI dd_Sta_leaksAheadOf_53 fl_Sta_78 (kI := 3) rfl fi_Blk_3 (by first | assumption | exact vk_blk (by omega) (by omega) | exact vk_tsk (by omega) (by omega) | exact vk_cmd (by omega) (by omega)) ?_
          refine r_aloadn dd_Sta_leaksAheadOf_56 rfl ?_
          refine r_getI dd_Sta_leaksAheadOf_57 fl_Sta_78 (kI := 3) rfl fi_Blk_3 (by first | assumption | exact vk_blk (by omega) (by omega) | exact vk_tsk (by omega) (by omega) | exact vk_cmd (by omega) (by omega)) ?_
          refine r_icmp_ge dd_Sta_leaksAheadOf_60 (fun c_60 => ?_) (fun c_60 => ?_)
          · refine r_iconst dd_Sta_leaksAheadOf_67 ⟨by decide, by decide⟩ ?_
            refine r_istore (L' := [_, _, _, _, _, _, _, _]) dd_Sta_leaksAheadOf_68 rfl rfl ?_
            refine r_iload dd_Sta_leaksAheadOf_70 rfl ?_
            refine r_if_eq dd_Sta_leaksAheadOf_72 (fun c_72 => ?_) (fun c_72 => ?_)
            · refine r_iinc (L' := [_, _, _, _, _, _, _, _]) dd_Sta_leaksAheadOf_87 rfl ⟨by omega, by omega⟩ rfl ?_
              refine r_goto dd_Sta_leaksAheadOf_90 ?_
              refine r_drop 6 (r_drop 7 (r_eqr (by rw [(sumF4 (by rw [if_neg (by omega)]) (by rw [if_neg (by omega)]) (by rw [if_neg (by omega)]))]; first | (rw [if_pos (by omega)]; omega) | (rw [if_neg (by omega)]; omega)) (ih (i + 1) _ (by omega) (by omega) ⟨by omega, by omega⟩)))
            · exfalso; omega
          · refine r_iconst dd_Sta_leaksAheadOf_63 ⟨by decide, by decide⟩ ?_
            refine r_goto dd_Sta_leaksAheadOf_64 ?_
            refine r_istore (L' := [_, _, _, _, _, _, _, _]) dd_Sta_leaksAheadOf_68 rfl rfl ?_
            refine r_iload dd_Sta_leaksAheadOf_70 rfl ?_
            refine r_if_eq dd_Sta_leaksAheadOf_72 (fun c_72 => ?_) (fun c_72 => ?_)
            · exfalso; omega
            · refine r_aloadn dd_Sta_leaksAheadOf_75 rfl ?_
              refine r_aload dd_Sta_leaksAheadOf_76 rfl ?_
              refine r_V1W dd_Sta_leaksAheadOf_78 ml_Sta_134 ok_Sta_isLeak vi_Sta_isLeak vk_1 (by decide) (clS rfl (Nat.le_refl _) (rmOK_self _ _)) rfl (c_Sta_isLeak hR h1 (by omega)) ?_
              refine r_if_eq_b dd_Sta_leaksAheadOf_81 (fun c_81 => ?_) (fun c_81 => ?_)
              · refine r_iinc (L' := [_, _, _, _, _, _, _, _]) dd_Sta_leaksAheadOf_87 rfl ⟨by omega, by omega⟩ rfl ?_
                refine r_goto dd_Sta_leaksAheadOf_90 ?_
                refine r_drop 6 (r_drop 7 (r_eqr (by rw [(sumF4 (by rw [if_neg (by omega)]) (by rw [if_neg (by omega)]) (by rw [if_neg (by omega)]))]; first | (rw [if_pos (by omega)]; omega) | (rw [if_neg (by omega)]; omega)) (ih (i + 1) _ (by omega) (by omega) ⟨by omega, by omega⟩)))
              · refine r_iinc (L' := [_, _, _, _, _, _, _, _]) dd_Sta_leaksAheadOf_84 rfl ⟨by omega, by omega⟩ rfl ?_
                refine r_iinc (L' := [_, _, _, _, _, _, _, _]) dd_Sta_leaksAheadOf_87 rfl ⟨by omega, by omega⟩ rfl ?_
                refine r_goto dd_Sta_leaksAheadOf_90 ?_
                refine r_drop 6 (r_drop 7 (r_eqr (by rw [(sumF4 (by rw [if_neg (by omega)]) (by rw [if_neg (by omega)]) (by rw [if_neg (by omega)]))]; first | (rw [if_pos (by omega)]; omega) | (rw [if_neg (by omega)]; omega)) (ih (i + 1) _ (by omega) (by omega) ⟨by omega, by omega⟩)))
theorem c_Sta_leaksAheadOf {μ : Int → Int → Int} {K : Int} {m : Int → Int} (hR : RI K μ m) {j : Int} (j0 : 0 ≤ j) (j1 : j < 16) (hj : owd m (4 * j)) : MetC mi_Sta_leaksAheadOf [vR 1, vR (3 + j)] (st μ) (some (vI (ahdM m (4 * j)))) (st (μ)) := by
  refine met_of ?_ (Nat.le_of_ble_eq_true rfl) (by decide) trivial (by decide) (Nat.le_of_ble_eq_true rfl)
  show SPW mi_Sta_leaksAheadOf 219 0 [some (vR 1), some (vR (3 + j)), none, none, none, none, none, none] [] (st μ) (some (vI (ahdM m (4 * j)))) (st (μ))
  refine r_iconst dd_Sta_leaksAheadOf_0 ⟨by decide, by decide⟩ ?_
  refine r_istoren (L' := [_, _, _, _, _, _, _, _]) dd_Sta_leaksAheadOf_1 rfl rfl ?_
  refine r_aloadn dd_Sta_leaksAheadOf_2 rfl ?_
  refine r_getR dd_Sta_leaksAheadOf_3 fl_Sta_11 (kI := 0) rfl fr_Sta_0 vk_1 R0_1_0 ?_
  refine r_astoren (L' := [_, _, _, _, _, _, _, _]) dd_Sta_leaksAheadOf_6 rfl rfl ?_
  refine r_aloadn dd_Sta_leaksAheadOf_7 rfl ?_
  refine r_alen dd_Sta_leaksAheadOf_8 (q := 17) (n := 16) (by decide) vk_2 rfl ⟨by decide, by decide⟩ ?_
  refine r_istore (L' := [_, _, _, _, _, _, _, _]) dd_Sta_leaksAheadOf_9 rfl rfl ?_
  refine r_iconst dd_Sta_leaksAheadOf_11 ⟨by decide, by decide⟩ ?_
  refine r_istore (L' := [_, _, _, _, _, _, _, _]) dd_Sta_leaksAheadOf_12 rfl rfl ?_
  exact r_eqr (show 0 + sumF (4 * 16) (4 * 0) (fun w => if lkM m w ∧ (m (384 + w) < m (384 + 4 * j) ∨ (m (384 + w) = m (384 + 4 * j) ∧ m (192 + w) < m (192 + 4 * j))) then 1 else 0) = _ from Int.zero_add _) (l_Sta_leaksAheadOf hR j0 j1 hj 16 0 0 (by decide) (by decide) ⟨by decide, by decide⟩)
theorem l_Sta_leakOfRank {μ : Int → Int → Int} {K : Int} {m : Int → Int} (hR : RI K μ m) {rank : Int} : ∀ (n : Nat) (i : Int), (i + n = 16) → (0 ≤ i) → SPW mi_Sta_leakOfRank 219 18 [some (vR 1), some (vI rank), some (vR 2), some (vI 16), some (vI i), none] [] (st (μ)) (some (vI (if fstF (fun w => lkM m w ∧ ahdM m w = rank) (4 * n) (4 * i) = -5 then -5 else m (192 + fstF (fun w => lkM m w ∧ ahdM m w = rank) (4 * n) (4 * i))))) (st (μ)) := by
  intro n
  induction n with
  | zero =>
    intro i h0 h1
    refine r_iload dd_Sta_leakOfRank_18 rfl ?_
    refine r_iloadn dd_Sta_leakOfRank_20 rfl ?_
    refine r_icmp_ge dd_Sta_leakOfRank_21 (fun c_21 => ?_) (fun c_21 => ?_)
    · refine r_bip dd_Sta_leakOfRank_61 ⟨by decide, by decide⟩ ?_
      exact r_retI dd_Sta_leakOfRank_63 (by first | rfl | (rw [fstF4y (by omega), if_neg (by omega)]; exact (hb.2.2.2.1 (show lkM m (4 * i) from c_36).1).2)) rfl
    · exfalso; omega
  | succ n ih =>
    intro i h0 h1
    have ho := hR.own h1 (by omega)
    have hb := hR.blk h1 (by omega)
    have hw := hR.2.1.1 (4 * i) (by omega) (by omega)
    have z1 := hR.2.2.z h1 (by omega : i < 16) (j := 1) (by omega)
    have z2 := hR.2.2.z h1 (by omega : i < 16) (j := 2) (by omega)
    have z3 := hR.2.2.z h1 (by omega : i < 16) (j := 3) (by omega)
    refine r_iload dd_Sta_leakOfRank_18 rfl ?_
    refine r_iloadn dd_Sta_leakOfRank_20 rfl ?_
    refine r_icmp_ge dd_Sta_leakOfRank_21 (fun c_21 => ?_) (fun c_21 => ?_)
    · exfalso; omega
    · refine r_aloadn dd_Sta_leakOfRank_24 rfl ?_
      refine r_iload dd_Sta_leakOfRank_25 rfl ?_
      refine r_aald dd_Sta_leakOfRank_27 (q := 17) (by decide) vk_2 (by omega) (by show _ < ((16 : Nat) : Int); omega) (by first | exact R0_2 | exact R0_20 | exact R0_80 | exact R0_187 | exact R0_b (by assumption) | exact R0_t (by assumption)) ?_
      refine r_astore (L' := [_, _, _, _, _, _]) dd_Sta_leakOfRank_28 rfl rfl ?_
      refine r_aloadn dd_Sta_leakOfRank_30 rfl ?_
      refine r_aload dd_Sta_leakOfRank_31 rfl ?_
      refine r_V1W dd_Sta_leakOfRank_33 ml_Sta_134 ok_Sta_isLeak vi_Sta_isLeak vk_1 (by decide) (clS rfl (Nat.le_refl _) (rmOK_self _ _)) rfl (c_Sta_isLeak hR h1 (by omega)) ?_
      refine r_if_eq_b dd_Sta_leakOfRank_36 (fun c_36 => ?_) (fun c_36 => ?_)
      · refine r_iinc (L' := [_, _, _, _, _, _]) dd_Sta_leakOfRank_55 rfl ⟨by omega, by omega⟩ rfl ?_
        refine r_goto dd_Sta_leakOfRank_58 ?_
        refine r_drop 5 (r_eqr (by rw [fstF4 (by omega) (by omega) (by omega) (by omega)]) (ih (i + 1) (by omega) (by omega)))
      · refine r_aloadn dd_Sta_leakOfRank_39 rfl ?_
        refine r_aload dd_Sta_leakOfRank_40 rfl ?_
        refine r_V1W dd_Sta_leakOfRank_42 ml_Sta_205 ok_Sta_leaksAheadOf vi_Sta_leaksAheadOf vk_1 (by decide) (clS rfl (Nat.le_refl _) (rmOK_self _ _)) rfl (c_Sta_leaksAheadOf hR h1 (by omega) (show lkM m (4 * i) from c_36).1) ?_
        refine r_iloadn dd_Sta_leakOfRank_45 rfl ?_
        refine r_icmp_ne dd_Sta_leakOfRank_46 (fun c_46 => ?_) (fun c_46 => ?_)
        · refine r_iinc (L' := [_, _, _, _, _, _]) dd_Sta_leakOfRank_55 rfl ⟨by omega, by omega⟩ rfl ?_
          refine r_goto dd_Sta_leakOfRank_58 ?_
          refine r_drop 5 (r_eqr (by rw [fstF4 (by omega) (by omega) (by omega) (by omega)]) (ih (i + 1) (by omega) (by omega)))
        · refine r_aload dd_Sta_leakOfRank_49 rfl ?_
          refine r_getI dd_Sta_leakOfRank_51 fl_Sta_78 (kI := 3) rfl fi_Blk_3 (by first | assumption | exact vk_blk (by omega) (by omega) | exact vk_tsk (by omega) (by omega) | exact vk_cmd (by omega) (by omega)) ?_
          exact r_retI dd_Sta_leakOfRank_54 (by first | rfl | (rw [fstF4y (by omega), if_neg (by omega)]; exact (hb.2.2.2.1 (show lkM m (4 * i) from c_36).1).2)) rfl
theorem c_Sta_leakOfRank {μ : Int → Int → Int} {K : Int} {m : Int → Int} (hR : RI K μ m) {rank : Int} : MetC mi_Sta_leakOfRank [vR 1, vI rank] (st μ) (some (vI (leakS m rank))) (st (μ)) := by
  refine met_of ?_ (Nat.le_of_ble_eq_true rfl) (by decide) trivial (by decide) (Nat.le_of_ble_eq_true rfl)
  show SPW mi_Sta_leakOfRank 219 0 [some (vR 1), some (vI rank), none, none, none, none] [] (st μ) (some (vI (leakS m rank))) (st (μ))
  refine r_iloadn dd_Sta_leakOfRank_0 rfl ?_
  refine r_if_ge dd_Sta_leakOfRank_1 (fun c_1 => ?_) (fun c_1 => ?_)
  · refine r_aloadn dd_Sta_leakOfRank_7 rfl ?_
    refine r_getR dd_Sta_leakOfRank_8 fl_Sta_11 (kI := 0) rfl fr_Sta_0 vk_1 R0_1_0 ?_
    refine r_astoren (L' := [_, _, _, _, _, _]) dd_Sta_leakOfRank_11 rfl rfl ?_
    refine r_aloadn dd_Sta_leakOfRank_12 rfl ?_
    refine r_alen dd_Sta_leakOfRank_13 (q := 17) (n := 16) (by decide) vk_2 rfl ⟨by decide, by decide⟩ ?_
    refine r_istoren (L' := [_, _, _, _, _, _]) dd_Sta_leakOfRank_14 rfl rfl ?_
    refine r_iconst dd_Sta_leakOfRank_15 ⟨by decide, by decide⟩ ?_
    refine r_istore (L' := [_, _, _, _, _, _]) dd_Sta_leakOfRank_16 rfl rfl ?_
    exact r_eqr (show (if fstF (fun w => lkM m w ∧ ahdM m w = rank) (4 * 16) (4 * 0) = -5 then -5 else m (192 + fstF (fun w => lkM m w ∧ ahdM m w = rank) (4 * 16) (4 * 0))) = leakS m rank from by unfold leakS; rw [if_neg (show ¬ rank < 0 by omega)]; rfl) (l_Sta_leakOfRank hR 16 0 (by decide) (by decide))
  · refine r_bip dd_Sta_leakOfRank_4 ⟨by decide, by decide⟩ ?_
    exact r_retI dd_Sta_leakOfRank_6 (by unfold leakS; (repeat (first | rw [if_pos (by omega)] | rw [if_neg (by omega)])); first | done | omega | (congr 1; omega) | exact (b2_t (by first | assumption | omega)).symm | exact (b2_f (by first | assumption | omega)).symm) rfl
