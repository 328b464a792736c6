/-! the class: sizes, rooms, reasons, greatest requests -/
def szC (words : Int) : Int := if words ≤ 2 then 0 else if words ≤ 6 then 1 else 2
theorem szC_rg (words : Int) : 0 ≤ szC words ∧ szC words ≤ 2 := by
  unfold szC
  split
  · exact ⟨by decide, by decide⟩
  · split
    · exact ⟨by decide, by decide⟩
    · exact ⟨by decide, by decide⟩
theorem p4_szC (words : Int) : p4 (szC words) = szM words := by
  unfold szC szM
  split
  · rfl
  · split <;> rfl
theorem wz_szC (words : Int) : wz (szC words) = szM words := by
  unfold szC szM
  split
  · rfl
  · split <;> rfl

theorem sf_2 {μ : Int → Int → Int} {words : Int} (h : 6 < words ∧ words ≤ 14) : SPW mi_Sta_sizeFor 219 2 [some (vI words), some (vI 2)] [] (st μ) (some (vI (szC words))) (st μ) := by
  have w2 : wz 2 = 16 := rfl
  refine r_iloadn dd_Sta_sizeFor_2 rfl ?_
  refine r_iconst dd_Sta_sizeFor_3 ⟨by decide, by decide⟩ ?_
  refine r_icmp_ge dd_Sta_sizeFor_4 (fun c_4 => ?_) (fun c_4 => ?_)
  · refine r_iloadn dd_Sta_sizeFor_23 rfl ?_
    exact r_retI dd_Sta_sizeFor_24 (by unfold szC; (repeat (first | rw [if_pos (by omega)] | rw [if_neg (by omega)])); first | done | omega | (congr 1; omega) | exact (b2_t (by first | assumption | omega)).symm | exact (b2_f (by first | assumption | omega)).symm) rfl
  · exfalso; omega
theorem sf_1 {μ : Int → Int → Int} {words : Int} (h : 2 < words ∧ words ≤ 14) : SPW mi_Sta_sizeFor 219 2 [some (vI words), some (vI 1)] [] (st μ) (some (vI (szC words))) (st μ) := by
  have w1 : wz 1 = 8 := rfl
  refine r_iloadn dd_Sta_sizeFor_2 rfl ?_
  refine r_iconst dd_Sta_sizeFor_3 ⟨by decide, by decide⟩ ?_
  refine r_icmp_ge dd_Sta_sizeFor_4 (fun c_4 => ?_) (fun c_4 => ?_)
  · exfalso; omega
  · refine r_iloadn dd_Sta_sizeFor_7 rfl ?_
    refine r_S1W dd_Sta_sizeFor_8 ml_Sta_138 ok_Blk_wordsOf st_Blk_wordsOf (clS rfl (Nat.le_refl _) (rmOK_self _ _)) rfl c_Blk_wordsOf ?_
    refine r_iloadn dd_Sta_sizeFor_11 rfl ?_
    refine r_iconst dd_Sta_sizeFor_12 ⟨by decide, by decide⟩ ?_
    refine r_iadd dd_Sta_sizeFor_13 ⟨by omega, by omega⟩ ?_
    refine r_icmp_ge dd_Sta_sizeFor_14 (fun c_14 => ?_) (fun c_14 => ?_)
    · refine r_iloadn dd_Sta_sizeFor_23 rfl ?_
      exact r_retI dd_Sta_sizeFor_24 (by unfold szC; (repeat (first | rw [if_pos (by omega)] | rw [if_neg (by omega)])); first | done | omega | (congr 1; omega) | exact (b2_t (by first | assumption | omega)).symm | exact (b2_f (by first | assumption | omega)).symm) rfl
    · refine r_iinc (L' := [_, _]) dd_Sta_sizeFor_17 rfl ⟨by omega, by omega⟩ rfl ?_
      refine r_goto dd_Sta_sizeFor_20 ?_
      exact sf_2 ⟨by omega, by omega⟩
theorem sf_0 {μ : Int → Int → Int} {words : Int} (h : 1 ≤ words ∧ words ≤ 14) : SPW mi_Sta_sizeFor 219 2 [some (vI words), some (vI 0)] [] (st μ) (some (vI (szC words))) (st μ) := by
  have w0 : wz 0 = 4 := rfl
  refine r_iloadn dd_Sta_sizeFor_2 rfl ?_
  refine r_iconst dd_Sta_sizeFor_3 ⟨by decide, by decide⟩ ?_
  refine r_icmp_ge dd_Sta_sizeFor_4 (fun c_4 => ?_) (fun c_4 => ?_)
  · exfalso; omega
  · refine r_iloadn dd_Sta_sizeFor_7 rfl ?_
    refine r_S1W dd_Sta_sizeFor_8 ml_Sta_138 ok_Blk_wordsOf st_Blk_wordsOf (clS rfl (Nat.le_refl _) (rmOK_self _ _)) rfl c_Blk_wordsOf ?_
    refine r_iloadn dd_Sta_sizeFor_11 rfl ?_
    refine r_iconst dd_Sta_sizeFor_12 ⟨by decide, by decide⟩ ?_
    refine r_iadd dd_Sta_sizeFor_13 ⟨by omega, by omega⟩ ?_
    refine r_icmp_ge dd_Sta_sizeFor_14 (fun c_14 => ?_) (fun c_14 => ?_)
    · refine r_iloadn dd_Sta_sizeFor_23 rfl ?_
      exact r_retI dd_Sta_sizeFor_24 (by unfold szC; (repeat (first | rw [if_pos (by omega)] | rw [if_neg (by omega)])); first | done | omega | (congr 1; omega) | exact (b2_t (by first | assumption | omega)).symm | exact (b2_f (by first | assumption | omega)).symm) rfl
    · refine r_iinc (L' := [_, _]) dd_Sta_sizeFor_17 rfl ⟨by omega, by omega⟩ rfl ?_
      refine r_goto dd_Sta_sizeFor_20 ?_
      exact sf_1 ⟨by omega, by omega⟩
theorem c_Sta_sizeFor {μ : Int → Int → Int} {words : Int} (h : 1 ≤ words ∧ words ≤ 14) : MetC mi_Sta_sizeFor [vI words] (st μ) (some (vI (szC words))) (st (μ)) := by
  refine met_of ?_ (Nat.le_of_ble_eq_true rfl) (by decide) trivial (by decide) (Nat.le_of_ble_eq_true rfl)
  show SPW mi_Sta_sizeFor 219 0 [some (vI words), none] [] (st μ) (some (vI (szC words))) (st (μ))
  refine r_iconst dd_Sta_sizeFor_0 ⟨by decide, by decide⟩ ?_
  refine r_istoren (L' := [_, _]) dd_Sta_sizeFor_1 rfl rfl ?_
  exact sf_0 h
def rw2 (m : Int → Int) : Int := lowF m 16
def rw1 (m : Int → Int) : Int := if lowF m 8 = -5 then rw2 m else lowF m 8
def rw0 (m : Int → Int) : Int := if lowF m 4 = -5 then rw1 m else lowF m 4
def rmF (m : Int → Int) (z : Int) : Int := if z = 0 then rw0 m else if z = 1 then rw1 m else rw2 m
theorem rmF_4 {m : Int → Int} (h : ML m) {z : Int} (hz : rmF m z ≠ -5) : ∃ j, rmF m z = 4 * j ∧ 0 ≤ j ∧ j < 16 := by
  have k2 : rw2 m ≠ -5 → ∃ j, rw2 m = 4 * j ∧ 0 ≤ j ∧ j < 16 := fun q => lowF_4 h q
  have k1 : rw1 m ≠ -5 → ∃ j, rw1 m = 4 * j ∧ 0 ≤ j ∧ j < 16 := by
    unfold rw1
    split
    · exact k2
    · exact fun q => lowF_4 h q
  have k0 : rw0 m ≠ -5 → ∃ j, rw0 m = 4 * j ∧ 0 ≤ j ∧ j < 16 := by
    unfold rw0
    split
    · exact k1
    · exact fun q => lowF_4 h q
  unfold rmF at hz ⊢
  split
  · rename_i e; rw [if_pos e] at hz; exact k0 hz
  · rename_i e
    rw [if_neg e] at hz
    split
    · rename_i e2; rw [if_pos e2] at hz; exact k1 hz
    · rename_i e2; rw [if_neg e2] at hz; exact k2 hz
theorem rm_iff (m : Int → Int) (words : Int) : rmF m (szC words) = -5 ↔ (lowF m (szM words) = -5 ∧ (8 < szM words ∨ lowF m 16 = -5) ∧ (4 < szM words ∨ lowF m 8 = -5)) := by
  have k1 : rw1 m = -5 ↔ (lowF m 8 = -5 ∧ lowF m 16 = -5) := by
    unfold rw1 rw2
    split <;> omega
  have k0 : rw0 m = -5 ↔ (lowF m 4 = -5 ∧ lowF m 8 = -5 ∧ lowF m 16 = -5) := by
    unfold rw0
    split <;> omega
  unfold rmF szC szM
  split
  · show rw0 m = -5 ↔ _
    rw [k0]; omega
  · split
    · show rw1 m = -5 ↔ _
      rw [k1]; omega
    · show rw2 m = -5 ↔ _
      unfold rw2; omega

theorem lowFr_n {μ : Int → Int → Int} {K : Int} {m : Int → Int} (hR : RI K μ m) {z w : Int} (hz : 0 ≤ z ∧ z ≤ 2) (hp : p4 z = w) (h : lowF m w = -5) : MetC mi_Sta_lowestFree [vR 1, vI z] (st μ) (some vN) (st μ) := (c_Sta_lowestFree hR hz).eqr (by rw [hp, blR_n h])
theorem lowFr_s {μ : Int → Int → Int} {K : Int} {m : Int → Int} (hR : RI K μ m) {z w j : Int} (hz : 0 ≤ z ∧ z ≤ 2) (hp : p4 z = w) (h : lowF m w = 4 * j) (h0 : 0 ≤ j) : MetC mi_Sta_lowestFree [vR 1, vI z] (st μ) (some (vR (3 + j))) (st μ) := (c_Sta_lowestFree hR hz).eqr (by rw [hp, blR_s h h0])
theorem rf_2 {μ : Int → Int → Int} {K : Int} {m : Int → Int} (hR : RI K μ m) {q : Int} : SPW mi_Sta_roomFor 219 2 [some (vR 1), some (vI q), some (vI 2), none] [] (st μ) (some (.inr (blR (rw2 m)))) (st μ) := by
  by_cases h : lowF m 16 = -5
  · refine r_iloadn dd_Sta_roomFor_2 rfl ?_
    refine r_iconst dd_Sta_roomFor_3 ⟨by decide, by decide⟩ ?_
    refine r_icmp_ge dd_Sta_roomFor_4 (fun c_4 => ?_) (fun c_4 => ?_)
    · exfalso; omega
    · refine r_aloadn dd_Sta_roomFor_7 rfl ?_
      refine r_iloadn dd_Sta_roomFor_8 rfl ?_
      refine r_V1W dd_Sta_roomFor_9 ml_Sta_145 ok_Sta_lowestFree vi_Sta_lowestFree vk_1 (by decide) (clS rfl (Nat.le_refl _) (rmOK_self _ _)) rfl (lowFr_n hR (by decide) (by rfl) h) ?_
      refine r_astoren (L' := [_, _, _, _]) dd_Sta_roomFor_12 rfl rfl ?_
      refine r_aloadn dd_Sta_roomFor_13 rfl ?_
      refine r_ifnullN dd_Sta_roomFor_14 ?_
      refine r_iinc (L' := [_, _, _, _]) dd_Sta_roomFor_19 rfl ⟨by omega, by omega⟩ rfl ?_
      refine r_goto dd_Sta_roomFor_22 ?_
      refine r_iloadn dd_Sta_roomFor_2 rfl ?_
      refine r_iconst dd_Sta_roomFor_3 ⟨by decide, by decide⟩ ?_
      refine r_icmp_ge dd_Sta_roomFor_4 (fun d_4 => ?_) (fun d_4 => ?_)
      · refine r_null dd_Sta_roomFor_25 ?_
        exact r_retR dd_Sta_roomFor_26 (by unfold rw2; exact (blR_n h).symm) rfl
      · exfalso; omega
  · obtain ⟨j, hj, j0, j1⟩ := lowF_4 hR.2.2 h
    refine r_iloadn dd_Sta_roomFor_2 rfl ?_
    refine r_iconst dd_Sta_roomFor_3 ⟨by decide, by decide⟩ ?_
    refine r_icmp_ge dd_Sta_roomFor_4 (fun c_4 => ?_) (fun c_4 => ?_)
    · exfalso; omega
    · refine r_aloadn dd_Sta_roomFor_7 rfl ?_
      refine r_iloadn dd_Sta_roomFor_8 rfl ?_
      refine r_V1W dd_Sta_roomFor_9 ml_Sta_145 ok_Sta_lowestFree vi_Sta_lowestFree vk_1 (by decide) (clS rfl (Nat.le_refl _) (rmOK_self _ _)) rfl (lowFr_s hR (by decide) (by rfl) hj j0) ?_
      refine r_astoren (L' := [_, _, _, _]) dd_Sta_roomFor_12 rfl rfl ?_
      refine r_aloadn dd_Sta_roomFor_13 rfl ?_
      refine r_ifnullR dd_Sta_roomFor_14 ?_
      refine r_aloadn dd_Sta_roomFor_17 rfl ?_
      exact r_retR dd_Sta_roomFor_18 (by unfold rw2; exact (blR_s hj j0).symm) rfl
theorem rf_1 {μ : Int → Int → Int} {K : Int} {m : Int → Int} (hR : RI K μ m) {q : Int} : SPW mi_Sta_roomFor 219 2 [some (vR 1), some (vI q), some (vI 1), none] [] (st μ) (some (.inr (blR (rw1 m)))) (st μ) := by
  by_cases h : lowF m 8 = -5
  · refine r_iloadn dd_Sta_roomFor_2 rfl ?_
    refine r_iconst dd_Sta_roomFor_3 ⟨by decide, by decide⟩ ?_
    refine r_icmp_ge dd_Sta_roomFor_4 (fun c_4 => ?_) (fun c_4 => ?_)
    · exfalso; omega
    · refine r_aloadn dd_Sta_roomFor_7 rfl ?_
      refine r_iloadn dd_Sta_roomFor_8 rfl ?_
      refine r_V1W dd_Sta_roomFor_9 ml_Sta_145 ok_Sta_lowestFree vi_Sta_lowestFree vk_1 (by decide) (clS rfl (Nat.le_refl _) (rmOK_self _ _)) rfl (lowFr_n hR (by decide) (by rfl) h) ?_
      refine r_astoren (L' := [_, _, _, _]) dd_Sta_roomFor_12 rfl rfl ?_
      refine r_aloadn dd_Sta_roomFor_13 rfl ?_
      refine r_ifnullN dd_Sta_roomFor_14 ?_
      refine r_iinc (L' := [_, _, _, _]) dd_Sta_roomFor_19 rfl ⟨by omega, by omega⟩ rfl ?_
      refine r_goto dd_Sta_roomFor_22 ?_
      refine r_drop 3 (r_eqo (show blR (rw2 m) = _ by unfold rw1; rw [if_pos h]) (rf_2 hR))
  · obtain ⟨j, hj, j0, j1⟩ := lowF_4 hR.2.2 h
    refine r_iloadn dd_Sta_roomFor_2 rfl ?_
    refine r_iconst dd_Sta_roomFor_3 ⟨by decide, by decide⟩ ?_
    refine r_icmp_ge dd_Sta_roomFor_4 (fun c_4 => ?_) (fun c_4 => ?_)
    · exfalso; omega
    · refine r_aloadn dd_Sta_roomFor_7 rfl ?_
      refine r_iloadn dd_Sta_roomFor_8 rfl ?_
      refine r_V1W dd_Sta_roomFor_9 ml_Sta_145 ok_Sta_lowestFree vi_Sta_lowestFree vk_1 (by decide) (clS rfl (Nat.le_refl _) (rmOK_self _ _)) rfl (lowFr_s hR (by decide) (by rfl) hj j0) ?_
      refine r_astoren (L' := [_, _, _, _]) dd_Sta_roomFor_12 rfl rfl ?_
      refine r_aloadn dd_Sta_roomFor_13 rfl ?_
      refine r_ifnullR dd_Sta_roomFor_14 ?_
      refine r_aloadn dd_Sta_roomFor_17 rfl ?_
      exact r_retR dd_Sta_roomFor_18 (by unfold rw1; rw [if_neg h]; exact (blR_s hj j0).symm) rfl
theorem rf_0 {μ : Int → Int → Int} {K : Int} {m : Int → Int} (hR : RI K μ m) {q : Int} : SPW mi_Sta_roomFor 219 2 [some (vR 1), some (vI q), some (vI 0), none] [] (st μ) (some (.inr (blR (rw0 m)))) (st μ) := by
  by_cases h : lowF m 4 = -5
  · refine r_iloadn dd_Sta_roomFor_2 rfl ?_
    refine r_iconst dd_Sta_roomFor_3 ⟨by decide, by decide⟩ ?_
    refine r_icmp_ge dd_Sta_roomFor_4 (fun c_4 => ?_) (fun c_4 => ?_)
    · exfalso; omega
    · refine r_aloadn dd_Sta_roomFor_7 rfl ?_
      refine r_iloadn dd_Sta_roomFor_8 rfl ?_
      refine r_V1W dd_Sta_roomFor_9 ml_Sta_145 ok_Sta_lowestFree vi_Sta_lowestFree vk_1 (by decide) (clS rfl (Nat.le_refl _) (rmOK_self _ _)) rfl (lowFr_n hR (by decide) (by rfl) h) ?_
      refine r_astoren (L' := [_, _, _, _]) dd_Sta_roomFor_12 rfl rfl ?_
      refine r_aloadn dd_Sta_roomFor_13 rfl ?_
      refine r_ifnullN dd_Sta_roomFor_14 ?_
      refine r_iinc (L' := [_, _, _, _]) dd_Sta_roomFor_19 rfl ⟨by omega, by omega⟩ rfl ?_
      refine r_goto dd_Sta_roomFor_22 ?_
      refine r_drop 3 (r_eqo (show blR (rw1 m) = _ by unfold rw0; rw [if_pos h]) (rf_1 hR))
  · obtain ⟨j, hj, j0, j1⟩ := lowF_4 hR.2.2 h
    refine r_iloadn dd_Sta_roomFor_2 rfl ?_
    refine r_iconst dd_Sta_roomFor_3 ⟨by decide, by decide⟩ ?_
    refine r_icmp_ge dd_Sta_roomFor_4 (fun c_4 => ?_) (fun c_4 => ?_)
    · exfalso; omega
    · refine r_aloadn dd_Sta_roomFor_7 rfl ?_
      refine r_iloadn dd_Sta_roomFor_8 rfl ?_
      refine r_V1W dd_Sta_roomFor_9 ml_Sta_145 ok_Sta_lowestFree vi_Sta_lowestFree vk_1 (by decide) (clS rfl (Nat.le_refl _) (rmOK_self _ _)) rfl (lowFr_s hR (by decide) (by rfl) hj j0) ?_
      refine r_astoren (L' := [_, _, _, _]) dd_Sta_roomFor_12 rfl rfl ?_
      refine r_aloadn dd_Sta_roomFor_13 rfl ?_
      refine r_ifnullR dd_Sta_roomFor_14 ?_
      refine r_aloadn dd_Sta_roomFor_17 rfl ?_
      exact r_retR dd_Sta_roomFor_18 (by unfold rw0; rw [if_neg h]; exact (blR_s hj j0).symm) rfl
theorem c_Sta_roomFor {μ : Int → Int → Int} {K : Int} {m : Int → Int} (hR : RI K μ m) {z : Int} (hz : 0 ≤ z ∧ z ≤ 2) : MetC mi_Sta_roomFor [vR 1, vI z] (st μ) (some (.inr (blR (rmF m z)))) (st (μ)) := by
  refine met_of ?_ (Nat.le_of_ble_eq_true rfl) (by decide) trivial (by decide) (Nat.le_of_ble_eq_true rfl)
  show SPW mi_Sta_roomFor 219 0 [some (vR 1), some (vI z), none, none] [] (st μ) (some (.inr (blR (rmF m z)))) (st (μ))
  rcases (show z = 0 ∨ z = 1 ∨ z = 2 by omega) with rfl | rfl | rfl
  · refine r_iloadn dd_Sta_roomFor_0 rfl ?_
    refine r_istoren (L' := [_, _, _, _]) dd_Sta_roomFor_1 rfl rfl ?_
    exact r_eqo rfl (rf_0 hR)
  · refine r_iloadn dd_Sta_roomFor_0 rfl ?_
    refine r_istoren (L' := [_, _, _, _]) dd_Sta_roomFor_1 rfl rfl ?_
    exact r_eqo rfl (rf_1 hR)
  · refine r_iloadn dd_Sta_roomFor_0 rfl ?_
    refine r_istoren (L' := [_, _, _, _]) dd_Sta_roomFor_1 rfl rfl ?_
    exact r_eqo rfl (rf_2 hR)
theorem c_Sta_whyNot {μ : Int → Int → Int} {K : Int} {m : Int → Int} (hR : RI K μ m) {t words : Int} : MetC mi_Sta_whyNot [vR 1, vI t, vI words] (st μ) (some (vI (reasS m t words))) (st (μ)) := by
  refine met_of ?_ (Nat.le_of_ble_eq_true rfl) (by decide) trivial (by decide) (Nat.le_of_ble_eq_true rfl)
  show SPW mi_Sta_whyNot 219 0 [some (vR 1), some (vI t), some (vI words), none, none] [] (st μ) (some (vI (reasS m t words))) (st (μ))
  have hs := szC_rg words
  have hz := wz_szC words
  have hi := rm_iff m words
  have hsz := szM_rg words
  have hbw := wdsM_bd hR.2.1 t
  rcases (show (t < 0 ∨ 6 ≤ t) ∨ (0 ≤ t ∧ t < 6 ∧ rmF m (szC words) = -5) ∨ (0 ≤ t ∧ t < 6 ∧ rmF m (szC words) ≠ -5) by omega) with h1 | ⟨h0, h1, h2⟩ | ⟨h0, h1, h2⟩
  · refine r_aloadn dd_Sta_whyNot_0 rfl ?_
    refine r_iloadn dd_Sta_whyNot_1 rfl ?_
    refine r_V1W dd_Sta_whyNot_2 ml_Sta_90 ok_Sta_taskOf vi_Sta_taskOf vk_1 (by decide) (clS rfl (Nat.le_refl _) (rmOK_self _ _)) rfl (c_Sta_taskOf_n (by omega)) ?_
    refine r_astoren (L' := [_, _, _, _, _]) dd_Sta_whyNot_5 rfl rfl ?_
    refine r_aloadn dd_Sta_whyNot_6 rfl ?_
    refine r_ifnonnullN dd_Sta_whyNot_7 ?_
    refine r_iconst dd_Sta_whyNot_10 ⟨by decide, by decide⟩ ?_
    exact r_retI dd_Sta_whyNot_11 (by unfold reasS whyM; (repeat (first | rw [if_pos (by omega)] | rw [if_neg (by omega)])); first | done | omega | (congr 1; omega) | exact (b2_t (by first | assumption | omega)).symm | exact (b2_f (by first | assumption | omega)).symm) rfl
  · have hv : 0 ≤ t ∧ t < 6 := by omega
    have ht := hR.tsk (t := t) (by omega) (by omega)
    have htl := hR.2.1.2.1 t (by omega) (by omega)
    unfold tskR at ht
    refine r_aloadn dd_Sta_whyNot_0 rfl ?_
    refine r_iloadn dd_Sta_whyNot_1 rfl ?_
    refine r_V1W dd_Sta_whyNot_2 ml_Sta_90 ok_Sta_taskOf vi_Sta_taskOf vk_1 (by decide) (clS rfl (Nat.le_refl _) (rmOK_self _ _)) rfl (c_Sta_taskOf_s hv) ?_
    refine r_astoren (L' := [_, _, _, _, _]) dd_Sta_whyNot_5 rfl rfl ?_
    refine r_aloadn dd_Sta_whyNot_6 rfl ?_
    refine r_ifnonnullR dd_Sta_whyNot_7 ?_
    refine r_iloadn dd_Sta_whyNot_12 rfl ?_
    refine r_iconst dd_Sta_whyNot_13 ⟨by decide, by decide⟩ ?_
    refine r_icmp_lt dd_Sta_whyNot_14 (fun c_14 => ?_) (fun c_14 => ?_)
    · refine r_bip dd_Sta_whyNot_23 ⟨by decide, by decide⟩ ?_
      exact r_retI dd_Sta_whyNot_25 (by unfold reasS whyM; (repeat (first | rw [if_pos (by omega)] | rw [if_neg (by omega)])); first | done | omega | (congr 1; omega) | exact (b2_t (by first | assumption | omega)).symm | exact (b2_f (by first | assumption | omega)).symm) rfl
    · refine r_iloadn dd_Sta_whyNot_17 rfl ?_
      refine r_bip dd_Sta_whyNot_18 ⟨by decide, by decide⟩ ?_
      refine r_icmp_le dd_Sta_whyNot_20 (fun c_20 => ?_) (fun c_20 => ?_)
      · refine r_aloadn dd_Sta_whyNot_26 rfl ?_
        refine r_getI dd_Sta_whyNot_27 fl_Sta_104 (kI := 0) rfl fi_Tsk_0 (vk_tsk (by omega) (by omega)) ?_
        refine r_if_ne dd_Sta_whyNot_30 (fun c_30 => ?_) (fun c_30 => ?_)
        · refine r_iloadn dd_Sta_whyNot_35 rfl ?_
          refine r_S1W dd_Sta_whyNot_36 ml_Sta_67 ok_Sta_sizeFor st_Sta_sizeFor (clS rfl (Nat.le_refl _) (rmOK_self _ _)) rfl (c_Sta_sizeFor ⟨by omega, by omega⟩) ?_
          refine r_istore (L' := [_, _, _, _, _]) dd_Sta_whyNot_39 rfl rfl ?_
          refine r_aloadn dd_Sta_whyNot_41 rfl ?_
          refine r_iloadn dd_Sta_whyNot_42 rfl ?_
          refine r_V1W dd_Sta_whyNot_43 ml_Sta_185 ok_Sta_wordsOf vi_Sta_wordsOf vk_1 (by decide) (clS rfl (Nat.le_refl _) (rmOK_self _ _)) rfl (c_Sta_wordsOf hR (by omega)) ?_
          refine r_iload dd_Sta_whyNot_46 rfl ?_
          refine r_S1W dd_Sta_whyNot_48 ml_Sta_138 ok_Blk_wordsOf st_Blk_wordsOf (clS rfl (Nat.le_refl _) (rmOK_self _ _)) rfl c_Blk_wordsOf ?_
          refine r_iadd dd_Sta_whyNot_51 ⟨by omega, by omega⟩ ?_
          refine r_aloadn dd_Sta_whyNot_52 rfl ?_
          refine r_getI dd_Sta_whyNot_53 fl_Sta_127 (kI := 1) rfl fi_Tsk_1 (vk_tsk (by omega) (by omega)) ?_
          refine r_icmp_le dd_Sta_whyNot_56 (fun c_56 => ?_) (fun c_56 => ?_)
          · refine r_aloadn dd_Sta_whyNot_61 rfl ?_
            refine r_iload dd_Sta_whyNot_62 rfl ?_
            refine r_V1W dd_Sta_whyNot_64 ml_Sta_148 ok_Sta_roomFor vi_Sta_roomFor vk_1 (by decide) (clS rfl (Nat.le_refl _) (rmOK_self _ _)) rfl ((c_Sta_roomFor hR hs).eqr (by rw [blR_n h2])) ?_
            refine r_ifnonnullN dd_Sta_whyNot_67 ?_
            refine r_iconst dd_Sta_whyNot_70 ⟨by decide, by decide⟩ ?_
            refine r_goto dd_Sta_whyNot_71 ?_
            exact r_retI dd_Sta_whyNot_75 (by unfold reasS whyM; (repeat (first | rw [if_pos (by omega)] | rw [if_neg (by omega)])); first | done | omega | (congr 1; omega) | exact (b2_t (by first | assumption | omega)).symm | exact (b2_f (by first | assumption | omega)).symm) rfl
          · refine r_iconst dd_Sta_whyNot_59 ⟨by decide, by decide⟩ ?_
            exact r_retI dd_Sta_whyNot_60 (by unfold reasS whyM; (repeat (first | rw [if_pos (by omega)] | rw [if_neg (by omega)])); first | done | omega | (congr 1; omega) | exact (b2_t (by first | assumption | omega)).symm | exact (b2_f (by first | assumption | omega)).symm) rfl
        · refine r_iconst dd_Sta_whyNot_33 ⟨by decide, by decide⟩ ?_
          exact r_retI dd_Sta_whyNot_34 (by unfold reasS whyM; (repeat (first | rw [if_pos (by omega)] | rw [if_neg (by omega)])); first | done | omega | (congr 1; omega) | exact (b2_t (by first | assumption | omega)).symm | exact (b2_f (by first | assumption | omega)).symm) rfl
      · refine r_bip dd_Sta_whyNot_23 ⟨by decide, by decide⟩ ?_
        exact r_retI dd_Sta_whyNot_25 (by unfold reasS whyM; (repeat (first | rw [if_pos (by omega)] | rw [if_neg (by omega)])); first | done | omega | (congr 1; omega) | exact (b2_t (by first | assumption | omega)).symm | exact (b2_f (by first | assumption | omega)).symm) rfl
  · have hv : 0 ≤ t ∧ t < 6 := by omega
    have ht := hR.tsk (t := t) (by omega) (by omega)
    have htl := hR.2.1.2.1 t (by omega) (by omega)
    unfold tskR at ht
    obtain ⟨j, hj, j0, j1⟩ := rmF_4 hR.2.2 h2
    refine r_aloadn dd_Sta_whyNot_0 rfl ?_
    refine r_iloadn dd_Sta_whyNot_1 rfl ?_
    refine r_V1W dd_Sta_whyNot_2 ml_Sta_90 ok_Sta_taskOf vi_Sta_taskOf vk_1 (by decide) (clS rfl (Nat.le_refl _) (rmOK_self _ _)) rfl (c_Sta_taskOf_s hv) ?_
    refine r_astoren (L' := [_, _, _, _, _]) dd_Sta_whyNot_5 rfl rfl ?_
    refine r_aloadn dd_Sta_whyNot_6 rfl ?_
    refine r_ifnonnullR dd_Sta_whyNot_7 ?_
    refine r_iloadn dd_Sta_whyNot_12 rfl ?_
    refine r_iconst dd_Sta_whyNot_13 ⟨by decide, by decide⟩ ?_
    refine r_icmp_lt dd_Sta_whyNot_14 (fun c_14 => ?_) (fun c_14 => ?_)
    · refine r_bip dd_Sta_whyNot_23 ⟨by decide, by decide⟩ ?_
      exact r_retI dd_Sta_whyNot_25 (by unfold reasS whyM; (repeat (first | rw [if_pos (by omega)] | rw [if_neg (by omega)])); first | done | omega | (congr 1; omega) | exact (b2_t (by first | assumption | omega)).symm | exact (b2_f (by first | assumption | omega)).symm) rfl
    · refine r_iloadn dd_Sta_whyNot_17 rfl ?_
      refine r_bip dd_Sta_whyNot_18 ⟨by decide, by decide⟩ ?_
      refine r_icmp_le dd_Sta_whyNot_20 (fun c_20 => ?_) (fun c_20 => ?_)
      · refine r_aloadn dd_Sta_whyNot_26 rfl ?_
        refine r_getI dd_Sta_whyNot_27 fl_Sta_104 (kI := 0) rfl fi_Tsk_0 (vk_tsk (by omega) (by omega)) ?_
        refine r_if_ne dd_Sta_whyNot_30 (fun c_30 => ?_) (fun c_30 => ?_)
        · refine r_iloadn dd_Sta_whyNot_35 rfl ?_
          refine r_S1W dd_Sta_whyNot_36 ml_Sta_67 ok_Sta_sizeFor st_Sta_sizeFor (clS rfl (Nat.le_refl _) (rmOK_self _ _)) rfl (c_Sta_sizeFor ⟨by omega, by omega⟩) ?_
          refine r_istore (L' := [_, _, _, _, _]) dd_Sta_whyNot_39 rfl rfl ?_
          refine r_aloadn dd_Sta_whyNot_41 rfl ?_
          refine r_iloadn dd_Sta_whyNot_42 rfl ?_
          refine r_V1W dd_Sta_whyNot_43 ml_Sta_185 ok_Sta_wordsOf vi_Sta_wordsOf vk_1 (by decide) (clS rfl (Nat.le_refl _) (rmOK_self _ _)) rfl (c_Sta_wordsOf hR (by omega)) ?_
          refine r_iload dd_Sta_whyNot_46 rfl ?_
          refine r_S1W dd_Sta_whyNot_48 ml_Sta_138 ok_Blk_wordsOf st_Blk_wordsOf (clS rfl (Nat.le_refl _) (rmOK_self _ _)) rfl c_Blk_wordsOf ?_
          refine r_iadd dd_Sta_whyNot_51 ⟨by omega, by omega⟩ ?_
          refine r_aloadn dd_Sta_whyNot_52 rfl ?_
          refine r_getI dd_Sta_whyNot_53 fl_Sta_127 (kI := 1) rfl fi_Tsk_1 (vk_tsk (by omega) (by omega)) ?_
          refine r_icmp_le dd_Sta_whyNot_56 (fun c_56 => ?_) (fun c_56 => ?_)
          · refine r_aloadn dd_Sta_whyNot_61 rfl ?_
            refine r_iload dd_Sta_whyNot_62 rfl ?_
            refine r_V1W dd_Sta_whyNot_64 ml_Sta_148 ok_Sta_roomFor vi_Sta_roomFor vk_1 (by decide) (clS rfl (Nat.le_refl _) (rmOK_self _ _)) rfl ((c_Sta_roomFor hR hs).eqr (by rw [blR_s hj j0])) ?_
            refine r_ifnonnullR dd_Sta_whyNot_67 ?_
            refine r_iconst dd_Sta_whyNot_74 ⟨by decide, by decide⟩ ?_
            exact r_retI dd_Sta_whyNot_75 (by unfold reasS whyM; (repeat (first | rw [if_pos (by omega)] | rw [if_neg (by omega)])); first | done | omega | (congr 1; omega) | exact (b2_t (by first | assumption | omega)).symm | exact (b2_f (by first | assumption | omega)).symm) rfl
          · refine r_iconst dd_Sta_whyNot_59 ⟨by decide, by decide⟩ ?_
            exact r_retI dd_Sta_whyNot_60 (by unfold reasS whyM; (repeat (first | rw [if_pos (by omega)] | rw [if_neg (by omega)])); first | done | omega | (congr 1; omega) | exact (b2_t (by first | assumption | omega)).symm | exact (b2_f (by first | assumption | omega)).symm) rfl
        · refine r_iconst dd_Sta_whyNot_33 ⟨by decide, by decide⟩ ?_
          exact r_retI dd_Sta_whyNot_34 (by unfold reasS whyM; (repeat (first | rw [if_pos (by omega)] | rw [if_neg (by omega)])); first | done | omega | (congr 1; omega) | exact (b2_t (by first | assumption | omega)).symm | exact (b2_f (by first | assumption | omega)).symm) rfl
      · refine r_bip dd_Sta_whyNot_23 ⟨by decide, by decide⟩ ?_
        exact r_retI dd_Sta_whyNot_25 (by unfold reasS whyM; (repeat (first | rw [if_pos (by omega)] | rw [if_neg (by omega)])); first | done | omega | (congr 1; omega) | exact (b2_t (by first | assumption | omega)).symm | exact (b2_f (by first | assumption | omega)).symm) rfl
theorem l_Sta_greatest {μ : Int → Int → Int} {K : Int} {m : Int → Int} (hR : RI K μ m) {t : Int} (ht : 0 ≤ t) (ht1 : t < 6) : ∀ (n : Nat), n ≤ 14 → SPW mi_Sta_greatestRequest 219 13 [some (vR 1), some (vI t), some (vI (n : Int))] [] (st μ) (some (vI (grF m t n))) (st μ) := by
  intro n
  induction n with
  | zero =>
    intro h0
    refine r_iloadn dd_Sta_greatestRequest_13 rfl ?_
    refine r_iconst dd_Sta_greatestRequest_14 ⟨by decide, by decide⟩ ?_
    refine r_icmp_lt dd_Sta_greatestRequest_15 (fun c_15 => ?_) (fun c_15 => ?_)
    · refine r_bip dd_Sta_greatestRequest_35 ⟨by decide, by decide⟩ ?_
      exact r_retI dd_Sta_greatestRequest_37 rfl rfl
    · exfalso; omega
  | succ n ih =>
    intro h0
    have er : reasS m t ((n + 1 : Nat) : Int) = whyM m t ((n + 1 : Nat) : Int) := by unfold reasS; rw [if_neg (by omega), if_neg (by omega)]
    refine r_iloadn dd_Sta_greatestRequest_13 rfl ?_
    refine r_iconst dd_Sta_greatestRequest_14 ⟨by decide, by decide⟩ ?_
    refine r_icmp_lt dd_Sta_greatestRequest_15 (fun c_15 => ?_) (fun c_15 => ?_)
    · exfalso; omega
    · refine r_aloadn dd_Sta_greatestRequest_18 rfl ?_
      refine r_iloadn dd_Sta_greatestRequest_19 rfl ?_
      refine r_iloadn dd_Sta_greatestRequest_20 rfl ?_
      refine r_V2W dd_Sta_greatestRequest_21 ml_Sta_63 ok_Sta_whyNot vi_Sta_whyNot vk_1 (by decide) (clS rfl (Nat.le_refl _) (rmOK_self _ _)) rfl (c_Sta_whyNot hR) ?_
      refine r_if_ne dd_Sta_greatestRequest_24 (fun c_24 => ?_) (fun c_24 => ?_)
      · refine r_iinc (L' := [_, _, _]) dd_Sta_greatestRequest_29 rfl ⟨by omega, by omega⟩ rfl ?_
        refine r_goto dd_Sta_greatestRequest_32 ?_
        have e : ((n + 1 : Nat) : Int) + -1 = (n : Int) := by omega
        rw [e]
        exact r_eqr (if_neg (by rw [← er]; exact c_24)).symm (ih (by omega))
      · refine r_iloadn dd_Sta_greatestRequest_27 rfl ?_
        exact r_retI dd_Sta_greatestRequest_28 (if_pos (by rw [← er]; omega)).symm rfl
theorem c_Sta_greatestRequest {μ : Int → Int → Int} {K : Int} {m : Int → Int} (hR : RI K μ m) {t : Int} : MetC mi_Sta_greatestRequest [vR 1, vI t] (st μ) (some (vI (greaS m t))) (st (μ)) := by
  refine met_of ?_ (Nat.le_of_ble_eq_true rfl) (by decide) trivial (by decide) (Nat.le_of_ble_eq_true rfl)
  show SPW mi_Sta_greatestRequest 219 0 [some (vR 1), some (vI t), none] [] (st μ) (some (vI (greaS m t))) (st (μ))
  rcases (show (t < 0 ∨ 6 ≤ t) ∨ (0 ≤ t ∧ t < 6) by omega) with h1 | h1
  · refine r_aloadn dd_Sta_greatestRequest_0 rfl ?_
    refine r_iloadn dd_Sta_greatestRequest_1 rfl ?_
    refine r_V1W dd_Sta_greatestRequest_2 ml_Sta_90 ok_Sta_taskOf vi_Sta_taskOf vk_1 (by decide) (clS rfl (Nat.le_refl _) (rmOK_self _ _)) rfl (c_Sta_taskOf_n (by omega)) ?_
    refine r_ifnonnullN dd_Sta_greatestRequest_5 ?_
    refine r_iconst dd_Sta_greatestRequest_8 ⟨by decide, by decide⟩ ?_
    exact r_retI dd_Sta_greatestRequest_9 (by unfold greaS; (repeat (first | rw [if_pos (by omega)] | rw [if_neg (by omega)])); first | done | omega | (congr 1; omega) | exact (b2_t (by first | assumption | omega)).symm | exact (b2_f (by first | assumption | omega)).symm) rfl
  · refine r_aloadn dd_Sta_greatestRequest_0 rfl ?_
    refine r_iloadn dd_Sta_greatestRequest_1 rfl ?_
    refine r_V1W dd_Sta_greatestRequest_2 ml_Sta_90 ok_Sta_taskOf vi_Sta_taskOf vk_1 (by decide) (clS rfl (Nat.le_refl _) (rmOK_self _ _)) rfl (c_Sta_taskOf_s h1) ?_
    refine r_ifnonnullR dd_Sta_greatestRequest_5 ?_
    refine r_bip dd_Sta_greatestRequest_10 ⟨by decide, by decide⟩ ?_
    refine r_istoren (L' := [_, _, _]) dd_Sta_greatestRequest_12 rfl rfl ?_
    exact r_eqr (by unfold greaS; rw [if_neg (by omega)]) (l_Sta_greatest hR h1.1 h1.2 14 (by decide))
