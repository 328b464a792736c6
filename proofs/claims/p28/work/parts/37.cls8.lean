/-! the class: blocks cut, granted -/
def hlC (μ : Int → Int → Int) (i j s : Int) : Int → Int → Int := upM (upM (upM μ (3 + i) 1 s) (3 + j) 1 s) 1 6 (μ 1 6 + 1)
/-- what cutOut leaves: the block at i is cut down to size z -/
def cutC (μ : Int → Int → Int) (m : Int → Int) (z i : Int) : Int → Int → Int :=
  if hvM m (p4 z) = p4 z then μ else if hvM m (p4 z) = 2 * p4 z then hlC μ i (i + p4 z / 4) z else hlC (hlC μ i (i + 2) 1) i (i + 1) 0
def grC (μ : Int → Int → Int) (i t words : Int) : Int → Int → Int :=
  upM (upM (upM (upM (upM μ (3 + i) 2 t) (3 + i) 3 (μ 1 5)) (3 + i) 4 words) (3 + i) 5 (μ 1 3)) 1 5 (μ 1 5 + 1)

theorem c_Sta_halve {μ : Int → Int → Int} {i j s h : Int} (h0 : 0 ≤ i) (h1 : i < 16) (j0 : 0 ≤ j) (j1 : j < 16) (hb : μ (3 + i) 0 = 4 * i) (hs : μ (3 + i) 1 = s + 1) (hh : (s = 0 ∧ h = 4) ∨ (s = 1 ∧ h = 8)) (e : 4 * j = 4 * i + h) (hsp : 0 ≤ μ 1 6 ∧ μ 1 6 ≤ 2000000000) : MetC mi_Sta_halve [vR 1, vR (3 + i)] (st μ) (none) (st (hlC μ i j s)) := by
  refine met_of ?_ (Nat.le_of_ble_eq_true rfl) (by decide) trivial (by decide) (Nat.le_of_ble_eq_true rfl)
  show SPW mi_Sta_halve 219 0 [some (vR 1), some (vR (3 + i)), none] [] (st μ) (none) (st (hlC μ i j s))
  have hw : wz (s + 1) = 2 * h := by rcases hh with ⟨rfl, rfl⟩ | ⟨rfl, rfl⟩ <;> rfl
  refine r_aloadn dd_Sta_halve_0 rfl ?_
  refine r_aloadn dd_Sta_halve_1 rfl ?_
  refine r_getI dd_Sta_halve_2 fl_Sta_98 (kI := 0) rfl fi_Blk_0 (vk_blk h0 h1) ?_
  rw [hb]
  refine r_aloadn dd_Sta_halve_5 rfl ?_
  refine r_V0W dd_Sta_halve_6 ml_Sta_157 ok_Blk_words vi_Blk_words (by first | assumption | exact vk_blk (by omega) (by omega) | exact vk_tsk (by omega) (by omega) | exact vk_cmd (by omega) (by omega)) (by decide) (clS rfl (Nat.le_refl _) (rmOK_self _ _)) rfl (c_Blk_words (vk_blk h0 h1)) ?_
  rw [hs, hw]
  refine r_iconst dd_Sta_halve_9 ⟨by decide, by decide⟩ ?_
  refine r_idiv dd_Sta_halve_10 (by omega) (by omega) ?_
  refine r_iadd dd_Sta_halve_11 ⟨by omega, by omega⟩ ?_
  refine r_V1W dd_Sta_halve_12 ml_Sta_160 ok_Sta_placeAt vi_Sta_placeAt vk_1 (by decide) (clS rfl (Nat.le_refl _) (rmOK_self _ _)) rfl (c_Sta_placeAt (i := j) ⟨by omega, j0, j1⟩) ?_
  refine r_astoren (L' := [_, _, _]) dd_Sta_halve_15 rfl rfl ?_
  refine r_aloadn dd_Sta_halve_16 rfl ?_
  refine r_ifnonnullR dd_Sta_halve_17 ?_
  refine r_aloadn dd_Sta_halve_21 rfl ?_
  refine r_dup dd_Sta_halve_22 ?_
  refine r_getI dd_Sta_halve_23 fl_Sta_151 (kI := 1) rfl fi_Blk_1 (vk_blk h0 h1) ?_
  rw [hs]
  refine r_iconst dd_Sta_halve_26 ⟨by decide, by decide⟩ ?_
  refine r_isub dd_Sta_halve_27 ⟨by omega, by omega⟩ ?_
  rw [show s + 1 - 1 = s by omega]
  refine r_putI dd_Sta_halve_28 fl_Sta_151 (kI := 1) rfl fc_Blk_1 ff_Blk_1 (pi_Blk_1 _) (vk_blk h0 h1) ?_
  refine r_aloadn dd_Sta_halve_31 rfl ?_
  refine r_aloadn dd_Sta_halve_32 rfl ?_
  refine r_getI dd_Sta_halve_33 fl_Sta_151 (kI := 1) rfl fi_Blk_1 (vk_blk h0 h1) ?_
  rw [upM_eq]
  refine r_putI dd_Sta_halve_36 fl_Sta_151 (kI := 1) rfl fc_Blk_1 ff_Blk_1 (pi_Blk_1 _) (vk_blk j0 j1) ?_
  refine r_aloadn dd_Sta_halve_39 rfl ?_
  refine r_dup dd_Sta_halve_40 ?_
  refine r_getI dd_Sta_halve_41 fl_Sta_54 (kI := 6) rfl fi_Sta_6 vk_1 ?_
  rw [upM_ne (Or.inl (by omega)), upM_ne (Or.inl (by omega))]
  refine r_iconst dd_Sta_halve_44 ⟨by decide, by decide⟩ ?_
  refine r_iadd dd_Sta_halve_45 ⟨by omega, by omega⟩ ?_
  refine r_putI dd_Sta_halve_46 fl_Sta_54 (kI := 6) rfl fc_Sta_6 ff_Sta_6 (pi_Sta_6 _) vk_1 ?_
  exact r_retV dd_Sta_halve_49 rfl
theorem cut_e0 {m : Int → Int} {z : Int} {μ : Int → Int → Int} {i : Int} (e : hvM m (p4 z) = p4 z) : cutC μ m z i = μ := if_pos e
theorem cut_e1 {m : Int → Int} {z : Int} {μ : Int → Int → Int} {i : Int} (e : hvM m (p4 z) = 2 * p4 z) : cutC μ m z i = hlC μ i (i + p4 z / 4) z := by
  have := p4_rg (z := z)
  unfold cutC
  rw [if_neg (by omega), if_pos e]
theorem cut_e2 {m : Int → Int} {z : Int} {μ : Int → Int → Int} {i : Int} (e : hvM m (p4 z) = 4 * p4 z) : cutC μ m z i = hlC (hlC μ i (i + 2) 1) i (i + 1) 0 := by
  have := p4_rg (z := z)
  unfold cutC
  rw [if_neg (by omega), if_neg (by omega)]
theorem rm_hv {m : Int → Int} {z : Int} (hz : 0 ≤ z ∧ z ≤ 2) (hr : roomM m (p4 z)) : rmF m z = lowF m (hvM m (p4 z)) := by
  unfold roomM at hr
  rcases (show z = 0 ∨ z = 1 ∨ z = 2 by omega) with rfl | rfl | rfl
  · have p : p4 0 = 4 := rfl
    rw [p] at hr ⊢
    show rw0 m = _
    by_cases a : lowF m 4 = -5
    · have e0 : rw0 m = rw1 m := if_pos a
      by_cases b : lowF m 8 = -5
      · have e1 : rw1 m = rw2 m := if_pos b
        rw [e0, e1, hv_3 a b]
        rfl
      · have e1 : rw1 m = lowF m 8 := if_neg b
        rw [e0, e1, hv_2 a b]
        rfl
    · have e0 : rw0 m = lowF m 4 := if_neg a
      rw [e0, hv_1 a]
  · have p : p4 1 = 8 := rfl
    rw [p] at hr ⊢
    show rw1 m = _
    by_cases b : lowF m 8 = -5
    · have e1 : rw1 m = rw2 m := if_pos b
      rw [e1, hv_2 b (by show lowF m 16 ≠ -5; simp only [Int.reduceMul] at hr; omega)]
      rfl
    · have e1 : rw1 m = lowF m 8 := if_neg b
      rw [e1, hv_1 b]
  · have p : p4 2 = 16 := rfl
    rw [p] at hr ⊢
    show rw2 m = _
    rw [hv_1 (by omega)]
    rfl
theorem wz_eq {s q : Int} (h : wz s = q) (hs : -1 ≤ s ∧ s ≤ 2) : (q = 4 → s = 0) ∧ (q = 8 → s = 1) ∧ (q = 16 → s = 2) := by
  have := wz_rg s
  omega

theorem c_Sta_cutOut {μ : Int → Int → Int} {K : Int} {m : Int → Int} (hR : RI K μ m) {z i : Int} (hz : 0 ≤ z ∧ z ≤ 2) (hr : roomM m (p4 z)) (hi : lowF m (hvM m (p4 z)) = 4 * i) : MetC mi_Sta_cutOut [vR 1, vI z] (st μ) (some (vR (3 + i))) (st (cutC μ m z i)) := by
  refine met_of ?_ (Nat.le_of_ble_eq_true rfl) (by decide) trivial (by decide) (Nat.le_of_ble_eq_true rfl)
  show SPW mi_Sta_cutOut 219 0 [some (vR 1), some (vI z), none, none] [] (st μ) _ _
  have hrm := rm_hv hz hr
  obtain ⟨r1, r2, r3, r4, r5⟩ := room_rg hR.2.1 p4_rg hr
  rw [hi] at hrm r2 r3 r4 r5
  have h0 : 0 ≤ i := by omega
  have h1 : i < 16 := by have := p4_rg (z := z); omega
  have hb := hR.blk h0 h1
  have hbi := hb.1
  have hsp : 0 ≤ μ 1 6 ∧ μ 1 6 ≤ 1000000000 := by
    have e1 : μ 1 6 = m 468 := hR.1.2.2.2.2.2.2.1
    have e2 := hR.2.1.2.2.2.2.1
    have e3 := hR.2.1.2.2.2.2.2.2.2.2.1
    omega
  have hroom : MetC mi_Sta_roomFor [vR 1, vI z] (st μ) (some (vR (3 + i))) (st μ) := (c_Sta_roomFor hR hz).eqr (by rw [blR_s hrm h0])
  have hws := wz_eq (hb.2.2.1.trans r5) hb.2.1
  rcases (show z = 0 ∨ z = 1 ∨ z = 2 by omega) with rfl | rfl | rfl
  · have hp : p4 0 = 4 := rfl
    rw [hp] at r1 r3 hws
    rcases r1 with r1 | ⟨r1, q1⟩ | ⟨r1, q1⟩
    · have hs : μ (3 + i) 1 = 0 := by omega
      rw [(cut_e0 (z := 0) (by rw [hp]; exact r1))]
      refine r_aloadn dd_Sta_cutOut_0 rfl ?_
      refine r_iloadn dd_Sta_cutOut_1 rfl ?_
      refine r_V1W dd_Sta_cutOut_2 ml_Sta_148 ok_Sta_roomFor vi_Sta_roomFor vk_1 (by decide) (clS rfl (Nat.le_refl _) (rmOK_self _ _)) rfl hroom ?_
      refine r_astoren (L' := [_, _, _, _]) dd_Sta_cutOut_5 rfl rfl ?_
      refine r_aloadn dd_Sta_cutOut_6 rfl ?_
      refine r_ifnonnullR dd_Sta_cutOut_7 ?_
      refine r_aloadn dd_Sta_cutOut_12 rfl ?_
      refine r_getI dd_Sta_cutOut_13 fl_Sta_151 (kI := 1) rfl fi_Blk_1 (vk_blk h0 h1) ?_
      rw [hs]
      refine r_istoren (L' := [_, _, _, _]) dd_Sta_cutOut_16 rfl rfl ?_
      refine r_iloadn dd_Sta_cutOut_17 rfl ?_
      refine r_iloadn dd_Sta_cutOut_18 rfl ?_
      refine r_icmp_le dd_Sta_cutOut_19 (fun c_19 => ?_) (fun c_19 => ?_)
      · refine r_aloadn dd_Sta_cutOut_33 rfl ?_
        exact r_retR dd_Sta_cutOut_34 rfl rfl
      · exfalso; omega
    · have hs : μ (3 + i) 1 = 1 := by omega
      rw [(cut_e1 (z := 0) (by rw [hp]; exact r1))]
      refine r_aloadn dd_Sta_cutOut_0 rfl ?_
      refine r_iloadn dd_Sta_cutOut_1 rfl ?_
      refine r_V1W dd_Sta_cutOut_2 ml_Sta_148 ok_Sta_roomFor vi_Sta_roomFor vk_1 (by decide) (clS rfl (Nat.le_refl _) (rmOK_self _ _)) rfl hroom ?_
      refine r_astoren (L' := [_, _, _, _]) dd_Sta_cutOut_5 rfl rfl ?_
      refine r_aloadn dd_Sta_cutOut_6 rfl ?_
      refine r_ifnonnullR dd_Sta_cutOut_7 ?_
      refine r_aloadn dd_Sta_cutOut_12 rfl ?_
      refine r_getI dd_Sta_cutOut_13 fl_Sta_151 (kI := 1) rfl fi_Blk_1 (vk_blk h0 h1) ?_
      rw [hs]
      refine r_istoren (L' := [_, _, _, _]) dd_Sta_cutOut_16 rfl rfl ?_
      refine r_iloadn dd_Sta_cutOut_17 rfl ?_
      refine r_iloadn dd_Sta_cutOut_18 rfl ?_
      refine r_icmp_le dd_Sta_cutOut_19 (fun c_19 => ?_) (fun c_19 => ?_)
      · exfalso; omega
      · refine r_aloadn dd_Sta_cutOut_22 rfl ?_
        refine r_aloadn dd_Sta_cutOut_23 rfl ?_
        refine r_V1N dd_Sta_cutOut_24 ml_Sta_154 ok_Sta_halve vi_Sta_halve vk_1 (by decide) (clS rfl (Nat.le_refl _) (rmOK_self _ _)) rfl (c_Sta_halve (i := i) (j := i + 1) (s := 0) (h := 4) h0 h1 (by omega) (by omega) hbi hs (by omega) (by omega) (by omega)) ?_
        refine r_iinc (L' := [_, _, _, _]) dd_Sta_cutOut_27 rfl ⟨by omega, by omega⟩ rfl ?_
        refine r_goto dd_Sta_cutOut_30 ?_
        refine r_iloadn dd_Sta_cutOut_17 rfl ?_
        refine r_iloadn dd_Sta_cutOut_18 rfl ?_
        refine r_icmp_le dd_Sta_cutOut_19 (fun c_19 => ?_) (fun c_19 => ?_)
        · refine r_aloadn dd_Sta_cutOut_33 rfl ?_
          exact r_retR dd_Sta_cutOut_34 rfl rfl
        · exfalso; omega
    · have hs : μ (3 + i) 1 = 2 := by omega
      rw [(cut_e2 (z := 0) (by rw [hp]; exact r1))]
      refine r_aloadn dd_Sta_cutOut_0 rfl ?_
      refine r_iloadn dd_Sta_cutOut_1 rfl ?_
      refine r_V1W dd_Sta_cutOut_2 ml_Sta_148 ok_Sta_roomFor vi_Sta_roomFor vk_1 (by decide) (clS rfl (Nat.le_refl _) (rmOK_self _ _)) rfl hroom ?_
      refine r_astoren (L' := [_, _, _, _]) dd_Sta_cutOut_5 rfl rfl ?_
      refine r_aloadn dd_Sta_cutOut_6 rfl ?_
      refine r_ifnonnullR dd_Sta_cutOut_7 ?_
      refine r_aloadn dd_Sta_cutOut_12 rfl ?_
      refine r_getI dd_Sta_cutOut_13 fl_Sta_151 (kI := 1) rfl fi_Blk_1 (vk_blk h0 h1) ?_
      rw [hs]
      refine r_istoren (L' := [_, _, _, _]) dd_Sta_cutOut_16 rfl rfl ?_
      refine r_iloadn dd_Sta_cutOut_17 rfl ?_
      refine r_iloadn dd_Sta_cutOut_18 rfl ?_
      refine r_icmp_le dd_Sta_cutOut_19 (fun c_19 => ?_) (fun c_19 => ?_)
      · exfalso; omega
      · refine r_aloadn dd_Sta_cutOut_22 rfl ?_
        refine r_aloadn dd_Sta_cutOut_23 rfl ?_
        refine r_V1N dd_Sta_cutOut_24 ml_Sta_154 ok_Sta_halve vi_Sta_halve vk_1 (by decide) (clS rfl (Nat.le_refl _) (rmOK_self _ _)) rfl (c_Sta_halve (i := i) (j := i + 2) (s := 1) (h := 8) h0 h1 (by omega) (by omega) hbi hs (by omega) (by omega) (by omega)) ?_
        refine r_iinc (L' := [_, _, _, _]) dd_Sta_cutOut_27 rfl ⟨by omega, by omega⟩ rfl ?_
        refine r_goto dd_Sta_cutOut_30 ?_
        refine r_iloadn dd_Sta_cutOut_17 rfl ?_
        refine r_iloadn dd_Sta_cutOut_18 rfl ?_
        refine r_icmp_le dd_Sta_cutOut_19 (fun c_19 => ?_) (fun c_19 => ?_)
        · exfalso; omega
        · refine r_aloadn dd_Sta_cutOut_22 rfl ?_
          refine r_aloadn dd_Sta_cutOut_23 rfl ?_
          refine r_V1N dd_Sta_cutOut_24 ml_Sta_154 ok_Sta_halve vi_Sta_halve vk_1 (by decide) (clS rfl (Nat.le_refl _) (rmOK_self _ _)) rfl (c_Sta_halve (i := i) (j := i + 1) (s := 0) (h := 4) h0 h1 (by omega) (by omega) (by unfold hlC; rw [upM_ne (Or.inl (by omega)), upM_ne (Or.inl (by omega)), upM_ne (Or.inr (by decide)), hbi]) (by unfold hlC; rw [upM_ne (Or.inl (by omega)), upM_ne (Or.inl (by omega)), upM_eq]; rfl) (by omega) (by omega) (by unfold hlC; rw [upM_eq]; omega)) ?_
          refine r_iinc (L' := [_, _, _, _]) dd_Sta_cutOut_27 rfl ⟨by omega, by omega⟩ rfl ?_
          refine r_goto dd_Sta_cutOut_30 ?_
          refine r_iloadn dd_Sta_cutOut_17 rfl ?_
          refine r_iloadn dd_Sta_cutOut_18 rfl ?_
          refine r_icmp_le dd_Sta_cutOut_19 (fun c_19 => ?_) (fun c_19 => ?_)
          · refine r_aloadn dd_Sta_cutOut_33 rfl ?_
            exact r_retR dd_Sta_cutOut_34 rfl rfl
          · exfalso; omega
  · have hp : p4 1 = 8 := rfl
    rw [hp] at r1 r3 hws
    rcases r1 with r1 | ⟨r1, q1⟩ | ⟨r1, q1⟩
    · have hs : μ (3 + i) 1 = 1 := by omega
      rw [(cut_e0 (z := 1) (by rw [hp]; exact r1))]
      refine r_aloadn dd_Sta_cutOut_0 rfl ?_
      refine r_iloadn dd_Sta_cutOut_1 rfl ?_
      refine r_V1W dd_Sta_cutOut_2 ml_Sta_148 ok_Sta_roomFor vi_Sta_roomFor vk_1 (by decide) (clS rfl (Nat.le_refl _) (rmOK_self _ _)) rfl hroom ?_
      refine r_astoren (L' := [_, _, _, _]) dd_Sta_cutOut_5 rfl rfl ?_
      refine r_aloadn dd_Sta_cutOut_6 rfl ?_
      refine r_ifnonnullR dd_Sta_cutOut_7 ?_
      refine r_aloadn dd_Sta_cutOut_12 rfl ?_
      refine r_getI dd_Sta_cutOut_13 fl_Sta_151 (kI := 1) rfl fi_Blk_1 (vk_blk h0 h1) ?_
      rw [hs]
      refine r_istoren (L' := [_, _, _, _]) dd_Sta_cutOut_16 rfl rfl ?_
      refine r_iloadn dd_Sta_cutOut_17 rfl ?_
      refine r_iloadn dd_Sta_cutOut_18 rfl ?_
      refine r_icmp_le dd_Sta_cutOut_19 (fun c_19 => ?_) (fun c_19 => ?_)
      · refine r_aloadn dd_Sta_cutOut_33 rfl ?_
        exact r_retR dd_Sta_cutOut_34 rfl rfl
      · exfalso; omega
    · have hs : μ (3 + i) 1 = 2 := by omega
      rw [(cut_e1 (z := 1) (by rw [hp]; exact r1))]
      refine r_aloadn dd_Sta_cutOut_0 rfl ?_
      refine r_iloadn dd_Sta_cutOut_1 rfl ?_
      refine r_V1W dd_Sta_cutOut_2 ml_Sta_148 ok_Sta_roomFor vi_Sta_roomFor vk_1 (by decide) (clS rfl (Nat.le_refl _) (rmOK_self _ _)) rfl hroom ?_
      refine r_astoren (L' := [_, _, _, _]) dd_Sta_cutOut_5 rfl rfl ?_
      refine r_aloadn dd_Sta_cutOut_6 rfl ?_
      refine r_ifnonnullR dd_Sta_cutOut_7 ?_
      refine r_aloadn dd_Sta_cutOut_12 rfl ?_
      refine r_getI dd_Sta_cutOut_13 fl_Sta_151 (kI := 1) rfl fi_Blk_1 (vk_blk h0 h1) ?_
      rw [hs]
      refine r_istoren (L' := [_, _, _, _]) dd_Sta_cutOut_16 rfl rfl ?_
      refine r_iloadn dd_Sta_cutOut_17 rfl ?_
      refine r_iloadn dd_Sta_cutOut_18 rfl ?_
      refine r_icmp_le dd_Sta_cutOut_19 (fun c_19 => ?_) (fun c_19 => ?_)
      · exfalso; omega
      · refine r_aloadn dd_Sta_cutOut_22 rfl ?_
        refine r_aloadn dd_Sta_cutOut_23 rfl ?_
        refine r_V1N dd_Sta_cutOut_24 ml_Sta_154 ok_Sta_halve vi_Sta_halve vk_1 (by decide) (clS rfl (Nat.le_refl _) (rmOK_self _ _)) rfl (c_Sta_halve (i := i) (j := i + 2) (s := 1) (h := 8) h0 h1 (by omega) (by omega) hbi hs (by omega) (by omega) (by omega)) ?_
        refine r_iinc (L' := [_, _, _, _]) dd_Sta_cutOut_27 rfl ⟨by omega, by omega⟩ rfl ?_
        refine r_goto dd_Sta_cutOut_30 ?_
        refine r_iloadn dd_Sta_cutOut_17 rfl ?_
        refine r_iloadn dd_Sta_cutOut_18 rfl ?_
        refine r_icmp_le dd_Sta_cutOut_19 (fun c_19 => ?_) (fun c_19 => ?_)
        · refine r_aloadn dd_Sta_cutOut_33 rfl ?_
          exact r_retR dd_Sta_cutOut_34 rfl rfl
        · exfalso; omega
    · exfalso; omega
  · have hp : p4 2 = 16 := rfl
    rw [hp] at r1 r3 hws
    rcases r1 with r1 | ⟨r1, q1⟩ | ⟨r1, q1⟩
    · have hs : μ (3 + i) 1 = 2 := by omega
      rw [(cut_e0 (z := 2) (by rw [hp]; exact r1))]
      refine r_aloadn dd_Sta_cutOut_0 rfl ?_
      refine r_iloadn dd_Sta_cutOut_1 rfl ?_
      refine r_V1W dd_Sta_cutOut_2 ml_Sta_148 ok_Sta_roomFor vi_Sta_roomFor vk_1 (by decide) (clS rfl (Nat.le_refl _) (rmOK_self _ _)) rfl hroom ?_
      refine r_astoren (L' := [_, _, _, _]) dd_Sta_cutOut_5 rfl rfl ?_
      refine r_aloadn dd_Sta_cutOut_6 rfl ?_
      refine r_ifnonnullR dd_Sta_cutOut_7 ?_
      refine r_aloadn dd_Sta_cutOut_12 rfl ?_
      refine r_getI dd_Sta_cutOut_13 fl_Sta_151 (kI := 1) rfl fi_Blk_1 (vk_blk h0 h1) ?_
      rw [hs]
      refine r_istoren (L' := [_, _, _, _]) dd_Sta_cutOut_16 rfl rfl ?_
      refine r_iloadn dd_Sta_cutOut_17 rfl ?_
      refine r_iloadn dd_Sta_cutOut_18 rfl ?_
      refine r_icmp_le dd_Sta_cutOut_19 (fun c_19 => ?_) (fun c_19 => ?_)
      · refine r_aloadn dd_Sta_cutOut_33 rfl ?_
        exact r_retR dd_Sta_cutOut_34 rfl rfl
      · exfalso; omega
    · exfalso; omega
    · exfalso; omega
theorem cutC_k {μ : Int → Int → Int} {m : Int → Int} {z i o k : Int} (hz : 0 ≤ z ∧ z ≤ 2) (h : k ≠ 1) (h2 : o ≠ 1 ∨ k ≠ 6) : cutC μ m z i o k = μ o k := by
  unfold cutC
  split
  · rfl
  · split
    · unfold hlC
      rw [upM_ne (by omega), upM_ne (by omega), upM_ne (by omega)]
    · unfold hlC
      rw [upM_ne (by omega), upM_ne (by omega), upM_ne (by omega), upM_ne (by omega), upM_ne (by omega), upM_ne (by omega)]
theorem reas_ask {m : Int → Int} {t words : Int} (h : askFM m t words = 0) : reasS m t words = 0 := by
  have h1 := askFM_c m t words
  have h2 := whyM_rg m t words
  unfold reasS
  rw [if_neg (by omega), if_neg (by omega)]
  omega

theorem askFM_reas (m : Int → Int) (t words : Int) (h471 : m 471 ≤ 300) : askFM m t words = if reasS m t words < 0 then reasS m t words else if 300 ≤ m 471 then -3 else if 0 < reasS m t words then -6 else 0 := by
  have hw := whyM_rg m t words
  unfold askFM reasS
  by_cases a : t < 0 ∨ 5 < t
  · rw [if_pos a, if_pos a]; rfl
  · rw [if_neg a, if_neg a]
    by_cases b : words < 1 ∨ 14 < words
    · rw [if_pos b, if_pos b]; rfl
    · rw [if_neg b, if_neg b]
      repeat' split
      all_goals omega
theorem c_Sta_grant_e {μ : Int → Int → Int} {K : Int} {m : Int → Int} (hR : RI K μ m) {t words : Int} (h : askFM m t words ≠ 0) : MetC mi_Sta_grant [vR 1, vI t, vI words] (st μ) (some (vI (askFM m t words))) (st (μ)) := by
  refine met_of ?_ (Nat.le_of_ble_eq_true rfl) (by decide) trivial (by decide) (Nat.le_of_ble_eq_true rfl)
  show SPW mi_Sta_grant 219 0 [some (vR 1), some (vI t), some (vI words), none, none] [] (st μ) (some (vI (askFM m t words))) (st (μ))
  have h5 : μ 1 5 = m 471 := hR.1.2.2.2.2.2.1
  have hg := hR.2.1.2.2.2.2.2.2.2.1
  have hq := askFM_reas m t words hg.2
  refine r_aloadn dd_Sta_grant_0 rfl ?_
  refine r_iloadn dd_Sta_grant_1 rfl ?_
  refine r_iloadn dd_Sta_grant_2 rfl ?_
  refine r_V2W dd_Sta_grant_3 ml_Sta_63 ok_Sta_whyNot vi_Sta_whyNot vk_1 (by decide) (clS rfl (Nat.le_refl _) (rmOK_self _ _)) rfl (c_Sta_whyNot hR) ?_
  refine r_istoren (L' := [_, _, _, _, _]) dd_Sta_grant_6 rfl rfl ?_
  refine r_iloadn dd_Sta_grant_7 rfl ?_
  refine r_if_ge dd_Sta_grant_8 (fun c_8 => ?_) (fun c_8 => ?_)
  · refine r_aloadn dd_Sta_grant_13 rfl ?_
    refine r_getI dd_Sta_grant_14 fl_Sta_51 (kI := 5) rfl fi_Sta_5 vk_1 ?_
    refine r_sip dd_Sta_grant_17 ⟨by decide, by decide⟩ ?_
    refine r_icmp_lt dd_Sta_grant_20 (fun c_20 => ?_) (fun c_20 => ?_)
    · refine r_iloadn dd_Sta_grant_26 rfl ?_
      refine r_if_ne dd_Sta_grant_27 (fun c_27 => ?_) (fun c_27 => ?_)
      · refine r_null dd_Sta_grant_41 ?_
        refine r_astore (L' := [_, _, _, _, _]) dd_Sta_grant_42 rfl rfl ?_
        refine r_aload dd_Sta_grant_44 rfl ?_
        refine r_ifnonnullN dd_Sta_grant_46 ?_
        refine r_bip dd_Sta_grant_49 ⟨by decide, by decide⟩ ?_
        exact r_retI dd_Sta_grant_51 (by rw [hq]; (repeat (first | rw [if_pos (by omega)] | rw [if_neg (by omega)]))) rfl
      · exfalso; rw [if_neg (by omega), if_neg (by omega), if_neg (by omega)] at hq; exact h hq
    · refine r_bip dd_Sta_grant_23 ⟨by decide, by decide⟩ ?_
      exact r_retI dd_Sta_grant_25 (by rw [hq]; (repeat (first | rw [if_pos (by omega)] | rw [if_neg (by omega)]))) rfl
  · refine r_iloadn dd_Sta_grant_11 rfl ?_
    exact r_retI dd_Sta_grant_12 (by rw [hq]; (repeat (first | rw [if_pos (by omega)] | rw [if_neg (by omega)]))) rfl
theorem c_Sta_grant_o {μ : Int → Int → Int} {K : Int} {m : Int → Int} (hR : RI K μ m) {t words i : Int} (h : askFM m t words = 0) (hi : askW m words = 4 * i) : MetC mi_Sta_grant [vR 1, vI t, vI words] (st μ) (some (vI (m 471))) (st (grC (cutC μ m (szC words) i) i t words)) := by
  refine met_of ?_ (Nat.le_of_ble_eq_true rfl) (by decide) trivial (by decide) (Nat.le_of_ble_eq_true rfl)
  show SPW mi_Sta_grant 219 0 [some (vR 1), some (vI t), some (vI words), none, none] [] (st μ) (some (vI (m 471))) (st (grC (cutC μ m (szC words) i) i t words))
  have h5 : μ 1 5 = m 471 := hR.1.2.2.2.2.2.1
  have hg := hR.2.1.2.2.2.2.2.2.2.1
  have hr := reas_ask h
  have hq := wr_room h
  have hc := askFM_c m t words
  have hs := szC_rg words
  have hroom := why_room hq.1
  rw [← p4_szC] at hroom
  have hcut := c_Sta_cutOut hR hs hroom (i := i) (by rw [p4_szC]; exact hi)
  obtain ⟨r1, r2, r3, -, -⟩ := room_rg hR.2.1 p4_rg hroom
  rw [p4_szC] at r1 r2 r3
  have hi2 : lowF m (hvM m (szM words)) = 4 * i := hi
  rw [hi2] at r2 r3
  have h0 : 0 ≤ i := by omega
  have h1 : i < 16 := by have := szM_rg words; omega
  have ck : ∀ o k, k ≠ 1 → (o ≠ 1 ∨ k ≠ 6) → cutC μ m (szC words) i o k = μ o k := fun o k a b => cutC_k hs a b
  generalize cutC μ m (szC words) i = ν at hcut ck ⊢
  refine r_aloadn dd_Sta_grant_0 rfl ?_
  refine r_iloadn dd_Sta_grant_1 rfl ?_
  refine r_iloadn dd_Sta_grant_2 rfl ?_
  refine r_V2W dd_Sta_grant_3 ml_Sta_63 ok_Sta_whyNot vi_Sta_whyNot vk_1 (by decide) (clS rfl (Nat.le_refl _) (rmOK_self _ _)) rfl (c_Sta_whyNot hR) ?_
  refine r_istoren (L' := [_, _, _, _, _]) dd_Sta_grant_6 rfl rfl ?_
  refine r_iloadn dd_Sta_grant_7 rfl ?_
  refine r_if_ge dd_Sta_grant_8 (fun c_8 => ?_) (fun c_8 => ?_)
  · refine r_aloadn dd_Sta_grant_13 rfl ?_
    refine r_getI dd_Sta_grant_14 fl_Sta_51 (kI := 5) rfl fi_Sta_5 vk_1 ?_
    refine r_sip dd_Sta_grant_17 ⟨by decide, by decide⟩ ?_
    refine r_icmp_lt dd_Sta_grant_20 (fun c_20 => ?_) (fun c_20 => ?_)
    · refine r_iloadn dd_Sta_grant_26 rfl ?_
      refine r_if_ne dd_Sta_grant_27 (fun c_27 => ?_) (fun c_27 => ?_)
      · exfalso; omega
      · refine r_aloadn dd_Sta_grant_30 rfl ?_
        refine r_iloadn dd_Sta_grant_31 rfl ?_
        refine r_S1W dd_Sta_grant_32 ml_Sta_67 ok_Sta_sizeFor st_Sta_sizeFor (clS rfl (Nat.le_refl _) (rmOK_self _ _)) rfl (c_Sta_sizeFor ⟨by omega, by omega⟩) ?_
        refine r_V1W dd_Sta_grant_35 ml_Sta_71 ok_Sta_cutOut vi_Sta_cutOut vk_1 (by decide) (clS rfl (Nat.le_refl _) (rmOK_self _ _)) rfl hcut ?_
        refine r_goto dd_Sta_grant_38 ?_
        refine r_astore (L' := [_, _, _, _, _]) dd_Sta_grant_42 rfl rfl ?_
        refine r_aload dd_Sta_grant_44 rfl ?_
        refine r_ifnonnullR dd_Sta_grant_46 ?_
        refine r_aload dd_Sta_grant_52 rfl ?_
        refine r_iloadn dd_Sta_grant_54 rfl ?_
        refine r_putI dd_Sta_grant_55 fl_Sta_75 (kI := 2) rfl fc_Blk_2 ff_Blk_2 (pi_Blk_2 _) (vk_blk h0 h1) ?_
        refine r_aload dd_Sta_grant_58 rfl ?_
        refine r_aloadn dd_Sta_grant_60 rfl ?_
        refine r_getI dd_Sta_grant_61 fl_Sta_51 (kI := 5) rfl fi_Sta_5 vk_1 ?_
        rw [upM_ne (Or.inl (by omega))]
        refine r_putI dd_Sta_grant_64 fl_Sta_78 (kI := 3) rfl fc_Blk_3 ff_Blk_3 (pi_Blk_3 _) (vk_blk h0 h1) ?_
        refine r_aload dd_Sta_grant_67 rfl ?_
        refine r_iloadn dd_Sta_grant_69 rfl ?_
        refine r_putI dd_Sta_grant_70 fl_Sta_81 (kI := 4) rfl fc_Blk_4 ff_Blk_4 (pi_Blk_4 _) (vk_blk h0 h1) ?_
        refine r_aload dd_Sta_grant_73 rfl ?_
        refine r_aloadn dd_Sta_grant_75 rfl ?_
        refine r_getI dd_Sta_grant_76 fl_Sta_48 (kI := 3) rfl fi_Sta_3 vk_1 ?_
        rw [upM_ne (Or.inl (by omega)), upM_ne (Or.inl (by omega)), upM_ne (Or.inl (by omega))]
        refine r_putI dd_Sta_grant_79 fl_Sta_84 (kI := 5) rfl fc_Blk_5 ff_Blk_5 (pi_Blk_5 _) (vk_blk h0 h1) ?_
        refine r_aloadn dd_Sta_grant_82 rfl ?_
        refine r_dup dd_Sta_grant_83 ?_
        refine r_getI dd_Sta_grant_84 fl_Sta_51 (kI := 5) rfl fi_Sta_5 vk_1 ?_
        rw [upM_ne (Or.inl (by omega)), upM_ne (Or.inl (by omega)), upM_ne (Or.inl (by omega)), upM_ne (Or.inl (by omega)), ck 1 5 (by decide) (by decide)]
        refine r_iconst dd_Sta_grant_87 ⟨by decide, by decide⟩ ?_
        refine r_iadd dd_Sta_grant_88 ⟨by omega, by omega⟩ ?_
        refine r_putI dd_Sta_grant_89 fl_Sta_51 (kI := 5) rfl fc_Sta_5 ff_Sta_5 (pi_Sta_5 _) vk_1 ?_
        refine r_aload dd_Sta_grant_92 rfl ?_
        refine r_getI dd_Sta_grant_94 fl_Sta_78 (kI := 3) rfl fi_Blk_3 (vk_blk h0 h1) ?_
        rw [upM_ne (Or.inl (by omega)), upM_ne (Or.inr (by decide)), upM_ne (Or.inr (by decide)), upM_eq, h5]
        exact r_retI dd_Sta_grant_97 (by first | rfl | omega | exact (b2_t (by first | assumption | omega)).symm | exact (b2_f (by first | assumption | omega)).symm) (by unfold grC; rw [ck 1 5 (by decide) (by decide), h5])
    · exfalso; omega
  · exfalso; omega
