/-! the class: what a State tells of its blocks -/
theorem r_eqo {y : MI} {t0 pc : Nat} {L : List (Option Vv)} {S : List Vv} {M Mf : Mm} {a b : Option Int} (h : a = b) (kk : SPW y t0 pc L S M (some (.inr a)) Mf) : SPW y t0 pc L S M (some (.inr b)) Mf := h ▸ kk
def blR (x : Int) : Option Int := if x = -5 then none else some (3 + x / 4)
theorem blR_n {x : Int} (h : x = -5) : blR x = none := if_pos h
theorem blR_s {x i : Int} (h : x = 4 * i) (h0 : 0 ≤ i) : blR x = some (3 + i) := by
  unfold blR
  rw [if_neg (by omega)]
  congr 1
  omega
theorem MetC.eqr {y : MI} {as : List Vv} {M Mf : Mm} {r r' : Option Vv} (h : MetC y as M r Mf) (e : r = r') : MetC y as M r' Mf := e ▸ h

theorem c_Sta_taskOf_s {μ : Int → Int → Int} {t : Int} (h : 0 ≤ t ∧ t < 6) : MetC mi_Sta_taskOf [vR 1, vI t] (st μ) (some (vR (21 + t))) (st (μ)) := by
  refine met_of ?_ (Nat.le_of_ble_eq_true rfl) (by decide) trivial (by decide) (Nat.le_of_ble_eq_true rfl)
  show SPW mi_Sta_taskOf 219 0 [some (vR 1), some (vI t)] [] (st μ) (some (vR (21 + t))) (st (μ))
  refine r_iloadn dd_Sta_taskOf_0 rfl ?_
  refine r_if_lt dd_Sta_taskOf_1 (fun c_1 => ?_) (fun c_1 => ?_)
  · exfalso; omega
  · refine r_iloadn dd_Sta_taskOf_4 rfl ?_
    refine r_bip dd_Sta_taskOf_5 ⟨by decide, by decide⟩ ?_
    refine r_icmp_lt dd_Sta_taskOf_7 (fun c_7 => ?_) (fun c_7 => ?_)
    · refine r_aloadn dd_Sta_taskOf_14 rfl ?_
      refine r_getR dd_Sta_taskOf_15 fl_Sta_26 (kI := 2) rfl fr_Sta_2 vk_1 R0_1_2 ?_
      refine r_iloadn dd_Sta_taskOf_18 rfl ?_
      refine r_aald dd_Sta_taskOf_19 (q := 18) (by decide) vk_20 (by omega) (by show _ < ((6 : Nat) : Int); omega) (by first | exact R0_2 | exact R0_20 | exact R0_80 | exact R0_187 | exact R0_b (by assumption) | exact R0_t (by assumption)) ?_
      exact r_retR dd_Sta_taskOf_20 rfl rfl
    · exfalso; omega
theorem c_Sta_taskOf_n {μ : Int → Int → Int} {t : Int} (h : t < 0 ∨ 6 ≤ t) : MetC mi_Sta_taskOf [vR 1, vI t] (st μ) (some (vN)) (st (μ)) := by
  refine met_of ?_ (Nat.le_of_ble_eq_true rfl) (by decide) trivial (by decide) (Nat.le_of_ble_eq_true rfl)
  show SPW mi_Sta_taskOf 219 0 [some (vR 1), some (vI t)] [] (st μ) (some (vN)) (st (μ))
  refine r_iloadn dd_Sta_taskOf_0 rfl ?_
  refine r_if_lt dd_Sta_taskOf_1 (fun c_1 => ?_) (fun c_1 => ?_)
  · refine r_null dd_Sta_taskOf_10 ?_
    refine r_goto dd_Sta_taskOf_11 ?_
    exact r_retR dd_Sta_taskOf_20 rfl rfl
  · refine r_iloadn dd_Sta_taskOf_4 rfl ?_
    refine r_bip dd_Sta_taskOf_5 ⟨by decide, by decide⟩ ?_
    refine r_icmp_lt dd_Sta_taskOf_7 (fun c_7 => ?_) (fun c_7 => ?_)
    · exfalso; omega
    · refine r_null dd_Sta_taskOf_10 ?_
      refine r_goto dd_Sta_taskOf_11 ?_
      exact r_retR dd_Sta_taskOf_20 rfl rfl
theorem c_Sta_placeAt {μ : Int → Int → Int} {w i : Int} (h : w = 4 * i ∧ 0 ≤ i ∧ i < 16) : MetC mi_Sta_placeAt [vR 1, vI w] (st μ) (some (vR (3 + i))) (st (μ)) := by
  refine met_of ?_ (Nat.le_of_ble_eq_true rfl) (by decide) trivial (by decide) (Nat.le_of_ble_eq_true rfl)
  show SPW mi_Sta_placeAt 219 0 [some (vR 1), some (vI w)] [] (st μ) (some (vR (3 + i))) (st (μ))
  refine r_iloadn dd_Sta_placeAt_0 rfl ?_
  refine r_if_lt dd_Sta_placeAt_1 (fun c_1 => ?_) (fun c_1 => ?_)
  · exfalso; omega
  · refine r_iloadn dd_Sta_placeAt_4 rfl ?_
    refine r_bip dd_Sta_placeAt_5 ⟨by decide, by decide⟩ ?_
    refine r_icmp_lt dd_Sta_placeAt_7 (fun c_7 => ?_) (fun c_7 => ?_)
    · refine r_aloadn dd_Sta_placeAt_14 rfl ?_
      refine r_getR dd_Sta_placeAt_15 fl_Sta_11 (kI := 0) rfl fr_Sta_0 vk_1 R0_1_0 ?_
      refine r_iloadn dd_Sta_placeAt_18 rfl ?_
      refine r_iconst dd_Sta_placeAt_19 ⟨by decide, by decide⟩ ?_
      refine r_idiv dd_Sta_placeAt_20 (by omega) (by omega) ?_
      refine r_aald dd_Sta_placeAt_21 (q := 17) (by decide) vk_2 (by omega) (by show _ < ((16 : Nat) : Int); omega) (by first | exact R0_2 | exact R0_20 | exact R0_80 | exact R0_187 | exact R0_b (by assumption) | exact R0_t (by assumption)) ?_
      exact r_retR dd_Sta_placeAt_22 (by congr 1; omega) rfl
    · exfalso; omega
theorem c_Sta_valueAt {μ : Int → Int → Int} {K : Int} {m : Int → Int} (hR : RI K μ m) {w : Int} (h : 0 ≤ w ∧ w < 64) : MetC mi_Sta_valueAt [vR 1, vI w] (st μ) (some (vI (m w))) (st (μ)) := by
  refine met_of ?_ (Nat.le_of_ble_eq_true rfl) (by decide) trivial (by decide) (Nat.le_of_ble_eq_true rfl)
  show SPW mi_Sta_valueAt 219 0 [some (vR 1), some (vI w)] [] (st μ) (some (vI (m w))) (st (μ))
  refine r_iloadn dd_Sta_valueAt_0 rfl ?_
  refine r_if_lt dd_Sta_valueAt_1 (fun c_1 => ?_) (fun c_1 => ?_)
  · exfalso; omega
  · refine r_iloadn dd_Sta_valueAt_4 rfl ?_
    refine r_bip dd_Sta_valueAt_5 ⟨by decide, by decide⟩ ?_
    refine r_icmp_lt dd_Sta_valueAt_7 (fun c_7 => ?_) (fun c_7 => ?_)
    · refine r_aloadn dd_Sta_valueAt_14 rfl ?_
      refine r_getR dd_Sta_valueAt_15 fl_Sta_20 (kI := 1) rfl fr_Sta_1 vk_1 R0_1_1 ?_
      refine r_iloadn dd_Sta_valueAt_18 rfl ?_
      refine r_iald dd_Sta_valueAt_19 (q := 10) (by decide) vk_19 (by omega) (by show _ < ((64 : Nat) : Int); omega) ?_
      exact r_retI dd_Sta_valueAt_20 (hR.val h.1 h.2) rfl
    · exfalso; omega
theorem c_Sta_setValue {μ : Int → Int → Int} {w v : Int} (h : 0 ≤ w ∧ w < 64) : MetC mi_Sta_setValue [vR 1, vI w, vI v] (st μ) (none) (st (upM μ 19 w v)) := by
  refine met_of ?_ (Nat.le_of_ble_eq_true rfl) (by decide) trivial (by decide) (Nat.le_of_ble_eq_true rfl)
  show SPW mi_Sta_setValue 219 0 [some (vR 1), some (vI w), some (vI v)] [] (st μ) (none) (st (upM μ 19 w v))
  refine r_iloadn dd_Sta_setValue_0 rfl ?_
  refine r_if_lt dd_Sta_setValue_1 (fun c_1 => ?_) (fun c_1 => ?_)
  · exfalso; omega
  · refine r_iloadn dd_Sta_setValue_4 rfl ?_
    refine r_bip dd_Sta_setValue_5 ⟨by decide, by decide⟩ ?_
    refine r_icmp_ge dd_Sta_setValue_7 (fun c_7 => ?_) (fun c_7 => ?_)
    · exfalso; omega
    · refine r_aloadn dd_Sta_setValue_10 rfl ?_
      refine r_getR dd_Sta_setValue_11 fl_Sta_20 (kI := 1) rfl fr_Sta_1 vk_1 R0_1_1 ?_
      refine r_iloadn dd_Sta_setValue_14 rfl ?_
      refine r_iloadn dd_Sta_setValue_15 rfl ?_
      refine r_iast dd_Sta_setValue_16 (q := 10) (by decide) vk_19 (by omega) (by show _ < ((64 : Nat) : Int); omega) ?_
      exact r_retV dd_Sta_setValue_17 rfl
theorem c_Sta_ageOf {μ : Int → Int → Int} {K : Int} {m : Int → Int} (hR : RI K μ m){i : Int} (h0 : 0 ≤ i) (h1 : i < 16) : MetC mi_Sta_ageOf [vR 1, vR (3 + i)] (st μ) (some (vI (m 466 - m (384 + 4 * i)))) (st (μ)) := by
  refine met_of ?_ (Nat.le_of_ble_eq_true rfl) (by decide) trivial (by decide) (Nat.le_of_ble_eq_true rfl)
  show SPW mi_Sta_ageOf 219 0 [some (vR 1), some (vR (3 + i))] [] (st μ) (some (vI (m 466 - m (384 + 4 * i)))) (st (μ))
  have ho := hR.own h0 h1
  have hb := hR.blk h0 h1
  have hw := hR.2.1.1 (4 * i) (by omega) (by omega)
  have hc := hR.2.1.2.2.1
  have hd : μ 1 3 = m 466 := hR.1.2.2.2.1
  refine r_aloadn dd_Sta_ageOf_0 rfl ?_
  refine r_getI dd_Sta_ageOf_1 fl_Sta_48 (kI := 3) rfl fi_Sta_3 vk_1 ?_
  refine r_aloadn dd_Sta_ageOf_4 rfl ?_
  refine r_getI dd_Sta_ageOf_5 fl_Sta_84 (kI := 5) rfl fi_Blk_5 (by first | assumption | exact vk_blk (by omega) (by omega) | exact vk_tsk (by omega) (by omega) | exact vk_cmd (by omega) (by omega)) ?_
  refine r_isub dd_Sta_ageOf_8 ⟨by omega, by omega⟩ ?_
  exact r_retI dd_Sta_ageOf_9 (by have := hb.2.2.2.2.2.2; omega) rfl
theorem c_Sta_isLeak {μ : Int → Int → Int} {K : Int} {m : Int → Int} (hR : RI K μ m){i : Int} (h0 : 0 ≤ i) (h1 : i < 16) : MetC mi_Sta_isLeak [vR 1, vR (3 + i)] (st μ) (some (vI (b2 (lkM m (4 * i))))) (st (μ)) := by
  refine met_of ?_ (Nat.le_of_ble_eq_true rfl) (by decide) b2_01 (by decide) (Nat.le_of_ble_eq_true rfl)
  show SPW mi_Sta_isLeak 219 0 [some (vR 1), some (vR (3 + i)), none] [] (st μ) (some (vI (b2 (lkM m (4 * i))))) (st (μ))
  have ho := hR.own h0 h1
  have hb := hR.blk h0 h1
  have hw := hR.2.1.1 (4 * i) (by omega) (by omega)
  rcases ho with ⟨ho1, ho2, ho3⟩ | ⟨ho1, ho2⟩
  · have ht := hR.tsk (t := m (256 + 4 * i)) (by omega) (by omega)
    have htl := hR.2.1.2.1 (m (256 + 4 * i)) (by omega) (by omega)
    have hp : μ 1 4 = m 467 := hR.1.2.2.2.2.1
    refine r_aloadn dd_Sta_isLeak_0 rfl ?_
    refine r_aloadn dd_Sta_isLeak_1 rfl ?_
    refine r_getI dd_Sta_isLeak_2 fl_Sta_75 (kI := 2) rfl fi_Blk_2 (by first | assumption | exact vk_blk (by omega) (by omega) | exact vk_tsk (by omega) (by omega) | exact vk_cmd (by omega) (by omega)) ?_
    rw [(hb.2.2.2.1 ho1).1]
    refine r_V1W dd_Sta_isLeak_5 ml_Sta_90 ok_Sta_taskOf vi_Sta_taskOf vk_1 (by decide) (clS rfl (Nat.le_refl _) (rmOK_self _ _)) rfl (c_Sta_taskOf_s (by omega)) ?_
    refine r_astoren (L' := [_, _, _]) dd_Sta_isLeak_8 rfl rfl ?_
    refine r_aloadn dd_Sta_isLeak_9 rfl ?_
    refine r_ifnullR dd_Sta_isLeak_10 ?_
    refine r_aloadn dd_Sta_isLeak_13 rfl ?_
    refine r_getI dd_Sta_isLeak_14 fl_Sta_104 (kI := 0) rfl fi_Tsk_0 (vk_tsk (by omega) (by omega)) ?_
    refine r_if_eq dd_Sta_isLeak_17 (fun c_17 => ?_) (fun c_17 => ?_)
    · refine r_iconst dd_Sta_isLeak_32 ⟨by decide, by decide⟩ ?_
      refine r_goto dd_Sta_isLeak_33 ?_
      exact r_retI dd_Sta_isLeak_37 (by first | exact (b2_t (by unfold tskR at ht; omega)).symm | exact (b2_f (by unfold tskR at ht; omega)).symm) rfl
    · refine r_aloadn dd_Sta_isLeak_20 rfl ?_
      refine r_aloadn dd_Sta_isLeak_21 rfl ?_
      refine r_V1W dd_Sta_isLeak_22 ml_Sta_121 ok_Sta_ageOf vi_Sta_ageOf vk_1 (by decide) (clS rfl (Nat.le_refl _) (rmOK_self _ _)) rfl (c_Sta_ageOf hR h0 h1) ?_
      refine r_aloadn dd_Sta_isLeak_25 rfl ?_
      refine r_getI dd_Sta_isLeak_26 fl_Sta_31 (kI := 4) rfl fi_Sta_4 vk_1 ?_
      refine r_icmp_lt dd_Sta_isLeak_29 (fun c_29 => ?_) (fun c_29 => ?_)
      · refine r_iconst dd_Sta_isLeak_36 ⟨by decide, by decide⟩ ?_
        exact r_retI dd_Sta_isLeak_37 (by first | exact (b2_t (by unfold tskR at ht; omega)).symm | exact (b2_f (by unfold tskR at ht; omega)).symm) rfl
      · refine r_iconst dd_Sta_isLeak_32 ⟨by decide, by decide⟩ ?_
        refine r_goto dd_Sta_isLeak_33 ?_
        exact r_retI dd_Sta_isLeak_37 (by first | exact (b2_t (by unfold tskR at ht; omega)).symm | exact (b2_f (by unfold tskR at ht; omega)).symm) rfl
  · refine r_aloadn dd_Sta_isLeak_0 rfl ?_
    refine r_aloadn dd_Sta_isLeak_1 rfl ?_
    refine r_getI dd_Sta_isLeak_2 fl_Sta_75 (kI := 2) rfl fi_Blk_2 (by first | assumption | exact vk_blk (by omega) (by omega) | exact vk_tsk (by omega) (by omega) | exact vk_cmd (by omega) (by omega)) ?_
    rw [ho2]
    refine r_V1W dd_Sta_isLeak_5 ml_Sta_90 ok_Sta_taskOf vi_Sta_taskOf vk_1 (by decide) (clS rfl (Nat.le_refl _) (rmOK_self _ _)) rfl (c_Sta_taskOf_n (by omega)) ?_
    refine r_astoren (L' := [_, _, _]) dd_Sta_isLeak_8 rfl rfl ?_
    refine r_aloadn dd_Sta_isLeak_9 rfl ?_
    refine r_ifnullN dd_Sta_isLeak_10 ?_
    refine r_iconst dd_Sta_isLeak_36 ⟨by decide, by decide⟩ ?_
    exact r_retI dd_Sta_isLeak_37 (by first | rfl | omega | exact (b2_t (by first | assumption | omega)).symm | exact (b2_f (by first | assumption | omega)).symm) rfl
theorem c_Sta_brokenGuards {μ : Int → Int → Int} {K : Int} {m : Int → Int} (hR : RI K μ m){i : Int} (h0 : 0 ≤ i) (h1 : i < 16) (hw0 : owd m (4 * i)) : MetC mi_Sta_brokenGuards [vR 1, vR (3 + i)] (st μ) (some (vI (brkM m (4 * i)))) (st (μ)) := by
  refine met_of ?_ (Nat.le_of_ble_eq_true rfl) (by decide) trivial (by decide) (Nat.le_of_ble_eq_true rfl)
  show SPW mi_Sta_brokenGuards 219 0 [some (vR 1), some (vR (3 + i)), none, none] [] (st μ) (some (vI (brkM m (4 * i)))) (st (μ))
  have ho := hR.own h0 h1
  have hb := hR.blk h0 h1
  have hw := hR.2.1.1 (4 * i) (by omega) (by omega)
  have hl := hR.2.2.2.2.1 (4 * i) (by omega) (by omega) hw0
  refine r_aloadn dd_Sta_brokenGuards_0 rfl ?_
  refine r_aloadn dd_Sta_brokenGuards_1 rfl ?_
  refine r_getI dd_Sta_brokenGuards_2 fl_Sta_98 (kI := 0) rfl fi_Blk_0 (by first | assumption | exact vk_blk (by omega) (by omega) | exact vk_tsk (by omega) (by omega) | exact vk_cmd (by omega) (by omega)) ?_
  rw [hb.1]
  refine r_V1W dd_Sta_brokenGuards_5 ml_Sta_112 ok_Sta_valueAt vi_Sta_valueAt vk_1 (by decide) (clS rfl (Nat.le_refl _) (rmOK_self _ _)) rfl (c_Sta_valueAt hR (by omega)) ?_
  refine r_if_ne dd_Sta_brokenGuards_8 (fun c_8 => ?_) (fun c_8 => ?_)
  · refine r_iconst dd_Sta_brokenGuards_15 ⟨by decide, by decide⟩ ?_
    refine r_istoren (L' := [_, _, _, _]) dd_Sta_brokenGuards_16 rfl rfl ?_
    refine r_aloadn dd_Sta_brokenGuards_17 rfl ?_
    refine r_aloadn dd_Sta_brokenGuards_18 rfl ?_
    refine r_V0W dd_Sta_brokenGuards_19 ml_Sta_182 ok_Blk_rearGuard vi_Blk_rearGuard (by first | assumption | exact vk_blk (by omega) (by omega) | exact vk_tsk (by omega) (by omega) | exact vk_cmd (by omega) (by omega)) (by decide) (clS rfl (Nat.le_refl _) (rmOK_self _ _)) rfl (c_Blk_rearGuard (vk_blk h0 h1) (by omega) (by omega)) ?_
    rw [hb.1, hb.2.2.2.2.2.1, show 4 * i + 1 + m (320 + 4 * i) = 4 * i + m (320 + 4 * i) + 1 by omega]
    refine r_V1W dd_Sta_brokenGuards_22 ml_Sta_112 ok_Sta_valueAt vi_Sta_valueAt vk_1 (by decide) (clS rfl (Nat.le_refl _) (rmOK_self _ _)) rfl (c_Sta_valueAt hR (by omega)) ?_
    refine r_if_ne dd_Sta_brokenGuards_25 (fun c_25 => ?_) (fun c_25 => ?_)
    · refine r_iconst dd_Sta_brokenGuards_32 ⟨by decide, by decide⟩ ?_
      refine r_istoren (L' := [_, _, _, _]) dd_Sta_brokenGuards_33 rfl rfl ?_
      refine r_iloadn dd_Sta_brokenGuards_34 rfl ?_
      refine r_iloadn dd_Sta_brokenGuards_35 rfl ?_
      refine r_iadd dd_Sta_brokenGuards_36 ⟨by omega, by omega⟩ ?_
      exact r_retI dd_Sta_brokenGuards_37 (by unfold brkM; rw [hl.2.2.1, hl.2.2.2]; (first | rw [b2_t (by assumption)] | rw [b2_f (by assumption)]); (first | rw [b2_t (by assumption)] | rw [b2_f (by assumption)])) rfl
    · refine r_iconst dd_Sta_brokenGuards_28 ⟨by decide, by decide⟩ ?_
      refine r_goto dd_Sta_brokenGuards_29 ?_
      refine r_istoren (L' := [_, _, _, _]) dd_Sta_brokenGuards_33 rfl rfl ?_
      refine r_iloadn dd_Sta_brokenGuards_34 rfl ?_
      refine r_iloadn dd_Sta_brokenGuards_35 rfl ?_
      refine r_iadd dd_Sta_brokenGuards_36 ⟨by omega, by omega⟩ ?_
      exact r_retI dd_Sta_brokenGuards_37 (by unfold brkM; rw [hl.2.2.1, hl.2.2.2]; (first | rw [b2_t (by assumption)] | rw [b2_f (by assumption)]); (first | rw [b2_t (by assumption)] | rw [b2_f (by assumption)])) rfl
  · refine r_iconst dd_Sta_brokenGuards_11 ⟨by decide, by decide⟩ ?_
    refine r_goto dd_Sta_brokenGuards_12 ?_
    refine r_istoren (L' := [_, _, _, _]) dd_Sta_brokenGuards_16 rfl rfl ?_
    refine r_aloadn dd_Sta_brokenGuards_17 rfl ?_
    refine r_aloadn dd_Sta_brokenGuards_18 rfl ?_
    refine r_V0W dd_Sta_brokenGuards_19 ml_Sta_182 ok_Blk_rearGuard vi_Blk_rearGuard (by first | assumption | exact vk_blk (by omega) (by omega) | exact vk_tsk (by omega) (by omega) | exact vk_cmd (by omega) (by omega)) (by decide) (clS rfl (Nat.le_refl _) (rmOK_self _ _)) rfl (c_Blk_rearGuard (vk_blk h0 h1) (by omega) (by omega)) ?_
    rw [hb.1, hb.2.2.2.2.2.1, show 4 * i + 1 + m (320 + 4 * i) = 4 * i + m (320 + 4 * i) + 1 by omega]
    refine r_V1W dd_Sta_brokenGuards_22 ml_Sta_112 ok_Sta_valueAt vi_Sta_valueAt vk_1 (by decide) (clS rfl (Nat.le_refl _) (rmOK_self _ _)) rfl (c_Sta_valueAt hR (by omega)) ?_
    refine r_if_ne dd_Sta_brokenGuards_25 (fun c_25 => ?_) (fun c_25 => ?_)
    · refine r_iconst dd_Sta_brokenGuards_32 ⟨by decide, by decide⟩ ?_
      refine r_istoren (L' := [_, _, _, _]) dd_Sta_brokenGuards_33 rfl rfl ?_
      refine r_iloadn dd_Sta_brokenGuards_34 rfl ?_
      refine r_iloadn dd_Sta_brokenGuards_35 rfl ?_
      refine r_iadd dd_Sta_brokenGuards_36 ⟨by omega, by omega⟩ ?_
      exact r_retI dd_Sta_brokenGuards_37 (by unfold brkM; rw [hl.2.2.1, hl.2.2.2]; (first | rw [b2_t (by assumption)] | rw [b2_f (by assumption)]); (first | rw [b2_t (by assumption)] | rw [b2_f (by assumption)])) rfl
    · refine r_iconst dd_Sta_brokenGuards_28 ⟨by decide, by decide⟩ ?_
      refine r_goto dd_Sta_brokenGuards_29 ?_
      refine r_istoren (L' := [_, _, _, _]) dd_Sta_brokenGuards_33 rfl rfl ?_
      refine r_iloadn dd_Sta_brokenGuards_34 rfl ?_
      refine r_iloadn dd_Sta_brokenGuards_35 rfl ?_
      refine r_iadd dd_Sta_brokenGuards_36 ⟨by omega, by omega⟩ ?_
      exact r_retI dd_Sta_brokenGuards_37 (by unfold brkM; rw [hl.2.2.1, hl.2.2.2]; (first | rw [b2_t (by assumption)] | rw [b2_f (by assumption)]); (first | rw [b2_t (by assumption)] | rw [b2_f (by assumption)])) rfl
theorem l_Sta_blockOf {μ : Int → Int → Int} {K : Int} {m : Int → Int} (hR : RI K μ m) {b : Int} : ∀ (n : Nat) (i : Int), (i + n = 16) → (0 ≤ i) → SPW mi_Sta_blockOf 219 11 [some (vR 1), some (vI b), some (vR 2), some (vI 16), some (vI i), none] [] (st (μ)) (some (.inr (blR (fstF (fun w => owd m w ∧ m (192 + w) = b) (4 * n) (4 * i))))) (st (μ)) := by
  intro n
  induction n with
  | zero =>
    intro i h0 h1
    refine r_iload dd_Sta_blockOf_11 rfl ?_
    refine r_iloadn dd_Sta_blockOf_13 rfl ?_
    refine r_icmp_ge dd_Sta_blockOf_14 (fun c_14 => ?_) (fun c_14 => ?_)
    · refine r_null dd_Sta_blockOf_49 ?_
      exact r_retR dd_Sta_blockOf_50 (by first | rfl | (rw [fstF4y (by omega)]; exact (blR_s rfl h1).symm)) rfl
    · exfalso; omega
  | succ n ih =>
    intro i h0 h1
    have ho := hR.own h1 (by omega)
    have hb := hR.blk h1 (by omega)
    have hw := hR.2.1.1 (4 * i) (by omega) (by omega)
    have z1 := hR.2.2.z h1 (by omega : i < 16) (j := 1) (by omega)
    have z2 := hR.2.2.z h1 (by omega : i < 16) (j := 2) (by omega)
    have z3 := hR.2.2.z h1 (by omega : i < 16) (j := 3) (by omega)
    refine r_iload dd_Sta_blockOf_11 rfl ?_
    refine r_iloadn dd_Sta_blockOf_13 rfl ?_
    refine r_icmp_ge dd_Sta_blockOf_14 (fun c_14 => ?_) (fun c_14 => ?_)
    · exfalso; omega
    · refine r_aloadn dd_Sta_blockOf_17 rfl ?_
      refine r_iload dd_Sta_blockOf_18 rfl ?_
      refine r_aald dd_Sta_blockOf_20 (q := 17) (by decide) vk_2 (by omega) (by show _ < ((16 : Nat) : Int); omega) (by first | exact R0_2 | exact R0_20 | exact R0_80 | exact R0_187 | exact R0_b (by assumption) | exact R0_t (by assumption)) ?_
      refine r_astore (L' := [_, _, _, _, _, _]) dd_Sta_blockOf_21 rfl rfl ?_
      refine r_aload dd_Sta_blockOf_23 rfl ?_
      refine r_V0W dd_Sta_blockOf_25 ml_Sta_169 ok_Blk_isOwned vi_Blk_isOwned (by first | assumption | exact vk_blk (by omega) (by omega) | exact vk_tsk (by omega) (by omega) | exact vk_cmd (by omega) (by omega)) (by decide) (clS rfl (Nat.le_refl _) (rmOK_self _ _)) rfl (c_Blk_isOwned (vk_blk h1 (by omega))) ?_
      refine r_if_eq_b dd_Sta_blockOf_28 (fun c_28 => ?_) (fun c_28 => ?_)
      · refine r_iinc (L' := [_, _, _, _, _, _]) dd_Sta_blockOf_43 rfl ⟨by omega, by omega⟩ rfl ?_
        refine r_goto dd_Sta_blockOf_46 ?_
        refine r_drop 5 (r_eqo (by rw [fstF4 (by omega) (by omega) (by omega) (by omega)]) (ih (i + 1) (by omega) (by omega)))
      · refine r_aload dd_Sta_blockOf_31 rfl ?_
        refine r_getI dd_Sta_blockOf_33 fl_Sta_78 (kI := 3) rfl fi_Blk_3 (by first | assumption | exact vk_blk (by omega) (by omega) | exact vk_tsk (by omega) (by omega) | exact vk_cmd (by omega) (by omega)) ?_
        refine r_iloadn dd_Sta_blockOf_36 rfl ?_
        refine r_icmp_ne dd_Sta_blockOf_37 (fun c_37 => ?_) (fun c_37 => ?_)
        · refine r_iinc (L' := [_, _, _, _, _, _]) dd_Sta_blockOf_43 rfl ⟨by omega, by omega⟩ rfl ?_
          refine r_goto dd_Sta_blockOf_46 ?_
          refine r_drop 5 (r_eqo (by rw [fstF4 (by omega) (by omega) (by omega) (by omega)]) (ih (i + 1) (by omega) (by omega)))
        · refine r_aload dd_Sta_blockOf_40 rfl ?_
          exact r_retR dd_Sta_blockOf_42 (by first | rfl | (rw [fstF4y (by omega)]; exact (blR_s rfl h1).symm)) rfl
theorem c_Sta_blockOf {μ : Int → Int → Int} {K : Int} {m : Int → Int} (hR : RI K μ m) {b : Int} : MetC mi_Sta_blockOf [vR 1, vI b] (st μ) (some (.inr (blR (begOf m b)))) (st (μ)) := by
  refine met_of ?_ (Nat.le_of_ble_eq_true rfl) (by decide) trivial (by decide) (Nat.le_of_ble_eq_true rfl)
  show SPW mi_Sta_blockOf 219 0 [some (vR 1), some (vI b), none, none, none, none] [] (st μ) (some (.inr (blR (begOf m b)))) (st (μ))
  refine r_aloadn dd_Sta_blockOf_0 rfl ?_
  refine r_getR dd_Sta_blockOf_1 fl_Sta_11 (kI := 0) rfl fr_Sta_0 vk_1 R0_1_0 ?_
  refine r_astoren (L' := [_, _, _, _, _, _]) dd_Sta_blockOf_4 rfl rfl ?_
  refine r_aloadn dd_Sta_blockOf_5 rfl ?_
  refine r_alen dd_Sta_blockOf_6 (q := 17) (n := 16) (by decide) vk_2 rfl ⟨by decide, by decide⟩ ?_
  refine r_istoren (L' := [_, _, _, _, _, _]) dd_Sta_blockOf_7 rfl rfl ?_
  refine r_iconst dd_Sta_blockOf_8 ⟨by decide, by decide⟩ ?_
  refine r_istore (L' := [_, _, _, _, _, _]) dd_Sta_blockOf_9 rfl rfl ?_
  exact r_eqo (show blR (fstF (fun w => owd m w ∧ m (192 + w) = b) (4 * 16) (4 * 0)) = blR (begOf m b) from rfl) (l_Sta_blockOf hR 16 0 (by decide) (by decide))
theorem c_Sta_blockOf_n {μ : Int → Int → Int} {K : Int} {m : Int → Int} (hR : RI K μ m) {b : Int} (h : begOf m b = -5) : MetC mi_Sta_blockOf [vR 1, vI b] (st μ) (some vN) (st μ) := (c_Sta_blockOf hR).eqr (by rw [blR_n h])
theorem c_Sta_blockOf_s {μ : Int → Int → Int} {K : Int} {m : Int → Int} (hR : RI K μ m) {b j : Int} (h : begOf m b = 4 * j) (h0 : 0 ≤ j) : MetC mi_Sta_blockOf [vR 1, vI b] (st μ) (some (vR (3 + j))) (st μ) := (c_Sta_blockOf hR).eqr (by rw [blR_s h h0])
theorem wz_inj {s z : Int} (hs : -1 ≤ s ∧ s ≤ 2) (hz : 0 ≤ z ∧ z ≤ 2) : wz s = p4 z ↔ s = z := by
  have h1 := wz_rg s
  have h2 : (p4 z = 4 ∧ z = 0) ∨ (p4 z = 8 ∧ z = 1) ∨ (p4 z = 16 ∧ z = 2) := by
    rcases (show z = 0 ∨ z = 1 ∨ z = 2 by omega) with rfl | rfl | rfl
    · exact Or.inl ⟨rfl, rfl⟩
    · exact Or.inr (Or.inl ⟨rfl, rfl⟩)
    · exact Or.inr (Or.inr ⟨rfl, rfl⟩)
  omega
theorem l_Sta_lowestFree {μ : Int → Int → Int} {K : Int} {m : Int → Int} (hR : RI K μ m) {z : Int} (hz : 0 ≤ z ∧ z ≤ 2) : ∀ (n : Nat) (i : Int), (i + n = 16) → (0 ≤ i) → SPW mi_Sta_lowestFree 219 11 [some (vR 1), some (vI z), some (vR 2), some (vI 16), some (vI i), none] [] (st (μ)) (some (.inr (blR (fstF (fun w => fre m w ∧ m (128 + w) = p4 z) (4 * n) (4 * i))))) (st (μ)) := by
  intro n
  induction n with
  | zero =>
    intro i h0 h1
    refine r_iload dd_Sta_lowestFree_11 rfl ?_
    refine r_iloadn dd_Sta_lowestFree_13 rfl ?_
    refine r_icmp_ge dd_Sta_lowestFree_14 (fun c_14 => ?_) (fun c_14 => ?_)
    · refine r_null dd_Sta_lowestFree_41 ?_
      exact r_retR dd_Sta_lowestFree_42 (by first | rfl | (rw [fstF4y (by omega)]; exact (blR_s rfl h1).symm)) rfl
    · exfalso; omega
  | succ n ih =>
    intro i h0 h1
    have ho := hR.own h1 (by omega)
    have hb := hR.blk h1 (by omega)
    have hw := hR.2.1.1 (4 * i) (by omega) (by omega)
    have z1 := hR.2.2.z h1 (by omega : i < 16) (j := 1) (by omega)
    have z2 := hR.2.2.z h1 (by omega : i < 16) (j := 2) (by omega)
    have z3 := hR.2.2.z h1 (by omega : i < 16) (j := 3) (by omega)
    have hp := p4_rg (z := z)
    have hj := wz_inj hb.2.1 hz
    refine r_iload dd_Sta_lowestFree_11 rfl ?_
    refine r_iloadn dd_Sta_lowestFree_13 rfl ?_
    refine r_icmp_ge dd_Sta_lowestFree_14 (fun c_14 => ?_) (fun c_14 => ?_)
    · exfalso; omega
    · refine r_aloadn dd_Sta_lowestFree_17 rfl ?_
      refine r_iload dd_Sta_lowestFree_18 rfl ?_
      refine r_aald dd_Sta_lowestFree_20 (q := 17) (by decide) vk_2 (by omega) (by show _ < ((16 : Nat) : Int); omega) (by first | exact R0_2 | exact R0_20 | exact R0_80 | exact R0_187 | exact R0_b (by assumption) | exact R0_t (by assumption)) ?_
      refine r_astore (L' := [_, _, _, _, _, _]) dd_Sta_lowestFree_21 rfl rfl ?_
      refine r_aload dd_Sta_lowestFree_23 rfl ?_
      refine r_iloadn dd_Sta_lowestFree_25 rfl ?_
      refine r_V1W dd_Sta_lowestFree_26 ml_Sta_141 ok_Blk_isFreeOf vi_Blk_isFreeOf (by first | assumption | exact vk_blk (by omega) (by omega) | exact vk_tsk (by omega) (by omega) | exact vk_cmd (by omega) (by omega)) (by decide) (clS rfl (Nat.le_refl _) (rmOK_self _ _)) rfl (c_Blk_isFreeOf (vk_blk h1 (by omega))) ?_
      refine r_if_eq_b dd_Sta_lowestFree_29 (fun c_29 => ?_) (fun c_29 => ?_)
      · refine r_iinc (L' := [_, _, _, _, _, _]) dd_Sta_lowestFree_35 rfl ⟨by omega, by omega⟩ rfl ?_
        refine r_goto dd_Sta_lowestFree_38 ?_
        refine r_drop 5 (r_eqo (by rw [fstF4 (by omega) (by omega) (by omega) (by omega)]) (ih (i + 1) (by omega) (by omega)))
      · refine r_aload dd_Sta_lowestFree_32 rfl ?_
        exact r_retR dd_Sta_lowestFree_34 (by first | rfl | (rw [fstF4y (by omega)]; exact (blR_s rfl h1).symm)) rfl
theorem c_Sta_lowestFree {μ : Int → Int → Int} {K : Int} {m : Int → Int} (hR : RI K μ m) {z : Int} (hz : 0 ≤ z ∧ z ≤ 2) : MetC mi_Sta_lowestFree [vR 1, vI z] (st μ) (some (.inr (blR (lowF m (p4 z))))) (st (μ)) := by
  refine met_of ?_ (Nat.le_of_ble_eq_true rfl) (by decide) trivial (by decide) (Nat.le_of_ble_eq_true rfl)
  show SPW mi_Sta_lowestFree 219 0 [some (vR 1), some (vI z), none, none, none, none] [] (st μ) (some (.inr (blR (lowF m (p4 z))))) (st (μ))
  refine r_aloadn dd_Sta_lowestFree_0 rfl ?_
  refine r_getR dd_Sta_lowestFree_1 fl_Sta_11 (kI := 0) rfl fr_Sta_0 vk_1 R0_1_0 ?_
  refine r_astoren (L' := [_, _, _, _, _, _]) dd_Sta_lowestFree_4 rfl rfl ?_
  refine r_aloadn dd_Sta_lowestFree_5 rfl ?_
  refine r_alen dd_Sta_lowestFree_6 (q := 17) (n := 16) (by decide) vk_2 rfl ⟨by decide, by decide⟩ ?_
  refine r_istoren (L' := [_, _, _, _, _, _]) dd_Sta_lowestFree_7 rfl rfl ?_
  refine r_iconst dd_Sta_lowestFree_8 ⟨by decide, by decide⟩ ?_
  refine r_istore (L' := [_, _, _, _, _, _]) dd_Sta_lowestFree_9 rfl rfl ?_
  exact r_eqo (show blR (fstF (fun w => fre m w ∧ m (128 + w) = p4 z) (4 * 16) (4 * 0)) = blR (lowF m (p4 z)) from rfl) (l_Sta_lowestFree hR hz 16 0 (by decide) (by decide))
