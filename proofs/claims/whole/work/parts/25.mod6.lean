/-! the reference: blocks taken, given back, swept -/
def hvM (m : Int → Int) (z : Int) : Int := if lowF m z ≠ -5 then z else if lowF m (2 * z) ≠ -5 then 2 * z else 4 * z
def spl1 (m : Int → Int) (w h : Int) : Int → Int := up1 (up1 (up1 (up1 m (128 + w) h) (128 + w + h) h) (192 + w + h) (-5)) 468 (m 468 + 1)
def takM (m : Int → Int) (z : Int) : Int → Int := if hvM m z = z then m else if hvM m z = 2 * z then spl1 m (lowF m (2 * z)) z else spl1 (spl1 m (lowF m (4 * z)) (2 * z)) (lowF m (4 * z)) z
def roomM (m : Int → Int) (z : Int) : Prop := lowF m z ≠ -5 ∨ (z < 16 ∧ lowF m (2 * z) ≠ -5) ∨ (z < 8 ∧ lowF m (4 * z) ≠ -5)
theorem hv_1 {m : Int → Int} {z : Int} (h : lowF m z ≠ -5) : hvM m z = z := if_pos h
theorem hv_2 {m : Int → Int} {z : Int} (h : lowF m z = -5) (h2 : lowF m (2 * z) ≠ -5) : hvM m z = 2 * z := by
  unfold hvM
  rw [if_neg (fun q => q h), if_pos h2]
theorem hv_3 {m : Int → Int} {z : Int} (h : lowF m z = -5) (h2 : lowF m (2 * z) = -5) : hvM m z = 4 * z := by
  unfold hvM
  rw [if_neg (fun q => q h), if_neg (fun q => q h2)]
theorem tak_1 {m : Int → Int} {z : Int} (h : hvM m z = z) : takM m z = m := if_pos h
theorem tak_2 {m : Int → Int} {z : Int} (hz : 0 < z) (h : hvM m z = 2 * z) : takM m z = spl1 m (lowF m (2 * z)) z := by
  unfold takM
  rw [if_neg (by omega), if_pos h]
theorem tak_3 {m : Int → Int} {z : Int} (hz : 0 < z) (h : hvM m z = 4 * z) : takM m z = spl1 (spl1 m (lowF m (4 * z)) (2 * z)) (lowF m (4 * z)) z := by
  unfold takM
  rw [if_neg (by omega), if_neg (by omega)]

theorem tk2_16_16 {μ : Int → Int → Int} {m : Int → Int} {w : Int} (h0 : 0 ≤ w) (h1 : w + 16 ≤ 64) (hb : 0 ≤ m 468 ∧ m 468 ≤ 2000000000 - 16) : SPW mi_Mod_taken 226 25 [some (vR 219), some (vI 16), some (vI 16), some (vI w)] [] (st (setO μ 220 m)) (some (vI w)) (st (setO μ 220 (m))) := by
  refine r_iloadn dd_Mod_taken_25 rfl ?_
  refine r_iloadn dd_Mod_taken_26 rfl ?_
  refine r_icmp_le dd_Mod_taken_27 (fun c_27 => ?_) (fun c_27 => ?_)
  · refine r_iloadn dd_Mod_taken_87 rfl ?_
    exact r_retI dd_Mod_taken_88 (by first | rfl | omega | exact (b2_t (by first | assumption | omega)).symm | exact (b2_f (by first | assumption | omega)).symm) rfl
  · exfalso; omega
theorem tk2_8_8 {μ : Int → Int → Int} {m : Int → Int} {w : Int} (h0 : 0 ≤ w) (h1 : w + 8 ≤ 64) (hb : 0 ≤ m 468 ∧ m 468 ≤ 2000000000 - 8) : SPW mi_Mod_taken 226 25 [some (vR 219), some (vI 8), some (vI 8), some (vI w)] [] (st (setO μ 220 m)) (some (vI w)) (st (setO μ 220 (m))) := by
  refine r_iloadn dd_Mod_taken_25 rfl ?_
  refine r_iloadn dd_Mod_taken_26 rfl ?_
  refine r_icmp_le dd_Mod_taken_27 (fun c_27 => ?_) (fun c_27 => ?_)
  · refine r_iloadn dd_Mod_taken_87 rfl ?_
    exact r_retI dd_Mod_taken_88 (by first | rfl | omega | exact (b2_t (by first | assumption | omega)).symm | exact (b2_f (by first | assumption | omega)).symm) rfl
  · exfalso; omega
theorem tk2_8_16 {μ : Int → Int → Int} {m : Int → Int} {w : Int} (h0 : 0 ≤ w) (h1 : w + 16 ≤ 64) (hb : 0 ≤ m 468 ∧ m 468 ≤ 2000000000 - 16) : SPW mi_Mod_taken 226 25 [some (vR 219), some (vI 8), some (vI 16), some (vI w)] [] (st (setO μ 220 m)) (some (vI w)) (st (setO μ 220 (spl1 m w 8))) := by
  refine r_iloadn dd_Mod_taken_25 rfl ?_
  refine r_iloadn dd_Mod_taken_26 rfl ?_
  refine r_icmp_le dd_Mod_taken_27 (fun c_27 => ?_) (fun c_27 => ?_)
  · exfalso; omega
  · refine r_iloadn dd_Mod_taken_30 rfl ?_
    refine r_iconst dd_Mod_taken_31 ⟨by decide, by decide⟩ ?_
    refine r_idiv dd_Mod_taken_32 (by omega) (by omega) ?_
    refine r_istoren (L' := [_, _, _, _]) dd_Mod_taken_33 rfl rfl ?_
    refine r_aloadn dd_Mod_taken_34 rfl ?_
    refine r_getR dd_Mod_taken_35 fl_Mod_7 (kI := 0) rfl fr_Mod_0 vk_219 R0_219_0 ?_
    refine r_sip dd_Mod_taken_38 ⟨by decide, by decide⟩ ?_
    refine r_iloadn dd_Mod_taken_41 rfl ?_
    refine r_iadd dd_Mod_taken_42 ⟨by omega, by omega⟩ ?_
    refine r_iloadn dd_Mod_taken_43 rfl ?_
    refine r_iast dd_Mod_taken_44 (q := 12) (by decide) vk_220 (by omega) (by show _ < ((472 : Nat) : Int); omega) ?_
    simp only [setO_at, setO_ss, upM_on, so_219, so_221, so_222, so_223, so_224, so_225, uo_219, uo_221, uo_222, uo_223, uo_224, uo_225, upM_eq, upM_uu, t221_219, t221_220, t221_222, t221_223, t221_224, t221_225, v221, t222_219, t222_220, t222_221, t222_223, t222_224, t222_225, v222, t223_219, t223_220, t223_221, t223_222, t223_224, t223_225, v223, w_220, w_221, w_222, w_223, w_224, w_225, Int.reduceMul, Int.reduceDiv]
    refine r_aloadn dd_Mod_taken_45 rfl ?_
    refine r_getR dd_Mod_taken_46 fl_Mod_7 (kI := 0) rfl fr_Mod_0 vk_219 R0_219_0 ?_
    refine r_sip dd_Mod_taken_49 ⟨by decide, by decide⟩ ?_
    refine r_iloadn dd_Mod_taken_52 rfl ?_
    refine r_iadd dd_Mod_taken_53 ⟨by omega, by omega⟩ ?_
    refine r_iloadn dd_Mod_taken_54 rfl ?_
    refine r_iadd dd_Mod_taken_55 ⟨by omega, by omega⟩ ?_
    refine r_iloadn dd_Mod_taken_56 rfl ?_
    refine r_iast dd_Mod_taken_57 (q := 12) (by decide) vk_220 (by omega) (by show _ < ((472 : Nat) : Int); omega) ?_
    simp only [setO_at, setO_ss, upM_on, so_219, so_221, so_222, so_223, so_224, so_225, uo_219, uo_221, uo_222, uo_223, uo_224, uo_225, upM_eq, upM_uu, t221_219, t221_220, t221_222, t221_223, t221_224, t221_225, v221, t222_219, t222_220, t222_221, t222_223, t222_224, t222_225, v222, t223_219, t223_220, t223_221, t223_222, t223_224, t223_225, v223, w_220, w_221, w_222, w_223, w_224, w_225, Int.reduceMul, Int.reduceDiv]
    refine r_aloadn dd_Mod_taken_58 rfl ?_
    refine r_getR dd_Mod_taken_59 fl_Mod_7 (kI := 0) rfl fr_Mod_0 vk_219 R0_219_0 ?_
    refine r_sip dd_Mod_taken_62 ⟨by decide, by decide⟩ ?_
    refine r_iloadn dd_Mod_taken_65 rfl ?_
    refine r_iadd dd_Mod_taken_66 ⟨by omega, by omega⟩ ?_
    refine r_iloadn dd_Mod_taken_67 rfl ?_
    refine r_iadd dd_Mod_taken_68 ⟨by omega, by omega⟩ ?_
    refine r_bip dd_Mod_taken_69 ⟨by decide, by decide⟩ ?_
    refine r_iast dd_Mod_taken_71 (q := 12) (by decide) vk_220 (by omega) (by show _ < ((472 : Nat) : Int); omega) ?_
    simp only [setO_at, setO_ss, upM_on, so_219, so_221, so_222, so_223, so_224, so_225, uo_219, uo_221, uo_222, uo_223, uo_224, uo_225, upM_eq, upM_uu, t221_219, t221_220, t221_222, t221_223, t221_224, t221_225, v221, t222_219, t222_220, t222_221, t222_223, t222_224, t222_225, v222, t223_219, t223_220, t223_221, t223_222, t223_224, t223_225, v223, w_220, w_221, w_222, w_223, w_224, w_225, Int.reduceMul, Int.reduceDiv]
    refine r_aloadn dd_Mod_taken_72 rfl ?_
    refine r_getR dd_Mod_taken_73 fl_Mod_7 (kI := 0) rfl fr_Mod_0 vk_219 R0_219_0 ?_
    refine r_sip dd_Mod_taken_76 ⟨by decide, by decide⟩ ?_
    refine r_dup2 dd_Mod_taken_79 ?_
    refine r_iald dd_Mod_taken_80 (q := 12) (by decide) vk_220 (by omega) (by show _ < ((472 : Nat) : Int); omega) ?_
    simp only [setO_at, setO_ss, upM_on, so_219, so_221, so_222, so_223, so_224, so_225, uo_219, uo_221, uo_222, uo_223, uo_224, uo_225, upM_eq, upM_uu, t221_219, t221_220, t221_222, t221_223, t221_224, t221_225, v221, t222_219, t222_220, t222_221, t222_223, t222_224, t222_225, v222, t223_219, t223_220, t223_221, t223_222, t223_224, t223_225, v223, w_220, w_221, w_222, w_223, w_224, w_225, Int.reduceMul, Int.reduceDiv]
    rw [up1_ne (by omega), up1_ne (by omega), up1_ne (by omega)]
    refine r_iconst dd_Mod_taken_81 ⟨by decide, by decide⟩ ?_
    refine r_iadd dd_Mod_taken_82 ⟨by omega, by omega⟩ ?_
    refine r_iast dd_Mod_taken_83 (q := 12) (by decide) vk_220 (by omega) (by show _ < ((472 : Nat) : Int); omega) ?_
    simp only [setO_at, setO_ss, upM_on, so_219, so_221, so_222, so_223, so_224, so_225, uo_219, uo_221, uo_222, uo_223, uo_224, uo_225, upM_eq, upM_uu, t221_219, t221_220, t221_222, t221_223, t221_224, t221_225, v221, t222_219, t222_220, t222_221, t222_223, t222_224, t222_225, v222, t223_219, t223_220, t223_221, t223_222, t223_224, t223_225, v223, w_220, w_221, w_222, w_223, w_224, w_225, Int.reduceMul, Int.reduceDiv]
    refine r_goto dd_Mod_taken_84 ?_
    exact tk2_8_8 (m := spl1 m w 8) h0 (by omega) (by unfold spl1; rw [up1_at]; omega)
theorem tk2_4_4 {μ : Int → Int → Int} {m : Int → Int} {w : Int} (h0 : 0 ≤ w) (h1 : w + 4 ≤ 64) (hb : 0 ≤ m 468 ∧ m 468 ≤ 2000000000 - 4) : SPW mi_Mod_taken 226 25 [some (vR 219), some (vI 4), some (vI 4), some (vI w)] [] (st (setO μ 220 m)) (some (vI w)) (st (setO μ 220 (m))) := by
  refine r_iloadn dd_Mod_taken_25 rfl ?_
  refine r_iloadn dd_Mod_taken_26 rfl ?_
  refine r_icmp_le dd_Mod_taken_27 (fun c_27 => ?_) (fun c_27 => ?_)
  · refine r_iloadn dd_Mod_taken_87 rfl ?_
    exact r_retI dd_Mod_taken_88 (by first | rfl | omega | exact (b2_t (by first | assumption | omega)).symm | exact (b2_f (by first | assumption | omega)).symm) rfl
  · exfalso; omega
theorem tk2_4_8 {μ : Int → Int → Int} {m : Int → Int} {w : Int} (h0 : 0 ≤ w) (h1 : w + 8 ≤ 64) (hb : 0 ≤ m 468 ∧ m 468 ≤ 2000000000 - 8) : SPW mi_Mod_taken 226 25 [some (vR 219), some (vI 4), some (vI 8), some (vI w)] [] (st (setO μ 220 m)) (some (vI w)) (st (setO μ 220 (spl1 m w 4))) := by
  refine r_iloadn dd_Mod_taken_25 rfl ?_
  refine r_iloadn dd_Mod_taken_26 rfl ?_
  refine r_icmp_le dd_Mod_taken_27 (fun c_27 => ?_) (fun c_27 => ?_)
  · exfalso; omega
  · refine r_iloadn dd_Mod_taken_30 rfl ?_
    refine r_iconst dd_Mod_taken_31 ⟨by decide, by decide⟩ ?_
    refine r_idiv dd_Mod_taken_32 (by omega) (by omega) ?_
    refine r_istoren (L' := [_, _, _, _]) dd_Mod_taken_33 rfl rfl ?_
    refine r_aloadn dd_Mod_taken_34 rfl ?_
    refine r_getR dd_Mod_taken_35 fl_Mod_7 (kI := 0) rfl fr_Mod_0 vk_219 R0_219_0 ?_
    refine r_sip dd_Mod_taken_38 ⟨by decide, by decide⟩ ?_
    refine r_iloadn dd_Mod_taken_41 rfl ?_
    refine r_iadd dd_Mod_taken_42 ⟨by omega, by omega⟩ ?_
    refine r_iloadn dd_Mod_taken_43 rfl ?_
    refine r_iast dd_Mod_taken_44 (q := 12) (by decide) vk_220 (by omega) (by show _ < ((472 : Nat) : Int); omega) ?_
    simp only [setO_at, setO_ss, upM_on, so_219, so_221, so_222, so_223, so_224, so_225, uo_219, uo_221, uo_222, uo_223, uo_224, uo_225, upM_eq, upM_uu, t221_219, t221_220, t221_222, t221_223, t221_224, t221_225, v221, t222_219, t222_220, t222_221, t222_223, t222_224, t222_225, v222, t223_219, t223_220, t223_221, t223_222, t223_224, t223_225, v223, w_220, w_221, w_222, w_223, w_224, w_225, Int.reduceMul, Int.reduceDiv]
    refine r_aloadn dd_Mod_taken_45 rfl ?_
    refine r_getR dd_Mod_taken_46 fl_Mod_7 (kI := 0) rfl fr_Mod_0 vk_219 R0_219_0 ?_
    refine r_sip dd_Mod_taken_49 ⟨by decide, by decide⟩ ?_
    refine r_iloadn dd_Mod_taken_52 rfl ?_
    refine r_iadd dd_Mod_taken_53 ⟨by omega, by omega⟩ ?_
    refine r_iloadn dd_Mod_taken_54 rfl ?_
    refine r_iadd dd_Mod_taken_55 ⟨by omega, by omega⟩ ?_
    refine r_iloadn dd_Mod_taken_56 rfl ?_
    refine r_iast dd_Mod_taken_57 (q := 12) (by decide) vk_220 (by omega) (by show _ < ((472 : Nat) : Int); omega) ?_
    simp only [setO_at, setO_ss, upM_on, so_219, so_221, so_222, so_223, so_224, so_225, uo_219, uo_221, uo_222, uo_223, uo_224, uo_225, upM_eq, upM_uu, t221_219, t221_220, t221_222, t221_223, t221_224, t221_225, v221, t222_219, t222_220, t222_221, t222_223, t222_224, t222_225, v222, t223_219, t223_220, t223_221, t223_222, t223_224, t223_225, v223, w_220, w_221, w_222, w_223, w_224, w_225, Int.reduceMul, Int.reduceDiv]
    refine r_aloadn dd_Mod_taken_58 rfl ?_
    refine r_getR dd_Mod_taken_59 fl_Mod_7 (kI := 0) rfl fr_Mod_0 vk_219 R0_219_0 ?_
    refine r_sip dd_Mod_taken_62 ⟨by decide, by decide⟩ ?_
    refine r_iloadn dd_Mod_taken_65 rfl ?_
    refine r_iadd dd_Mod_taken_66 ⟨by omega, by omega⟩ ?_
    refine r_iloadn dd_Mod_taken_67 rfl ?_
    refine r_iadd dd_Mod_taken_68 ⟨by omega, by omega⟩ ?_
    refine r_bip dd_Mod_taken_69 ⟨by decide, by decide⟩ ?_
    refine r_iast dd_Mod_taken_71 (q := 12) (by decide) vk_220 (by omega) (by show _ < ((472 : Nat) : Int); omega) ?_
    simp only [setO_at, setO_ss, upM_on, so_219, so_221, so_222, so_223, so_224, so_225, uo_219, uo_221, uo_222, uo_223, uo_224, uo_225, upM_eq, upM_uu, t221_219, t221_220, t221_222, t221_223, t221_224, t221_225, v221, t222_219, t222_220, t222_221, t222_223, t222_224, t222_225, v222, t223_219, t223_220, t223_221, t223_222, t223_224, t223_225, v223, w_220, w_221, w_222, w_223, w_224, w_225, Int.reduceMul, Int.reduceDiv]
    refine r_aloadn dd_Mod_taken_72 rfl ?_
    refine r_getR dd_Mod_taken_73 fl_Mod_7 (kI := 0) rfl fr_Mod_0 vk_219 R0_219_0 ?_
    refine r_sip dd_Mod_taken_76 ⟨by decide, by decide⟩ ?_
    refine r_dup2 dd_Mod_taken_79 ?_
    refine r_iald dd_Mod_taken_80 (q := 12) (by decide) vk_220 (by omega) (by show _ < ((472 : Nat) : Int); omega) ?_
    simp only [setO_at, setO_ss, upM_on, so_219, so_221, so_222, so_223, so_224, so_225, uo_219, uo_221, uo_222, uo_223, uo_224, uo_225, upM_eq, upM_uu, t221_219, t221_220, t221_222, t221_223, t221_224, t221_225, v221, t222_219, t222_220, t222_221, t222_223, t222_224, t222_225, v222, t223_219, t223_220, t223_221, t223_222, t223_224, t223_225, v223, w_220, w_221, w_222, w_223, w_224, w_225, Int.reduceMul, Int.reduceDiv]
    rw [up1_ne (by omega), up1_ne (by omega), up1_ne (by omega)]
    refine r_iconst dd_Mod_taken_81 ⟨by decide, by decide⟩ ?_
    refine r_iadd dd_Mod_taken_82 ⟨by omega, by omega⟩ ?_
    refine r_iast dd_Mod_taken_83 (q := 12) (by decide) vk_220 (by omega) (by show _ < ((472 : Nat) : Int); omega) ?_
    simp only [setO_at, setO_ss, upM_on, so_219, so_221, so_222, so_223, so_224, so_225, uo_219, uo_221, uo_222, uo_223, uo_224, uo_225, upM_eq, upM_uu, t221_219, t221_220, t221_222, t221_223, t221_224, t221_225, v221, t222_219, t222_220, t222_221, t222_223, t222_224, t222_225, v222, t223_219, t223_220, t223_221, t223_222, t223_224, t223_225, v223, w_220, w_221, w_222, w_223, w_224, w_225, Int.reduceMul, Int.reduceDiv]
    refine r_goto dd_Mod_taken_84 ?_
    exact tk2_4_4 (m := spl1 m w 4) h0 (by omega) (by unfold spl1; rw [up1_at]; omega)
theorem tk2_4_16 {μ : Int → Int → Int} {m : Int → Int} {w : Int} (h0 : 0 ≤ w) (h1 : w + 16 ≤ 64) (hb : 0 ≤ m 468 ∧ m 468 ≤ 2000000000 - 16) : SPW mi_Mod_taken 226 25 [some (vR 219), some (vI 4), some (vI 16), some (vI w)] [] (st (setO μ 220 m)) (some (vI w)) (st (setO μ 220 (spl1 (spl1 m w 8) w 4))) := by
  refine r_iloadn dd_Mod_taken_25 rfl ?_
  refine r_iloadn dd_Mod_taken_26 rfl ?_
  refine r_icmp_le dd_Mod_taken_27 (fun c_27 => ?_) (fun c_27 => ?_)
  · exfalso; omega
  · refine r_iloadn dd_Mod_taken_30 rfl ?_
    refine r_iconst dd_Mod_taken_31 ⟨by decide, by decide⟩ ?_
    refine r_idiv dd_Mod_taken_32 (by omega) (by omega) ?_
    refine r_istoren (L' := [_, _, _, _]) dd_Mod_taken_33 rfl rfl ?_
    refine r_aloadn dd_Mod_taken_34 rfl ?_
    refine r_getR dd_Mod_taken_35 fl_Mod_7 (kI := 0) rfl fr_Mod_0 vk_219 R0_219_0 ?_
    refine r_sip dd_Mod_taken_38 ⟨by decide, by decide⟩ ?_
    refine r_iloadn dd_Mod_taken_41 rfl ?_
    refine r_iadd dd_Mod_taken_42 ⟨by omega, by omega⟩ ?_
    refine r_iloadn dd_Mod_taken_43 rfl ?_
    refine r_iast dd_Mod_taken_44 (q := 12) (by decide) vk_220 (by omega) (by show _ < ((472 : Nat) : Int); omega) ?_
    simp only [setO_at, setO_ss, upM_on, so_219, so_221, so_222, so_223, so_224, so_225, uo_219, uo_221, uo_222, uo_223, uo_224, uo_225, upM_eq, upM_uu, t221_219, t221_220, t221_222, t221_223, t221_224, t221_225, v221, t222_219, t222_220, t222_221, t222_223, t222_224, t222_225, v222, t223_219, t223_220, t223_221, t223_222, t223_224, t223_225, v223, w_220, w_221, w_222, w_223, w_224, w_225, Int.reduceMul, Int.reduceDiv]
    refine r_aloadn dd_Mod_taken_45 rfl ?_
    refine r_getR dd_Mod_taken_46 fl_Mod_7 (kI := 0) rfl fr_Mod_0 vk_219 R0_219_0 ?_
    refine r_sip dd_Mod_taken_49 ⟨by decide, by decide⟩ ?_
    refine r_iloadn dd_Mod_taken_52 rfl ?_
    refine r_iadd dd_Mod_taken_53 ⟨by omega, by omega⟩ ?_
    refine r_iloadn dd_Mod_taken_54 rfl ?_
    refine r_iadd dd_Mod_taken_55 ⟨by omega, by omega⟩ ?_
    refine r_iloadn dd_Mod_taken_56 rfl ?_
    refine r_iast dd_Mod_taken_57 (q := 12) (by decide) vk_220 (by omega) (by show _ < ((472 : Nat) : Int); omega) ?_
    simp only [setO_at, setO_ss, upM_on, so_219, so_221, so_222, so_223, so_224, so_225, uo_219, uo_221, uo_222, uo_223, uo_224, uo_225, upM_eq, upM_uu, t221_219, t221_220, t221_222, t221_223, t221_224, t221_225, v221, t222_219, t222_220, t222_221, t222_223, t222_224, t222_225, v222, t223_219, t223_220, t223_221, t223_222, t223_224, t223_225, v223, w_220, w_221, w_222, w_223, w_224, w_225, Int.reduceMul, Int.reduceDiv]
    refine r_aloadn dd_Mod_taken_58 rfl ?_
    refine r_getR dd_Mod_taken_59 fl_Mod_7 (kI := 0) rfl fr_Mod_0 vk_219 R0_219_0 ?_
    refine r_sip dd_Mod_taken_62 ⟨by decide, by decide⟩ ?_
    refine r_iloadn dd_Mod_taken_65 rfl ?_
    refine r_iadd dd_Mod_taken_66 ⟨by omega, by omega⟩ ?_
    refine r_iloadn dd_Mod_taken_67 rfl ?_
    refine r_iadd dd_Mod_taken_68 ⟨by omega, by omega⟩ ?_
    refine r_bip dd_Mod_taken_69 ⟨by decide, by decide⟩ ?_
    refine r_iast dd_Mod_taken_71 (q := 12) (by decide) vk_220 (by omega) (by show _ < ((472 : Nat) : Int); omega) ?_
    simp only [setO_at, setO_ss, upM_on, so_219, so_221, so_222, so_223, so_224, so_225, uo_219, uo_221, uo_222, uo_223, uo_224, uo_225, upM_eq, upM_uu, t221_219, t221_220, t221_222, t221_223, t221_224, t221_225, v221, t222_219, t222_220, t222_221, t222_223, t222_224, t222_225, v222, t223_219, t223_220, t223_221, t223_222, t223_224, t223_225, v223, w_220, w_221, w_222, w_223, w_224, w_225, Int.reduceMul, Int.reduceDiv]
    refine r_aloadn dd_Mod_taken_72 rfl ?_
    refine r_getR dd_Mod_taken_73 fl_Mod_7 (kI := 0) rfl fr_Mod_0 vk_219 R0_219_0 ?_
    refine r_sip dd_Mod_taken_76 ⟨by decide, by decide⟩ ?_
    refine r_dup2 dd_Mod_taken_79 ?_
    refine r_iald dd_Mod_taken_80 (q := 12) (by decide) vk_220 (by omega) (by show _ < ((472 : Nat) : Int); omega) ?_
    simp only [setO_at, setO_ss, upM_on, so_219, so_221, so_222, so_223, so_224, so_225, uo_219, uo_221, uo_222, uo_223, uo_224, uo_225, upM_eq, upM_uu, t221_219, t221_220, t221_222, t221_223, t221_224, t221_225, v221, t222_219, t222_220, t222_221, t222_223, t222_224, t222_225, v222, t223_219, t223_220, t223_221, t223_222, t223_224, t223_225, v223, w_220, w_221, w_222, w_223, w_224, w_225, Int.reduceMul, Int.reduceDiv]
    rw [up1_ne (by omega), up1_ne (by omega), up1_ne (by omega)]
    refine r_iconst dd_Mod_taken_81 ⟨by decide, by decide⟩ ?_
    refine r_iadd dd_Mod_taken_82 ⟨by omega, by omega⟩ ?_
    refine r_iast dd_Mod_taken_83 (q := 12) (by decide) vk_220 (by omega) (by show _ < ((472 : Nat) : Int); omega) ?_
    simp only [setO_at, setO_ss, upM_on, so_219, so_221, so_222, so_223, so_224, so_225, uo_219, uo_221, uo_222, uo_223, uo_224, uo_225, upM_eq, upM_uu, t221_219, t221_220, t221_222, t221_223, t221_224, t221_225, v221, t222_219, t222_220, t222_221, t222_223, t222_224, t222_225, v222, t223_219, t223_220, t223_221, t223_222, t223_224, t223_225, v223, w_220, w_221, w_222, w_223, w_224, w_225, Int.reduceMul, Int.reduceDiv]
    refine r_goto dd_Mod_taken_84 ?_
    exact tk2_4_8 (m := spl1 m w 8) h0 (by omega) (by unfold spl1; rw [up1_at]; omega)
theorem c_Mod_taken {μ : Int → Int → Int} {m : Int → Int} {K z : Int} (hW : MW K m) (hz : z = 4 ∨ z = 8 ∨ z = 16) (hr0 : roomM m z) : MetC mi_Mod_taken [vR 219, vI z] (st (setO μ 220 m)) (some (vI (lowF m (hvM m z)))) (st (setO μ 220 (takM m z))) := by
  refine met_of ?_ (Nat.le_of_ble_eq_true rfl) (by decide) trivial (by decide) (Nat.le_of_ble_eq_true rfl)
  show SPW mi_Mod_taken 226 0 [some (vR 219), some (vI z), none, none] [] (st (setO μ 220 m)) _ _
  rcases hz with rfl | rfl | rfl
  · refine r_iloadn dd_Mod_taken_0 rfl ?_
    refine r_istoren (L' := [_, _, _, _]) dd_Mod_taken_1 rfl rfl ?_
    refine r_aloadn dd_Mod_taken_2 rfl ?_
    refine r_iloadn dd_Mod_taken_3 rfl ?_
    refine r_V1W dd_Mod_taken_4 ml_Mod_59 ok_Mod_lowestFree vi_Mod_lowestFree vk_219 (by decide) (clS rfl (Nat.le_refl _) (rmOK_self _ _)) rfl c_Mod_lowestFree ?_
    simp only [setO_at, setO_ss, upM_on, so_219, so_221, so_222, so_223, so_224, so_225, uo_219, uo_221, uo_222, uo_223, uo_224, uo_225, upM_eq, upM_uu, t221_219, t221_220, t221_222, t221_223, t221_224, t221_225, v221, t222_219, t222_220, t222_221, t222_223, t222_224, t222_225, v222, t223_219, t223_220, t223_221, t223_222, t223_224, t223_225, v223, w_220, w_221, w_222, w_223, w_224, w_225, Int.reduceMul, Int.reduceDiv]
    refine r_bip dd_Mod_taken_7 ⟨by decide, by decide⟩ ?_
    refine r_icmp_ne dd_Mod_taken_9 (fun c4_9 => ?_) (fun c4_9 => ?_)
    · refine r_aloadn dd_Mod_taken_19 rfl ?_
      refine r_iloadn dd_Mod_taken_20 rfl ?_
      refine r_V1W dd_Mod_taken_21 ml_Mod_59 ok_Mod_lowestFree vi_Mod_lowestFree vk_219 (by decide) (clS rfl (Nat.le_refl _) (rmOK_self _ _)) rfl c_Mod_lowestFree ?_
      simp only [setO_at, setO_ss, upM_on, so_219, so_221, so_222, so_223, so_224, so_225, uo_219, uo_221, uo_222, uo_223, uo_224, uo_225, upM_eq, upM_uu, t221_219, t221_220, t221_222, t221_223, t221_224, t221_225, v221, t222_219, t222_220, t222_221, t222_223, t222_224, t222_225, v222, t223_219, t223_220, t223_221, t223_222, t223_224, t223_225, v223, w_220, w_221, w_222, w_223, w_224, w_225, Int.reduceMul, Int.reduceDiv]
      refine r_istoren (L' := [_, _, _, _]) dd_Mod_taken_24 rfl rfl ?_
      have e := (hv_1 (z := 4) c4_9 : hvM m 4 = 4)
      rw [(tak_1 e : takM m 4 = m), e]
      have hr := lowF_rg m 4
      have hb := hW.1 (lowF m 4) (by omega) (by omega)
      have hs8 := hW.2.2.2.2.1
      have hk := hW.2.2.2.2.2.2.2.2.1
      exact tk2_4_4 (by omega) (by omega) (by omega)
    · refine r_iconst dd_Mod_taken_12 ⟨by decide, by decide⟩ ?_
      refine r_iloadn dd_Mod_taken_13 rfl ?_
      refine r_imul dd_Mod_taken_14 ⟨by omega, by omega⟩ ?_
      refine r_istoren (L' := [_, _, _, _]) dd_Mod_taken_15 rfl rfl ?_
      refine r_goto dd_Mod_taken_16 ?_
      simp only [Int.reduceMul]
      refine r_aloadn dd_Mod_taken_2 rfl ?_
      refine r_iloadn dd_Mod_taken_3 rfl ?_
      refine r_V1W dd_Mod_taken_4 ml_Mod_59 ok_Mod_lowestFree vi_Mod_lowestFree vk_219 (by decide) (clS rfl (Nat.le_refl _) (rmOK_self _ _)) rfl c_Mod_lowestFree ?_
      simp only [setO_at, setO_ss, upM_on, so_219, so_221, so_222, so_223, so_224, so_225, uo_219, uo_221, uo_222, uo_223, uo_224, uo_225, upM_eq, upM_uu, t221_219, t221_220, t221_222, t221_223, t221_224, t221_225, v221, t222_219, t222_220, t222_221, t222_223, t222_224, t222_225, v222, t223_219, t223_220, t223_221, t223_222, t223_224, t223_225, v223, w_220, w_221, w_222, w_223, w_224, w_225, Int.reduceMul, Int.reduceDiv]
      refine r_bip dd_Mod_taken_7 ⟨by decide, by decide⟩ ?_
      refine r_icmp_ne dd_Mod_taken_9 (fun c8_9 => ?_) (fun c8_9 => ?_)
      · refine r_aloadn dd_Mod_taken_19 rfl ?_
        refine r_iloadn dd_Mod_taken_20 rfl ?_
        refine r_V1W dd_Mod_taken_21 ml_Mod_59 ok_Mod_lowestFree vi_Mod_lowestFree vk_219 (by decide) (clS rfl (Nat.le_refl _) (rmOK_self _ _)) rfl c_Mod_lowestFree ?_
        simp only [setO_at, setO_ss, upM_on, so_219, so_221, so_222, so_223, so_224, so_225, uo_219, uo_221, uo_222, uo_223, uo_224, uo_225, upM_eq, upM_uu, t221_219, t221_220, t221_222, t221_223, t221_224, t221_225, v221, t222_219, t222_220, t222_221, t222_223, t222_224, t222_225, v222, t223_219, t223_220, t223_221, t223_222, t223_224, t223_225, v223, w_220, w_221, w_222, w_223, w_224, w_225, Int.reduceMul, Int.reduceDiv]
        refine r_istoren (L' := [_, _, _, _]) dd_Mod_taken_24 rfl rfl ?_
        have e := (hv_2 (z := 4) (by omega) (by show lowF m 8 ≠ -5; omega) : hvM m 4 = 8)
        rw [(tak_2 (z := 4) (by decide) e : takM m 4 = spl1 m (lowF m 8) 4), e]
        have hr := lowF_rg m 8
        have hb := hW.1 (lowF m 8) (by omega) (by omega)
        have hs8 := hW.2.2.2.2.1
        have hk := hW.2.2.2.2.2.2.2.2.1
        exact tk2_4_8 (by omega) (by omega) (by omega)
      · refine r_iconst dd_Mod_taken_12 ⟨by decide, by decide⟩ ?_
        refine r_iloadn dd_Mod_taken_13 rfl ?_
        refine r_imul dd_Mod_taken_14 ⟨by omega, by omega⟩ ?_
        refine r_istoren (L' := [_, _, _, _]) dd_Mod_taken_15 rfl rfl ?_
        refine r_goto dd_Mod_taken_16 ?_
        simp only [Int.reduceMul]
        refine r_aloadn dd_Mod_taken_2 rfl ?_
        refine r_iloadn dd_Mod_taken_3 rfl ?_
        refine r_V1W dd_Mod_taken_4 ml_Mod_59 ok_Mod_lowestFree vi_Mod_lowestFree vk_219 (by decide) (clS rfl (Nat.le_refl _) (rmOK_self _ _)) rfl c_Mod_lowestFree ?_
        simp only [setO_at, setO_ss, upM_on, so_219, so_221, so_222, so_223, so_224, so_225, uo_219, uo_221, uo_222, uo_223, uo_224, uo_225, upM_eq, upM_uu, t221_219, t221_220, t221_222, t221_223, t221_224, t221_225, v221, t222_219, t222_220, t222_221, t222_223, t222_224, t222_225, v222, t223_219, t223_220, t223_221, t223_222, t223_224, t223_225, v223, w_220, w_221, w_222, w_223, w_224, w_225, Int.reduceMul, Int.reduceDiv]
        refine r_bip dd_Mod_taken_7 ⟨by decide, by decide⟩ ?_
        refine r_icmp_ne dd_Mod_taken_9 (fun c16_9 => ?_) (fun c16_9 => ?_)
        · refine r_aloadn dd_Mod_taken_19 rfl ?_
          refine r_iloadn dd_Mod_taken_20 rfl ?_
          refine r_V1W dd_Mod_taken_21 ml_Mod_59 ok_Mod_lowestFree vi_Mod_lowestFree vk_219 (by decide) (clS rfl (Nat.le_refl _) (rmOK_self _ _)) rfl c_Mod_lowestFree ?_
          simp only [setO_at, setO_ss, upM_on, so_219, so_221, so_222, so_223, so_224, so_225, uo_219, uo_221, uo_222, uo_223, uo_224, uo_225, upM_eq, upM_uu, t221_219, t221_220, t221_222, t221_223, t221_224, t221_225, v221, t222_219, t222_220, t222_221, t222_223, t222_224, t222_225, v222, t223_219, t223_220, t223_221, t223_222, t223_224, t223_225, v223, w_220, w_221, w_222, w_223, w_224, w_225, Int.reduceMul, Int.reduceDiv]
          refine r_istoren (L' := [_, _, _, _]) dd_Mod_taken_24 rfl rfl ?_
          have e := (hv_3 (z := 4) (by omega) (by show lowF m 8 = -5; omega) : hvM m 4 = 16)
          rw [(tak_3 (z := 4) (by decide) e : takM m 4 = spl1 (spl1 m (lowF m 16) 8) (lowF m 16) 4), e]
          have hr := lowF_rg m 16
          have hb := hW.1 (lowF m 16) (by omega) (by omega)
          have hs8 := hW.2.2.2.2.1
          have hk := hW.2.2.2.2.2.2.2.2.1
          exact tk2_4_16 (by omega) (by omega) (by omega)
        · exfalso; unfold roomM at hr0; simp only [Int.reduceMul] at hr0; omega
  · refine r_iloadn dd_Mod_taken_0 rfl ?_
    refine r_istoren (L' := [_, _, _, _]) dd_Mod_taken_1 rfl rfl ?_
    refine r_aloadn dd_Mod_taken_2 rfl ?_
    refine r_iloadn dd_Mod_taken_3 rfl ?_
    refine r_V1W dd_Mod_taken_4 ml_Mod_59 ok_Mod_lowestFree vi_Mod_lowestFree vk_219 (by decide) (clS rfl (Nat.le_refl _) (rmOK_self _ _)) rfl c_Mod_lowestFree ?_
    simp only [setO_at, setO_ss, upM_on, so_219, so_221, so_222, so_223, so_224, so_225, uo_219, uo_221, uo_222, uo_223, uo_224, uo_225, upM_eq, upM_uu, t221_219, t221_220, t221_222, t221_223, t221_224, t221_225, v221, t222_219, t222_220, t222_221, t222_223, t222_224, t222_225, v222, t223_219, t223_220, t223_221, t223_222, t223_224, t223_225, v223, w_220, w_221, w_222, w_223, w_224, w_225, Int.reduceMul, Int.reduceDiv]
    refine r_bip dd_Mod_taken_7 ⟨by decide, by decide⟩ ?_
    refine r_icmp_ne dd_Mod_taken_9 (fun c8_9 => ?_) (fun c8_9 => ?_)
    · refine r_aloadn dd_Mod_taken_19 rfl ?_
      refine r_iloadn dd_Mod_taken_20 rfl ?_
      refine r_V1W dd_Mod_taken_21 ml_Mod_59 ok_Mod_lowestFree vi_Mod_lowestFree vk_219 (by decide) (clS rfl (Nat.le_refl _) (rmOK_self _ _)) rfl c_Mod_lowestFree ?_
      simp only [setO_at, setO_ss, upM_on, so_219, so_221, so_222, so_223, so_224, so_225, uo_219, uo_221, uo_222, uo_223, uo_224, uo_225, upM_eq, upM_uu, t221_219, t221_220, t221_222, t221_223, t221_224, t221_225, v221, t222_219, t222_220, t222_221, t222_223, t222_224, t222_225, v222, t223_219, t223_220, t223_221, t223_222, t223_224, t223_225, v223, w_220, w_221, w_222, w_223, w_224, w_225, Int.reduceMul, Int.reduceDiv]
      refine r_istoren (L' := [_, _, _, _]) dd_Mod_taken_24 rfl rfl ?_
      have e := (hv_1 (z := 8) c8_9 : hvM m 8 = 8)
      rw [(tak_1 e : takM m 8 = m), e]
      have hr := lowF_rg m 8
      have hb := hW.1 (lowF m 8) (by omega) (by omega)
      have hs8 := hW.2.2.2.2.1
      have hk := hW.2.2.2.2.2.2.2.2.1
      exact tk2_8_8 (by omega) (by omega) (by omega)
    · refine r_iconst dd_Mod_taken_12 ⟨by decide, by decide⟩ ?_
      refine r_iloadn dd_Mod_taken_13 rfl ?_
      refine r_imul dd_Mod_taken_14 ⟨by omega, by omega⟩ ?_
      refine r_istoren (L' := [_, _, _, _]) dd_Mod_taken_15 rfl rfl ?_
      refine r_goto dd_Mod_taken_16 ?_
      simp only [Int.reduceMul]
      refine r_aloadn dd_Mod_taken_2 rfl ?_
      refine r_iloadn dd_Mod_taken_3 rfl ?_
      refine r_V1W dd_Mod_taken_4 ml_Mod_59 ok_Mod_lowestFree vi_Mod_lowestFree vk_219 (by decide) (clS rfl (Nat.le_refl _) (rmOK_self _ _)) rfl c_Mod_lowestFree ?_
      simp only [setO_at, setO_ss, upM_on, so_219, so_221, so_222, so_223, so_224, so_225, uo_219, uo_221, uo_222, uo_223, uo_224, uo_225, upM_eq, upM_uu, t221_219, t221_220, t221_222, t221_223, t221_224, t221_225, v221, t222_219, t222_220, t222_221, t222_223, t222_224, t222_225, v222, t223_219, t223_220, t223_221, t223_222, t223_224, t223_225, v223, w_220, w_221, w_222, w_223, w_224, w_225, Int.reduceMul, Int.reduceDiv]
      refine r_bip dd_Mod_taken_7 ⟨by decide, by decide⟩ ?_
      refine r_icmp_ne dd_Mod_taken_9 (fun c16_9 => ?_) (fun c16_9 => ?_)
      · refine r_aloadn dd_Mod_taken_19 rfl ?_
        refine r_iloadn dd_Mod_taken_20 rfl ?_
        refine r_V1W dd_Mod_taken_21 ml_Mod_59 ok_Mod_lowestFree vi_Mod_lowestFree vk_219 (by decide) (clS rfl (Nat.le_refl _) (rmOK_self _ _)) rfl c_Mod_lowestFree ?_
        simp only [setO_at, setO_ss, upM_on, so_219, so_221, so_222, so_223, so_224, so_225, uo_219, uo_221, uo_222, uo_223, uo_224, uo_225, upM_eq, upM_uu, t221_219, t221_220, t221_222, t221_223, t221_224, t221_225, v221, t222_219, t222_220, t222_221, t222_223, t222_224, t222_225, v222, t223_219, t223_220, t223_221, t223_222, t223_224, t223_225, v223, w_220, w_221, w_222, w_223, w_224, w_225, Int.reduceMul, Int.reduceDiv]
        refine r_istoren (L' := [_, _, _, _]) dd_Mod_taken_24 rfl rfl ?_
        have e := (hv_2 (z := 8) (by omega) (by show lowF m 16 ≠ -5; omega) : hvM m 8 = 16)
        rw [(tak_2 (z := 8) (by decide) e : takM m 8 = spl1 m (lowF m 16) 8), e]
        have hr := lowF_rg m 16
        have hb := hW.1 (lowF m 16) (by omega) (by omega)
        have hs8 := hW.2.2.2.2.1
        have hk := hW.2.2.2.2.2.2.2.2.1
        exact tk2_8_16 (by omega) (by omega) (by omega)
      · exfalso; unfold roomM at hr0; simp only [Int.reduceMul] at hr0; omega
  · refine r_iloadn dd_Mod_taken_0 rfl ?_
    refine r_istoren (L' := [_, _, _, _]) dd_Mod_taken_1 rfl rfl ?_
    refine r_aloadn dd_Mod_taken_2 rfl ?_
    refine r_iloadn dd_Mod_taken_3 rfl ?_
    refine r_V1W dd_Mod_taken_4 ml_Mod_59 ok_Mod_lowestFree vi_Mod_lowestFree vk_219 (by decide) (clS rfl (Nat.le_refl _) (rmOK_self _ _)) rfl c_Mod_lowestFree ?_
    simp only [setO_at, setO_ss, upM_on, so_219, so_221, so_222, so_223, so_224, so_225, uo_219, uo_221, uo_222, uo_223, uo_224, uo_225, upM_eq, upM_uu, t221_219, t221_220, t221_222, t221_223, t221_224, t221_225, v221, t222_219, t222_220, t222_221, t222_223, t222_224, t222_225, v222, t223_219, t223_220, t223_221, t223_222, t223_224, t223_225, v223, w_220, w_221, w_222, w_223, w_224, w_225, Int.reduceMul, Int.reduceDiv]
    refine r_bip dd_Mod_taken_7 ⟨by decide, by decide⟩ ?_
    refine r_icmp_ne dd_Mod_taken_9 (fun c16_9 => ?_) (fun c16_9 => ?_)
    · refine r_aloadn dd_Mod_taken_19 rfl ?_
      refine r_iloadn dd_Mod_taken_20 rfl ?_
      refine r_V1W dd_Mod_taken_21 ml_Mod_59 ok_Mod_lowestFree vi_Mod_lowestFree vk_219 (by decide) (clS rfl (Nat.le_refl _) (rmOK_self _ _)) rfl c_Mod_lowestFree ?_
      simp only [setO_at, setO_ss, upM_on, so_219, so_221, so_222, so_223, so_224, so_225, uo_219, uo_221, uo_222, uo_223, uo_224, uo_225, upM_eq, upM_uu, t221_219, t221_220, t221_222, t221_223, t221_224, t221_225, v221, t222_219, t222_220, t222_221, t222_223, t222_224, t222_225, v222, t223_219, t223_220, t223_221, t223_222, t223_224, t223_225, v223, w_220, w_221, w_222, w_223, w_224, w_225, Int.reduceMul, Int.reduceDiv]
      refine r_istoren (L' := [_, _, _, _]) dd_Mod_taken_24 rfl rfl ?_
      have e := (hv_1 (z := 16) c16_9 : hvM m 16 = 16)
      rw [(tak_1 e : takM m 16 = m), e]
      have hr := lowF_rg m 16
      have hb := hW.1 (lowF m 16) (by omega) (by omega)
      have hs8 := hW.2.2.2.2.1
      have hk := hW.2.2.2.2.2.2.2.2.1
      exact tk2_16_16 (by omega) (by omega) (by omega)
    · exfalso; unfold roomM at hr0; simp only [Int.reduceMul] at hr0; omega
def askW (m : Int → Int) (words : Int) : Int := lowF m (hvM m (szM words))
def askM (m : Int → Int) (t words : Int) : Int → Int :=
  up1 (up1 (up1 (up1 (up1 (takM m (szM words)) (192 + askW m words) (m 471)) (256 + askW m words) t) (320 + askW m words) words) (384 + askW m words) (m 466)) 471 (m 471 + 1)
theorem spl1_hi {m : Int → Int} {w h k : Int} (h0 : 0 ≤ w) (h1 : 0 < h) (h2 : w + 2 * h ≤ 64) (hk : 256 ≤ k ∧ k ≠ 468) : spl1 m w h k = m k := by
  unfold spl1
  rw [up1_ne (by omega), up1_ne (by omega), up1_ne (by omega), up1_ne (by omega)]
theorem room_rg {K : Int} {m : Int → Int} {z : Int} (hW : MW K m) (hz : z = 4 ∨ z = 8 ∨ z = 16) (hr : roomM m z) : (hvM m z = z ∨ (hvM m z = 2 * z ∧ z < 16) ∨ (hvM m z = 4 * z ∧ z < 8)) ∧ 0 ≤ lowF m (hvM m z) ∧ lowF m (hvM m z) + hvM m z ≤ 64 ∧ fre m (lowF m (hvM m z)) ∧ m (128 + lowF m (hvM m z)) = hvM m z := by
  have key : ∀ q : Int, lowF m q ≠ -5 → 0 ≤ lowF m q ∧ lowF m q + q ≤ 64 ∧ fre m (lowF m q) ∧ m (128 + lowF m q) = q := by
    intro q hq
    rcases lowF_rg m q with h | ⟨h1, h2, h3, h4⟩
    · exact absurd h hq
    · have hb := (hW.1 _ h1 h2).2.2.2.2.2.2.2
      exact ⟨h1, by omega, h3, h4⟩
  unfold roomM at hr
  by_cases a1 : lowF m z = -5
  · by_cases a2 : lowF m (2 * z) = -5
    · rw [hv_3 a1 a2]
      exact ⟨Or.inr (Or.inr ⟨rfl, by omega⟩), key _ (by omega)⟩
    · rw [hv_2 a1 a2]
      exact ⟨Or.inr (Or.inl ⟨rfl, by omega⟩), key _ a2⟩
  · rw [hv_1 a1]
    exact ⟨Or.inl rfl, key _ a1⟩
theorem takM_hi {K : Int} {m : Int → Int} {z k : Int} (hW : MW K m) (hz : z = 4 ∨ z = 8 ∨ z = 16) (hr : roomM m z) (hk : 256 ≤ k ∧ k ≠ 468) : takM m z k = m k := by
  obtain ⟨h1, h2, h3, -⟩ := room_rg hW hz hr
  rcases h1 with e | ⟨e, -⟩ | ⟨e, -⟩
  · rw [tak_1 e]
  · rw [tak_2 (by omega) e]
    rw [e] at h2 h3
    exact spl1_hi h2 (by omega) (by omega) hk
  · rw [tak_3 (by omega) e]
    rw [e] at h2 h3
    rw [spl1_hi h2 (by omega) (by omega) hk, spl1_hi h2 (by omega) (by omega) hk]
theorem why_room {m : Int → Int} {t words : Int} (h : whyM m t words = 0) : roomM m (szM words) := by
  unfold whyM at h
  unfold roomM
  have hs := szM_rg words
  split at h
  · omega
  · split at h
    · omega
    · split at h
      · omega
      · rename_i h3
        rcases hs with e | e | e <;> rw [e] at h3 ⊢ <;> simp only [Int.reduceMul] <;> omega

theorem c_Mod_asks {μ : Int → Int → Int} {m : Int → Int} {K t words : Int} (hW : MW K m) (hw : whyM m t words = 0) (hg3 : m 471 < 300) : MetC mi_Mod_asks [vR 219, vI t, vI words] (st (setO μ 220 m)) (some (vI (m 471))) (st (setO μ 220 (askM m t words))) := by
  refine met_of ?_ (Nat.le_of_ble_eq_true rfl) (by decide) trivial (by decide) (Nat.le_of_ble_eq_true rfl)
  show SPW mi_Mod_asks 226 0 [some (vR 219), some (vI t), some (vI words), none] [] (st (setO μ 220 m)) (some (vI (m 471))) (st (setO μ 220 (askM m t words)))
  have hs := szM_rg words
  have hr := why_room hw
  obtain ⟨r1, r2, r3, -⟩ : _ ∧ 0 ≤ askW m words ∧ askW m words + hvM m (szM words) ≤ 64 ∧ _ := room_rg hW hs hr
  have hg := hW.2.2.2.2.2.2.2.1
  have e1 : ∀ k, 256 ≤ k ∧ k ≠ 468 → takM m (szM words) k = m k := fun k hk => takM_hi hW hs hr hk
  have ht : MetC mi_Mod_taken [vR 219, vI (szM words)] (st (setO μ 220 m)) (some (vI (askW m words))) (st (setO μ 220 (takM m (szM words)))) := c_Mod_taken hW hs hr
  unfold askM
  generalize askW m words = w at r2 r3 ht ⊢
  generalize takM m (szM words) = f at e1 ht ⊢
  refine r_aloadn dd_Mod_asks_0 rfl ?_
  refine r_iloadn dd_Mod_asks_1 rfl ?_
  refine r_S1W dd_Mod_asks_2 ml_Mod_53 ok_Mod_sizeFor st_Mod_sizeFor (clS rfl (Nat.le_refl _) (rmOK_self _ _)) rfl c_Mod_sizeFor ?_
  try simp only [setO_at, setO_ss, upM_on, so_219, so_221, so_222, so_223, so_224, so_225, uo_219, uo_221, uo_222, uo_223, uo_224, uo_225, upM_eq, upM_uu, t221_219, t221_220, t221_222, t221_223, t221_224, t221_225, v221, t222_219, t222_220, t222_221, t222_223, t222_224, t222_225, v222, t223_219, t223_220, t223_221, t223_222, t223_224, t223_225, v223, w_220, w_221, w_222, w_223, w_224, w_225]
  refine r_V1W dd_Mod_asks_5 ml_Mod_62 ok_Mod_taken vi_Mod_taken vk_219 (by decide) (clS rfl (Nat.le_refl _) (rmOK_self _ _)) rfl ht ?_
  try simp only [setO_at, setO_ss, upM_on, so_219, so_221, so_222, so_223, so_224, so_225, uo_219, uo_221, uo_222, uo_223, uo_224, uo_225, upM_eq, upM_uu, t221_219, t221_220, t221_222, t221_223, t221_224, t221_225, v221, t222_219, t222_220, t222_221, t222_223, t222_224, t222_225, v222, t223_219, t223_220, t223_221, t223_222, t223_224, t223_225, v223, w_220, w_221, w_222, w_223, w_224, w_225]
  refine r_istoren (L' := [_, _, _, _]) dd_Mod_asks_8 rfl rfl ?_
  refine r_aloadn dd_Mod_asks_9 rfl ?_
  refine r_getR dd_Mod_asks_10 fl_Mod_7 (kI := 0) rfl fr_Mod_0 vk_219 R0_219_0 ?_
  refine r_sip dd_Mod_asks_13 ⟨by decide, by decide⟩ ?_
  refine r_iloadn dd_Mod_asks_16 rfl ?_
  refine r_iadd dd_Mod_asks_17 ⟨by omega, by omega⟩ ?_
  refine r_aloadn dd_Mod_asks_18 rfl ?_
  refine r_getR dd_Mod_asks_19 fl_Mod_7 (kI := 0) rfl fr_Mod_0 vk_219 R0_219_0 ?_
  refine r_sip dd_Mod_asks_22 ⟨by decide, by decide⟩ ?_
  refine r_iald dd_Mod_asks_25 (q := 12) (by decide) vk_220 (by omega) (by show _ < ((472 : Nat) : Int); omega) ?_
  try simp only [setO_at, setO_ss, upM_on, so_219, so_221, so_222, so_223, so_224, so_225, uo_219, uo_221, uo_222, uo_223, uo_224, uo_225, upM_eq, upM_uu, t221_219, t221_220, t221_222, t221_223, t221_224, t221_225, v221, t222_219, t222_220, t222_221, t222_223, t222_224, t222_225, v222, t223_219, t223_220, t223_221, t223_222, t223_224, t223_225, v223, w_220, w_221, w_222, w_223, w_224, w_225]
  rw [e1 471 (by decide)]
  refine r_iast dd_Mod_asks_26 (q := 12) (by decide) vk_220 (by omega) (by show _ < ((472 : Nat) : Int); omega) ?_
  try simp only [setO_at, setO_ss, upM_on, so_219, so_221, so_222, so_223, so_224, so_225, uo_219, uo_221, uo_222, uo_223, uo_224, uo_225, upM_eq, upM_uu, t221_219, t221_220, t221_222, t221_223, t221_224, t221_225, v221, t222_219, t222_220, t222_221, t222_223, t222_224, t222_225, v222, t223_219, t223_220, t223_221, t223_222, t223_224, t223_225, v223, w_220, w_221, w_222, w_223, w_224, w_225]
  refine r_aloadn dd_Mod_asks_27 rfl ?_
  refine r_getR dd_Mod_asks_28 fl_Mod_7 (kI := 0) rfl fr_Mod_0 vk_219 R0_219_0 ?_
  refine r_sip dd_Mod_asks_31 ⟨by decide, by decide⟩ ?_
  refine r_iloadn dd_Mod_asks_34 rfl ?_
  refine r_iadd dd_Mod_asks_35 ⟨by omega, by omega⟩ ?_
  refine r_iloadn dd_Mod_asks_36 rfl ?_
  refine r_iast dd_Mod_asks_37 (q := 12) (by decide) vk_220 (by omega) (by show _ < ((472 : Nat) : Int); omega) ?_
  try simp only [setO_at, setO_ss, upM_on, so_219, so_221, so_222, so_223, so_224, so_225, uo_219, uo_221, uo_222, uo_223, uo_224, uo_225, upM_eq, upM_uu, t221_219, t221_220, t221_222, t221_223, t221_224, t221_225, v221, t222_219, t222_220, t222_221, t222_223, t222_224, t222_225, v222, t223_219, t223_220, t223_221, t223_222, t223_224, t223_225, v223, w_220, w_221, w_222, w_223, w_224, w_225]
  refine r_aloadn dd_Mod_asks_38 rfl ?_
  refine r_getR dd_Mod_asks_39 fl_Mod_7 (kI := 0) rfl fr_Mod_0 vk_219 R0_219_0 ?_
  refine r_sip dd_Mod_asks_42 ⟨by decide, by decide⟩ ?_
  refine r_iloadn dd_Mod_asks_45 rfl ?_
  refine r_iadd dd_Mod_asks_46 ⟨by omega, by omega⟩ ?_
  refine r_iloadn dd_Mod_asks_47 rfl ?_
  refine r_iast dd_Mod_asks_48 (q := 12) (by decide) vk_220 (by omega) (by show _ < ((472 : Nat) : Int); omega) ?_
  try simp only [setO_at, setO_ss, upM_on, so_219, so_221, so_222, so_223, so_224, so_225, uo_219, uo_221, uo_222, uo_223, uo_224, uo_225, upM_eq, upM_uu, t221_219, t221_220, t221_222, t221_223, t221_224, t221_225, v221, t222_219, t222_220, t222_221, t222_223, t222_224, t222_225, v222, t223_219, t223_220, t223_221, t223_222, t223_224, t223_225, v223, w_220, w_221, w_222, w_223, w_224, w_225]
  refine r_aloadn dd_Mod_asks_49 rfl ?_
  refine r_getR dd_Mod_asks_50 fl_Mod_7 (kI := 0) rfl fr_Mod_0 vk_219 R0_219_0 ?_
  refine r_sip dd_Mod_asks_53 ⟨by decide, by decide⟩ ?_
  refine r_iloadn dd_Mod_asks_56 rfl ?_
  refine r_iadd dd_Mod_asks_57 ⟨by omega, by omega⟩ ?_
  refine r_aloadn dd_Mod_asks_58 rfl ?_
  refine r_getR dd_Mod_asks_59 fl_Mod_7 (kI := 0) rfl fr_Mod_0 vk_219 R0_219_0 ?_
  refine r_sip dd_Mod_asks_62 ⟨by decide, by decide⟩ ?_
  refine r_iald dd_Mod_asks_65 (q := 12) (by decide) vk_220 (by omega) (by show _ < ((472 : Nat) : Int); omega) ?_
  try simp only [setO_at, setO_ss, upM_on, so_219, so_221, so_222, so_223, so_224, so_225, uo_219, uo_221, uo_222, uo_223, uo_224, uo_225, upM_eq, upM_uu, t221_219, t221_220, t221_222, t221_223, t221_224, t221_225, v221, t222_219, t222_220, t222_221, t222_223, t222_224, t222_225, v222, t223_219, t223_220, t223_221, t223_222, t223_224, t223_225, v223, w_220, w_221, w_222, w_223, w_224, w_225]
  rw [up1_ne (by omega), up1_ne (by omega), up1_ne (by omega), e1 466 (by decide)]
  refine r_iast dd_Mod_asks_66 (q := 12) (by decide) vk_220 (by omega) (by show _ < ((472 : Nat) : Int); omega) ?_
  try simp only [setO_at, setO_ss, upM_on, so_219, so_221, so_222, so_223, so_224, so_225, uo_219, uo_221, uo_222, uo_223, uo_224, uo_225, upM_eq, upM_uu, t221_219, t221_220, t221_222, t221_223, t221_224, t221_225, v221, t222_219, t222_220, t222_221, t222_223, t222_224, t222_225, v222, t223_219, t223_220, t223_221, t223_222, t223_224, t223_225, v223, w_220, w_221, w_222, w_223, w_224, w_225]
  refine r_aloadn dd_Mod_asks_67 rfl ?_
  refine r_getR dd_Mod_asks_68 fl_Mod_7 (kI := 0) rfl fr_Mod_0 vk_219 R0_219_0 ?_
  refine r_sip dd_Mod_asks_71 ⟨by decide, by decide⟩ ?_
  refine r_dup2 dd_Mod_asks_74 ?_
  refine r_iald dd_Mod_asks_75 (q := 12) (by decide) vk_220 (by omega) (by show _ < ((472 : Nat) : Int); omega) ?_
  try simp only [setO_at, setO_ss, upM_on, so_219, so_221, so_222, so_223, so_224, so_225, uo_219, uo_221, uo_222, uo_223, uo_224, uo_225, upM_eq, upM_uu, t221_219, t221_220, t221_222, t221_223, t221_224, t221_225, v221, t222_219, t222_220, t222_221, t222_223, t222_224, t222_225, v222, t223_219, t223_220, t223_221, t223_222, t223_224, t223_225, v223, w_220, w_221, w_222, w_223, w_224, w_225]
  rw [up1_ne (by omega), up1_ne (by omega), up1_ne (by omega), up1_ne (by omega), e1 471 (by decide)]
  refine r_iconst dd_Mod_asks_76 ⟨by decide, by decide⟩ ?_
  refine r_iadd dd_Mod_asks_77 ⟨by omega, by omega⟩ ?_
  refine r_iast dd_Mod_asks_78 (q := 12) (by decide) vk_220 (by omega) (by show _ < ((472 : Nat) : Int); omega) ?_
  try simp only [setO_at, setO_ss, upM_on, so_219, so_221, so_222, so_223, so_224, so_225, uo_219, uo_221, uo_222, uo_223, uo_224, uo_225, upM_eq, upM_uu, t221_219, t221_220, t221_222, t221_223, t221_224, t221_225, v221, t222_219, t222_220, t222_221, t222_223, t222_224, t222_225, v222, t223_219, t223_220, t223_221, t223_222, t223_224, t223_225, v223, w_220, w_221, w_222, w_223, w_224, w_225]
  refine r_aloadn dd_Mod_asks_79 rfl ?_
  refine r_getR dd_Mod_asks_80 fl_Mod_7 (kI := 0) rfl fr_Mod_0 vk_219 R0_219_0 ?_
  refine r_sip dd_Mod_asks_83 ⟨by decide, by decide⟩ ?_
  refine r_iald dd_Mod_asks_86 (q := 12) (by decide) vk_220 (by omega) (by show _ < ((472 : Nat) : Int); omega) ?_
  try simp only [setO_at, setO_ss, upM_on, so_219, so_221, so_222, so_223, so_224, so_225, uo_219, uo_221, uo_222, uo_223, uo_224, uo_225, upM_eq, upM_uu, t221_219, t221_220, t221_222, t221_223, t221_224, t221_225, v221, t222_219, t222_220, t222_221, t222_223, t222_224, t222_225, v222, t223_219, t223_220, t223_221, t223_222, t223_224, t223_225, v223, w_220, w_221, w_222, w_223, w_224, w_225]
  rw [up1_at]
  refine r_iconst dd_Mod_asks_87 ⟨by decide, by decide⟩ ?_
  refine r_isub dd_Mod_asks_88 ⟨by omega, by omega⟩ ?_
  exact r_retI dd_Mod_asks_89 (by first | rfl | omega | exact (b2_t (by first | assumption | omega)).symm | exact (b2_f (by first | assumption | omega)).symm) rfl
