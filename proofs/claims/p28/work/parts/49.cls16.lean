/-! the class: takeLeaksBack, copying -/
theorem c_Sta_takeLeaksBack_e {μ : Int → Int → Int} {K : Int} {m : Int → Int} (hR : RI K μ m) (hK : K + 320 ≤ 500000000) (h : lksM m 6 = 0) : MetC mi_Sta_takeLeaksBack [vR 1] (st μ) (some (vI (-5))) (st (μ)) := by
  refine met_of ?_ (Nat.le_of_ble_eq_true rfl) (by decide) trivial (by decide) (Nat.le_of_ble_eq_true rfl)
  show SPW mi_Sta_takeLeaksBack 219 0 [some (vR 1), none, none, none, none, none] [] (st μ) (some (vI (-5))) (st (μ))
  refine r_iconst dd_Sta_takeLeaksBack_0 ⟨by decide, by decide⟩ ?_
  refine r_istoren (L' := [_, _, _, _, _, _]) dd_Sta_takeLeaksBack_1 rfl rfl ?_
  refine r_aloadn dd_Sta_takeLeaksBack_2 rfl ?_
  refine r_getR dd_Sta_takeLeaksBack_3 fl_Sta_11 (kI := 0) rfl fr_Sta_0 vk_1 R0_1_0 ?_
  refine r_astoren (L' := [_, _, _, _, _, _]) dd_Sta_takeLeaksBack_6 rfl rfl ?_
  refine r_aloadn dd_Sta_takeLeaksBack_7 rfl ?_
  refine r_alen dd_Sta_takeLeaksBack_8 (q := 17) (n := 16) (by decide) vk_2 rfl ⟨by decide, by decide⟩ ?_
  refine r_istoren (L' := [_, _, _, _, _, _]) dd_Sta_takeLeaksBack_9 rfl rfl ?_
  refine r_iconst dd_Sta_takeLeaksBack_10 ⟨by decide, by decide⟩ ?_
  refine r_istore (L' := [_, _, _, _, _, _]) dd_Sta_takeLeaksBack_11 rfl rfl ?_
  have k2 := l_Sta_tlb (μ := μ) 16 μ m 0 0 K rfl (Int.le_refl _) hR (by omega) ⟨Int.le_refl _, Int.le_refl _⟩
  rw [show (4 : Nat) * 16 = 64 from rfl, show (4 : Int) * 0 = 0 from rfl, Int.zero_add] at k2
  rw [(sw_none 64 0 m (fun u a b => lks_no h u a (by omega))).2, if_pos rfl, slC_none 16 0 μ m (fun u a b => lks_no h (4 * u) (by omega) (by omega))] at k2
  exact k2
theorem c_Sta_takeLeaksBack_o {μ : Int → Int → Int} {K : Int} {m : Int → Int} (hR : RI K μ m) (hK : K + 320 ≤ 500000000) (h : lksM m 6 ≠ 0) : MetC mi_Sta_takeLeaksBack [vR 1] (st μ) (some (vI (swN 64 0 m))) (st (slC 16 0 μ m)) := by
  refine met_of ?_ (Nat.le_of_ble_eq_true rfl) (by decide) trivial (by decide) (Nat.le_of_ble_eq_true rfl)
  show SPW mi_Sta_takeLeaksBack 219 0 [some (vR 1), none, none, none, none, none] [] (st μ) (some (vI (swN 64 0 m))) (st (slC 16 0 μ m))
  refine r_iconst dd_Sta_takeLeaksBack_0 ⟨by decide, by decide⟩ ?_
  refine r_istoren (L' := [_, _, _, _, _, _]) dd_Sta_takeLeaksBack_1 rfl rfl ?_
  refine r_aloadn dd_Sta_takeLeaksBack_2 rfl ?_
  refine r_getR dd_Sta_takeLeaksBack_3 fl_Sta_11 (kI := 0) rfl fr_Sta_0 vk_1 R0_1_0 ?_
  refine r_astoren (L' := [_, _, _, _, _, _]) dd_Sta_takeLeaksBack_6 rfl rfl ?_
  refine r_aloadn dd_Sta_takeLeaksBack_7 rfl ?_
  refine r_alen dd_Sta_takeLeaksBack_8 (q := 17) (n := 16) (by decide) vk_2 rfl ⟨by decide, by decide⟩ ?_
  refine r_istoren (L' := [_, _, _, _, _, _]) dd_Sta_takeLeaksBack_9 rfl rfl ?_
  refine r_iconst dd_Sta_takeLeaksBack_10 ⟨by decide, by decide⟩ ?_
  refine r_istore (L' := [_, _, _, _, _, _]) dd_Sta_takeLeaksBack_11 rfl rfl ?_
  have k2 := l_Sta_tlb (μ := μ) 16 μ m 0 0 K rfl (Int.le_refl _) hR (by omega) ⟨Int.le_refl _, Int.le_refl _⟩
  rw [show (4 : Nat) * 16 = 64 from rfl, show (4 : Int) * 0 = 0 from rfl, Int.zero_add] at k2
  rw [if_neg (lks_yes h)] at k2
  exact k2
