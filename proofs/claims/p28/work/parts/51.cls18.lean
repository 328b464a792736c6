/-! the class: copyFrom -/
theorem cT_c {μ : Int → Int → Int} {b c i t k : Int} (hd : b + 26 ≤ c ∨ c + 26 ≤ b) (h0 : 0 ≤ t) (h1 : t < 6) (h2 : i ≤ 6) : cT μ b c i (c + 20 + t) k = μ (c + 20 + t) k := if_neg (by omega)
theorem cpB_c {μ : Int → Int → Int} {b c t k : Int} (hd : b + 26 ≤ c ∨ c + 26 ≤ b) (h0 : 0 ≤ t) (h1 : t < 6) : cpA (cB μ b c 16) (c + 18) (b + 18) 64 (c + 20 + t) k = μ (c + 20 + t) k := by
  unfold cpA cB
  rw [if_neg (by omega), if_neg (by omega)]

theorem l_Sta_cp2 {μ : Int → Int → Int} {b c : Int} (hb : stB b) (hc : stB c) (hd : b + 26 ≤ c ∨ c + 26 ≤ b) (hal : ∀ t, 0 ≤ t → t < 6 → μ (c + 20 + t) 0 = 0 ∨ μ (c + 20 + t) 0 = 1) : ∀ (n : Nat) (i : Int), (i + n = 6) → (0 ≤ i) → SPW mi_Sta_copyFrom 219 46 [some (vR b), some (vR c), some (vI i)] [] (st (cT μ b c i)) (none) (st (cF (cF (cF (cF (cF (cF (cT μ b c 6) b c 3) b c 4) b c 5) b c 6) b c 7) b c 8)) := by
  intro n
  induction n with
  | zero =>
    intro i hi h0
    obtain rfl : i = 6 := by omega
    refine r_iloadn dd_Sta_copyFrom_46 rfl ?_
    refine r_bip dd_Sta_copyFrom_47 ⟨by decide, by decide⟩ ?_
    refine r_icmp_ge dd_Sta_copyFrom_49 (fun c_49 => ?_) (fun c_49 => ?_)
    · refine r_aloadn dd_Sta_copyFrom_73 rfl ?_
      refine r_aloadn dd_Sta_copyFrom_74 rfl ?_
      refine r_getI dd_Sta_copyFrom_75 fl_Sta_48 (kI := 3) rfl fi_Sta_3 (vk_st hc) ?_
      refine r_putI dd_Sta_copyFrom_78 fl_Sta_48 (kI := 3) rfl fc_Sta_3 ff_Sta_3 (pi_Sta_3 _) (vk_st hb) ?_
      refine r_aloadn dd_Sta_copyFrom_81 rfl ?_
      refine r_aloadn dd_Sta_copyFrom_82 rfl ?_
      refine r_getI dd_Sta_copyFrom_83 fl_Sta_31 (kI := 4) rfl fi_Sta_4 (vk_st hc) ?_
      refine r_putI dd_Sta_copyFrom_86 fl_Sta_31 (kI := 4) rfl fc_Sta_4 ff_Sta_4 (pi_Sta_4 _) (vk_st hb) ?_
      refine r_aloadn dd_Sta_copyFrom_89 rfl ?_
      refine r_aloadn dd_Sta_copyFrom_90 rfl ?_
      refine r_getI dd_Sta_copyFrom_91 fl_Sta_51 (kI := 5) rfl fi_Sta_5 (vk_st hc) ?_
      refine r_putI dd_Sta_copyFrom_94 fl_Sta_51 (kI := 5) rfl fc_Sta_5 ff_Sta_5 (pi_Sta_5 _) (vk_st hb) ?_
      refine r_aloadn dd_Sta_copyFrom_97 rfl ?_
      refine r_aloadn dd_Sta_copyFrom_98 rfl ?_
      refine r_getI dd_Sta_copyFrom_99 fl_Sta_54 (kI := 6) rfl fi_Sta_6 (vk_st hc) ?_
      refine r_putI dd_Sta_copyFrom_102 fl_Sta_54 (kI := 6) rfl fc_Sta_6 ff_Sta_6 (pi_Sta_6 _) (vk_st hb) ?_
      refine r_aloadn dd_Sta_copyFrom_105 rfl ?_
      refine r_aloadn dd_Sta_copyFrom_106 rfl ?_
      refine r_getI dd_Sta_copyFrom_107 fl_Sta_57 (kI := 7) rfl fi_Sta_7 (vk_st hc) ?_
      refine r_putI dd_Sta_copyFrom_110 fl_Sta_57 (kI := 7) rfl fc_Sta_7 ff_Sta_7 (pi_Sta_7 _) (vk_st hb) ?_
      refine r_aloadn dd_Sta_copyFrom_113 rfl ?_
      refine r_aloadn dd_Sta_copyFrom_114 rfl ?_
      refine r_getI dd_Sta_copyFrom_115 fl_Sta_60 (kI := 8) rfl fi_Sta_8 (vk_st hc) ?_
      refine r_putI dd_Sta_copyFrom_118 fl_Sta_60 (kI := 8) rfl fc_Sta_8 ff_Sta_8 (pi_Sta_8 _) (vk_st hb) ?_
      exact r_retV dd_Sta_copyFrom_121 rfl
    · exfalso; omega
  | succ n ih =>
    intro i hi h0
    refine r_iloadn dd_Sta_copyFrom_46 rfl ?_
    refine r_bip dd_Sta_copyFrom_47 ⟨by decide, by decide⟩ ?_
    refine r_icmp_ge dd_Sta_copyFrom_49 (fun c_49 => ?_) (fun c_49 => ?_)
    · exfalso; omega
    · refine r_aloadn dd_Sta_copyFrom_52 rfl ?_
      refine r_getR dd_Sta_copyFrom_53 fl_Sta_26 (kI := 2) rfl fr_Sta_2 (vk_st hb) (R0_s2 hb) ?_
      refine r_iloadn dd_Sta_copyFrom_56 rfl ?_
      refine r_aald dd_Sta_copyFrom_57 (q := 18) (by decide) (vk_j (j := 19) hb (by decide) (by decide) rfl) (by omega) (by show _ < ((6 : Nat) : Int); omega) (R0_t hb) ?_
      refine r_aloadn dd_Sta_copyFrom_58 rfl ?_
      refine r_getR dd_Sta_copyFrom_59 fl_Sta_26 (kI := 2) rfl fr_Sta_2 (vk_st hc) (R0_s2 hc) ?_
      refine r_iloadn dd_Sta_copyFrom_62 rfl ?_
      refine r_aald dd_Sta_copyFrom_63 (q := 18) (by decide) (vk_j (j := 19) hc (by decide) (by decide) rfl) (by omega) (by show _ < ((6 : Nat) : Int); omega) (R0_t hc) ?_
      refine r_V1N dd_Sta_copyFrom_64 ml_Sta_45 ok_Tsk_copyFrom vi_Tsk_copyFrom (vk_t hb (by omega) (by omega)) (by decide) (clS rfl (Nat.le_refl _) (rmOK_self _ _)) rfl (c_Tsk_copyFrom (vk_t hb (by omega) (by omega)) (vk_t hc (by omega) (by omega)) (by omega) (by rw [cT_c hd h0 (by omega) (by omega)]; exact hal i h0 (by omega))) ?_
      refine r_iinc (L' := [_, _, _]) dd_Sta_copyFrom_67 rfl ⟨by omega, by omega⟩ rfl ?_
      refine r_goto dd_Sta_copyFrom_70 ?_
      rw [cT_s hd h0 (by omega)]
      exact ih (i + 1) (by omega) (by omega)
theorem l_Sta_cp1 {μ : Int → Int → Int} {b c : Int} (hb : stB b) (hc : stB c) (hd : b + 26 ≤ c ∨ c + 26 ≤ b) (hal : ∀ t, 0 ≤ t → t < 6 → μ (c + 20 + t) 0 = 0 ∨ μ (c + 20 + t) 0 = 1) : ∀ (n : Nat) (i : Int), (i + n = 16) → (0 ≤ i) → SPW mi_Sta_copyFrom 219 2 [some (vR b), some (vR c), some (vI i)] [] (st (cB μ b c i)) (none) (st (cS μ b c)) := by
  intro n
  induction n with
  | zero =>
    intro i hi h0
    obtain rfl : i = 16 := by omega
    refine r_iloadn dd_Sta_copyFrom_2 rfl ?_
    refine r_bip dd_Sta_copyFrom_3 ⟨by decide, by decide⟩ ?_
    refine r_icmp_ge dd_Sta_copyFrom_5 (fun c_5 => ?_) (fun c_5 => ?_)
    · refine r_aloadn dd_Sta_copyFrom_29 rfl ?_
      refine r_getR dd_Sta_copyFrom_30 fl_Sta_20 (kI := 1) rfl fr_Sta_1 (vk_st hc) (R0_s1 hc) ?_
      refine r_iconst dd_Sta_copyFrom_33 ⟨by decide, by decide⟩ ?_
      refine r_aloadn dd_Sta_copyFrom_34 rfl ?_
      refine r_getR dd_Sta_copyFrom_35 fl_Sta_20 (kI := 1) rfl fr_Sta_1 (vk_st hb) (R0_s1 hb) ?_
      refine r_iconst dd_Sta_copyFrom_38 ⟨by decide, by decide⟩ ?_
      refine r_bip dd_Sta_copyFrom_39 ⟨by decide, by decide⟩ ?_
      refine r_copy dd_Sta_copyFrom_41 ml_Sta_39 (q := 10) (q1 := 10) (by decide) (vk_j (j := 18) hc (by decide) (by decide) rfl) (vk_j (j := 18) hb (by decide) (by decide) rfl) (by decide) (by decide) ?_
      refine r_iconst dd_Sta_copyFrom_44 ⟨by decide, by decide⟩ ?_
      refine r_istoren (L' := [_, _, _]) dd_Sta_copyFrom_45 rfl rfl ?_
      have k2 := l_Sta_cp2 (μ := cpA (cB μ b c 16) (c + 18) (b + 18) 64) hb hc hd (fun t a e => by rw [cpB_c hd a e]; exact hal t a e) 6 0 rfl (Int.le_refl _)
      rw [cT_0] at k2
      exact k2
    · exfalso; omega
  | succ n ih =>
    intro i hi h0
    refine r_iloadn dd_Sta_copyFrom_2 rfl ?_
    refine r_bip dd_Sta_copyFrom_3 ⟨by decide, by decide⟩ ?_
    refine r_icmp_ge dd_Sta_copyFrom_5 (fun c_5 => ?_) (fun c_5 => ?_)
    · exfalso; omega
    · refine r_aloadn dd_Sta_copyFrom_8 rfl ?_
      refine r_getR dd_Sta_copyFrom_9 fl_Sta_11 (kI := 0) rfl fr_Sta_0 (vk_st hb) (R0_s0 hb) ?_
      refine r_iloadn dd_Sta_copyFrom_12 rfl ?_
      refine r_aald dd_Sta_copyFrom_13 (q := 17) (by decide) (vk_j (j := 1) hb (by decide) (by decide) rfl) (by omega) (by show _ < ((16 : Nat) : Int); omega) (R0_b hb) ?_
      refine r_aloadn dd_Sta_copyFrom_14 rfl ?_
      refine r_getR dd_Sta_copyFrom_15 fl_Sta_11 (kI := 0) rfl fr_Sta_0 (vk_st hc) (R0_s0 hc) ?_
      refine r_iloadn dd_Sta_copyFrom_18 rfl ?_
      refine r_aald dd_Sta_copyFrom_19 (q := 17) (by decide) (vk_j (j := 1) hc (by decide) (by decide) rfl) (by omega) (by show _ < ((16 : Nat) : Int); omega) (R0_b hc) ?_
      refine r_V1N dd_Sta_copyFrom_20 ml_Sta_35 ok_Blk_copyFrom vi_Blk_copyFrom (vk_b hb (by omega) (by omega)) (by decide) (clS rfl (Nat.le_refl _) (rmOK_self _ _)) rfl (c_Blk_copyFrom (vk_b hb (by omega) (by omega)) (vk_b hc (by omega) (by omega)) (by omega)) ?_
      refine r_iinc (L' := [_, _, _]) dd_Sta_copyFrom_23 rfl ⟨by omega, by omega⟩ rfl ?_
      refine r_goto dd_Sta_copyFrom_26 ?_
      rw [cB_s hd h0 (by omega)]
      exact ih (i + 1) (by omega) (by omega)
theorem c_Sta_copyFrom {μ : Int → Int → Int} {b c : Int} (hb : stB b) (hc : stB c) (hd : b + 26 ≤ c ∨ c + 26 ≤ b) (hal : ∀ t, 0 ≤ t → t < 6 → μ (c + 20 + t) 0 = 0 ∨ μ (c + 20 + t) 0 = 1) : MetC mi_Sta_copyFrom [vR (b), vR c] (st μ) (none) (st (cS μ b c)) := by
  refine met_of ?_ (Nat.le_of_ble_eq_true rfl) (by decide) trivial (by decide) (Nat.le_of_ble_eq_true rfl)
  show SPW mi_Sta_copyFrom 219 0 [some (vR (b)), some (vR c), none] [] (st μ) (none) (st (cS μ b c))
  refine r_iconst dd_Sta_copyFrom_0 ⟨by decide, by decide⟩ ?_
  refine r_istoren (L' := [_, _, _]) dd_Sta_copyFrom_1 rfl rfl ?_
  have k2 := l_Sta_cp1 (μ := μ) hb hc hd hal 16 0 rfl (Int.le_refl _)
  rw [cB_0] at k2
  exact k2
