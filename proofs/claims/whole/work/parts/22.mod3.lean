/-! the reference: the rest of what only reads -/
theorem lkF_rg (m : Int → Int) (rank : Int) : lkF m rank = -5 ∨ (0 ≤ lkF m rank ∧ lkF m rank < 64) := by
  rcases fstF_rg (p := fun w => lkM m w ∧ ahdM m w = rank) 64 0 with h | ⟨h1, h2, h3⟩
  · exact Or.inl h
  · exact Or.inr ⟨h1, h2⟩

theorem l_Mod_leak {μ : Int → Int → Int} {K rank : Int} (hW : MW K (μ 220)) : ∀ (n : Nat) (w : Int), (w + n = 64) → (0 ≤ w) → SPW mi_Mod_leak 226 9 [some (vR 219), some (vI rank), some (vI w)] [] (st (μ)) (some (vI (if fstF (fun w => lkM (μ 220) w ∧ ahdM (μ 220) w = rank) (n) w = -5 then -5 else μ 220 (192 + fstF (fun w => lkM (μ 220) w ∧ ahdM (μ 220) w = rank) (n) w)))) (st (μ)) := by
  intro n
  induction n with
  | zero =>
    intro w h0 h1
    refine r_iloadn dd_Mod_leak_9 rfl ?_
    refine r_bip dd_Mod_leak_10 ⟨by decide, by decide⟩ ?_
    refine r_icmp_ge dd_Mod_leak_12 (fun c_12 => ?_) (fun c_12 => ?_)
    · refine r_bip dd_Mod_leak_49 ⟨by decide, by decide⟩ ?_
      exact r_retI dd_Mod_leak_51 (by first | rfl | (rw [fstF_y (by omega), if_neg (by omega)])) rfl
    · exfalso; omega
  | succ n ih =>
    intro w h0 h1
    refine r_iloadn dd_Mod_leak_9 rfl ?_
    refine r_bip dd_Mod_leak_10 ⟨by decide, by decide⟩ ?_
    refine r_icmp_ge dd_Mod_leak_12 (fun c_12 => ?_) (fun c_12 => ?_)
    · exfalso; omega
    · refine r_aloadn dd_Mod_leak_15 rfl ?_
      refine r_iloadn dd_Mod_leak_16 rfl ?_
      refine r_V1W dd_Mod_leak_17 ml_Mod_68 ok_Mod_isLeak vi_Mod_isLeak vk_219 (by decide) (clS rfl (Nat.le_refl _) (rmOK_self _ _)) rfl (c_Mod_isLeak hW (by omega) (by omega)) ?_
      refine r_if_eq_b dd_Mod_leak_20 (fun c_20 => ?_) (fun c_20 => ?_)
      · refine r_iinc (L' := [_, _, _]) dd_Mod_leak_43 rfl ⟨by omega, by omega⟩ rfl ?_
        refine r_goto dd_Mod_leak_46 ?_
        refine r_eqr (by rw [fstF_n (by omega)]) (ih (w + 1) (by omega) (by omega))
      · refine r_aloadn dd_Mod_leak_23 rfl ?_
        refine r_iloadn dd_Mod_leak_24 rfl ?_
        refine r_V1W dd_Mod_leak_25 ml_Mod_174 ok_Mod_ahead vi_Mod_ahead vk_219 (by decide) (clS rfl (Nat.le_refl _) (rmOK_self _ _)) rfl (c_Mod_ahead hW (by omega) (by omega)) ?_
        refine r_iloadn dd_Mod_leak_28 rfl ?_
        refine r_icmp_ne dd_Mod_leak_29 (fun c_29 => ?_) (fun c_29 => ?_)
        · refine r_iinc (L' := [_, _, _]) dd_Mod_leak_43 rfl ⟨by omega, by omega⟩ rfl ?_
          refine r_goto dd_Mod_leak_46 ?_
          refine r_eqr (by rw [fstF_n (by omega)]) (ih (w + 1) (by omega) (by omega))
        · refine r_aloadn dd_Mod_leak_32 rfl ?_
          refine r_getR dd_Mod_leak_33 fl_Mod_7 (kI := 0) rfl fr_Mod_0 vk_219 R0_219_0 ?_
          refine r_sip dd_Mod_leak_36 ⟨by decide, by decide⟩ ?_
          refine r_iloadn dd_Mod_leak_39 rfl ?_
          refine r_iadd dd_Mod_leak_40 ⟨by omega, by omega⟩ ?_
          refine r_iald dd_Mod_leak_41 (q := 12) (by decide) vk_220 (by omega) (by show _ < ((472 : Nat) : Int); omega) ?_
          exact r_retI dd_Mod_leak_42 (by first | rfl | (rw [fstF_y (by omega), if_neg (by omega)])) rfl
theorem c_Mod_leak {μ : Int → Int → Int} {K rank : Int} (hW : MW K (μ 220)) : MetC mi_Mod_leak [vR 219, vI rank] (st μ) (some (vI (leakS (μ 220) rank))) (st (μ)) := by
  refine met_of ?_ (Nat.le_of_ble_eq_true rfl) (by decide) trivial (by decide) (Nat.le_of_ble_eq_true rfl)
  show SPW mi_Mod_leak 226 0 [some (vR 219), some (vI rank), none] [] (st μ) (some (vI (leakS (μ 220) rank))) (st (μ))
  refine r_iloadn dd_Mod_leak_0 rfl ?_
  refine r_if_ge dd_Mod_leak_1 (fun c_1 => ?_) (fun c_1 => ?_)
  · refine r_iconst dd_Mod_leak_7 ⟨by decide, by decide⟩ ?_
    refine r_istoren (L' := [_, _, _]) dd_Mod_leak_8 rfl rfl ?_
    exact r_eqr (by unfold leakS; rw [if_neg (show ¬ rank < 0 by omega)]; rfl) (l_Mod_leak hW 64 0 (by decide) (by decide))
  · refine r_bip dd_Mod_leak_4 ⟨by decide, by decide⟩ ?_
    exact r_retI dd_Mod_leak_6 (by unfold leakS; (repeat (first | rw [if_pos (by omega)] | rw [if_neg (by omega)])); first | done | omega | (congr 1; omega) | exact (b2_t (by first | assumption | omega)).symm | exact (b2_f (by first | assumption | omega)).symm) rfl
theorem c_Mod_refused {μ : Int → Int → Int} {reason : Int} : MetC mi_Mod_refused [vR 219, vI reason] (st μ) (some (vI (if 1 ≤ reason ∧ reason ≤ 3 then μ 224 reason else -2))) (st (μ)) := by
  refine met_of ?_ (Nat.le_of_ble_eq_true rfl) (by decide) trivial (by decide) (Nat.le_of_ble_eq_true rfl)
  show SPW mi_Mod_refused 226 0 [some (vR 219), some (vI reason)] [] (st μ) (some (vI (if 1 ≤ reason ∧ reason ≤ 3 then μ 224 reason else -2))) (st (μ))
  refine r_iloadn dd_Mod_refused_0 rfl ?_
  refine r_iconst dd_Mod_refused_1 ⟨by decide, by decide⟩ ?_
  refine r_iconst dd_Mod_refused_2 ⟨by decide, by decide⟩ ?_
  refine r_S3W dd_Mod_refused_3 ml_Mod_35 ok_Mod_in st_Mod_in (clS rfl (Nat.le_refl _) (rmOK_self _ _)) rfl c_Mod_in ?_
  refine r_if_eq_b dd_Mod_refused_6 (fun c_6 => ?_) (fun c_6 => ?_)
  · refine r_bip dd_Mod_refused_18 ⟨by decide, by decide⟩ ?_
    exact r_retI dd_Mod_refused_20 (by (repeat (first | rw [if_pos (by omega)] | rw [if_neg (by omega)])); first | done | omega | (congr 1; omega) | exact (b2_t (by first | assumption | omega)).symm | exact (b2_f (by first | assumption | omega)).symm) rfl
  · refine r_aloadn dd_Mod_refused_9 rfl ?_
    refine r_getR dd_Mod_refused_10 fl_Mod_22 (kI := 6) rfl fr_Mod_6 vk_219 R0_219_6 ?_
    refine r_iloadn dd_Mod_refused_13 rfl ?_
    refine r_iald dd_Mod_refused_14 (q := 14) (by decide) vk_224 (by omega) (by show _ < ((4 : Nat) : Int); omega) ?_
    refine r_goto dd_Mod_refused_15 ?_
    exact r_retI dd_Mod_refused_20 (by (repeat (first | rw [if_pos (by omega)] | rw [if_neg (by omega)])); first | done | omega | (congr 1; omega) | exact (b2_t (by first | assumption | omega)).symm | exact (b2_f (by first | assumption | omega)).symm) rfl
theorem c_Mod_stopped {μ : Int → Int → Int} {what : Int} : MetC mi_Mod_stopped [vR 219, vI what] (st μ) (some (vI (if what < 0 ∨ 1 < what then -2 else if what = 0 then μ 219 9 else μ 219 10))) (st (μ)) := by
  refine met_of ?_ (Nat.le_of_ble_eq_true rfl) (by decide) trivial (by decide) (Nat.le_of_ble_eq_true rfl)
  show SPW mi_Mod_stopped 226 0 [some (vR 219), some (vI what)] [] (st μ) (some (vI (if what < 0 ∨ 1 < what then -2 else if what = 0 then μ 219 9 else μ 219 10))) (st (μ))
  refine r_iloadn dd_Mod_stopped_0 rfl ?_
  refine r_iconst dd_Mod_stopped_1 ⟨by decide, by decide⟩ ?_
  refine r_iconst dd_Mod_stopped_2 ⟨by decide, by decide⟩ ?_
  refine r_S3W dd_Mod_stopped_3 ml_Mod_35 ok_Mod_in st_Mod_in (clS rfl (Nat.le_refl _) (rmOK_self _ _)) rfl c_Mod_in ?_
  refine r_if_ne_b dd_Mod_stopped_6 (fun c_6 => ?_) (fun c_6 => ?_)
  · refine r_iloadn dd_Mod_stopped_14 rfl ?_
    refine r_if_ne dd_Mod_stopped_15 (fun c_15 => ?_) (fun c_15 => ?_)
    · refine r_aloadn dd_Mod_stopped_25 rfl ?_
      refine r_getI dd_Mod_stopped_26 fl_Mod_32 (kI := 10) rfl fi_Mod_10 vk_219 ?_
      exact r_retI dd_Mod_stopped_29 (by (repeat (first | rw [if_pos (by omega)] | rw [if_neg (by omega)])); first | done | omega | (congr 1; omega) | exact (b2_t (by first | assumption | omega)).symm | exact (b2_f (by first | assumption | omega)).symm) rfl
    · refine r_aloadn dd_Mod_stopped_18 rfl ?_
      refine r_getI dd_Mod_stopped_19 fl_Mod_28 (kI := 9) rfl fi_Mod_9 vk_219 ?_
      refine r_goto dd_Mod_stopped_22 ?_
      exact r_retI dd_Mod_stopped_29 (by (repeat (first | rw [if_pos (by omega)] | rw [if_neg (by omega)])); first | done | omega | (congr 1; omega) | exact (b2_t (by first | assumption | omega)).symm | exact (b2_f (by first | assumption | omega)).symm) rfl
  · refine r_bip dd_Mod_stopped_9 ⟨by decide, by decide⟩ ?_
    refine r_goto dd_Mod_stopped_11 ?_
    exact r_retI dd_Mod_stopped_29 (by (repeat (first | rw [if_pos (by omega)] | rw [if_neg (by omega)])); first | done | omega | (congr 1; omega) | exact (b2_t (by first | assumption | omega)).symm | exact (b2_f (by first | assumption | omega)).symm) rfl
theorem p4_rg {z : Int} : p4 z = 4 ∨ p4 z = 8 ∨ p4 z = 16 := by
  unfold p4
  split
  · exact Or.inl rfl
  · split
    · exact Or.inr (Or.inl rfl)
    · exact Or.inr (Or.inr rfl)
theorem l_Mod_size {μ : Int → Int → Int} {K z what : Int} (hW : MW K (μ 220)) (hz : 0 ≤ z) (hz1 : z ≤ 2) : ∀ (n : Nat) (w a : Int), (w + n = 64) → (0 ≤ w) → (0 ≤ a ∧ a ≤ w) → SPW mi_Mod_size 226 16 [some (vR 219), some (vI z), some (vI what), some (vI a), some (vI w)] [] (st (μ)) (some (vI (if what = 2 then lowF (μ 220) (p4 z) else if what = 0 ∨ what = 1 then a + sumF (n) w (fun w => if μ 220 (128 + w) = p4 z ∧ ((what = 0 ∧ fre (μ 220) w) ∨ (what ≠ 0 ∧ owd (μ 220) w)) then 1 else 0) else -2))) (st (μ)) := by
  intro n
  induction n with
  | zero =>
    intro w a h0 h1 h2
    refine r_iload dd_Mod_size_16 rfl ?_
    refine r_bip dd_Mod_size_18 ⟨by decide, by decide⟩ ?_
    refine r_icmp_ge dd_Mod_size_20 (fun c_20 => ?_) (fun c_20 => ?_)
    · refine r_iloadn dd_Mod_size_79 rfl ?_
      refine r_iconst dd_Mod_size_80 ⟨by decide, by decide⟩ ?_
      refine r_icmp_ne dd_Mod_size_81 (fun c_81 => ?_) (fun c_81 => ?_)
      · refine r_iloadn dd_Mod_size_94 rfl ?_
        refine r_iconst dd_Mod_size_95 ⟨by decide, by decide⟩ ?_
        refine r_iconst dd_Mod_size_96 ⟨by decide, by decide⟩ ?_
        refine r_S3W dd_Mod_size_97 ml_Mod_35 ok_Mod_in st_Mod_in (clS rfl (Nat.le_refl _) (rmOK_self _ _)) rfl c_Mod_in ?_
        refine r_if_eq_b dd_Mod_size_100 (fun c_100 => ?_) (fun c_100 => ?_)
        · refine r_bip dd_Mod_size_107 ⟨by decide, by decide⟩ ?_
          exact r_retI dd_Mod_size_109 (by rw [sumF_0]; (repeat (first | rw [if_pos (by omega)] | rw [if_neg (by omega)])); try omega) rfl
        · refine r_iloadn dd_Mod_size_103 rfl ?_
          refine r_goto dd_Mod_size_104 ?_
          exact r_retI dd_Mod_size_109 (by rw [sumF_0]; (repeat (first | rw [if_pos (by omega)] | rw [if_neg (by omega)])); try omega) rfl
      · refine r_aloadn dd_Mod_size_84 rfl ?_
        refine r_iconst dd_Mod_size_85 ⟨by decide, by decide⟩ ?_
        refine r_iloadn dd_Mod_size_86 rfl ?_
        refine r_shl4 dd_Mod_size_87 (by omega) ?_
        refine r_V1W dd_Mod_size_88 ml_Mod_59 ok_Mod_lowestFree vi_Mod_lowestFree vk_219 (by decide) (clS rfl (Nat.le_refl _) (rmOK_self _ _)) rfl c_Mod_lowestFree ?_
        refine r_goto dd_Mod_size_91 ?_
        exact r_retI dd_Mod_size_109 (by rw [sumF_0]; (repeat (first | rw [if_pos (by omega)] | rw [if_neg (by omega)])); try omega) rfl
    · exfalso; omega
  | succ n ih =>
    intro w a h0 h1 h2
    refine r_iload dd_Mod_size_16 rfl ?_
    refine r_bip dd_Mod_size_18 ⟨by decide, by decide⟩ ?_
    refine r_icmp_ge dd_Mod_size_20 (fun c_20 => ?_) (fun c_20 => ?_)
    · exfalso; omega
    · refine r_iloadn dd_Mod_size_23 rfl ?_
      refine r_aloadn dd_Mod_size_24 rfl ?_
      refine r_getR dd_Mod_size_25 fl_Mod_7 (kI := 0) rfl fr_Mod_0 vk_219 R0_219_0 ?_
      refine r_sip dd_Mod_size_28 ⟨by decide, by decide⟩ ?_
      refine r_iload dd_Mod_size_31 rfl ?_
      refine r_iadd dd_Mod_size_33 ⟨by omega, by omega⟩ ?_
      refine r_iald dd_Mod_size_34 (q := 12) (by decide) vk_220 (by omega) (by show _ < ((472 : Nat) : Int); omega) ?_
      refine r_iconst dd_Mod_size_35 ⟨by decide, by decide⟩ ?_
      refine r_iloadn dd_Mod_size_36 rfl ?_
      refine r_shl4 dd_Mod_size_37 (by omega) ?_
      refine r_icmp_ne dd_Mod_size_38 (fun c_38 => ?_) (fun c_38 => ?_)
      · refine r_iconst dd_Mod_size_70 ⟨by decide, by decide⟩ ?_
        refine r_iadd dd_Mod_size_71 ⟨by omega, by omega⟩ ?_
        refine r_istoren (L' := [_, _, _, _, _]) dd_Mod_size_72 rfl rfl ?_
        refine r_iinc (L' := [_, _, _, _, _]) dd_Mod_size_73 rfl ⟨by omega, by omega⟩ rfl ?_
        refine r_goto dd_Mod_size_76 ?_
        refine r_eqr (by rw [sumF_s]; first | (rw [if_pos (show μ 220 (128 + w) = p4 z ∧ ((what = 0 ∧ fre (μ 220) w) ∨ (what ≠ 0 ∧ owd (μ 220) w)) by omega)]; (repeat (first | rw [if_pos (by omega)] | rw [if_neg (by omega)])); try omega) | (rw [if_neg (show ¬ (μ 220 (128 + w) = p4 z ∧ ((what = 0 ∧ fre (μ 220) w) ∨ (what ≠ 0 ∧ owd (μ 220) w))) by omega)]; (repeat (first | rw [if_pos (by omega)] | rw [if_neg (by omega)])); try omega)) (ih (w + 1) _ (by omega) (by omega) ⟨by omega, by omega⟩)
      · refine r_iloadn dd_Mod_size_41 rfl ?_
        refine r_if_ne dd_Mod_size_42 (fun c_42 => ?_) (fun c_42 => ?_)
        · refine r_aloadn dd_Mod_size_57 rfl ?_
          refine r_iload dd_Mod_size_58 rfl ?_
          refine r_V1W dd_Mod_size_60 ml_Mod_42 ok_Mod_isOwned vi_Mod_isOwned vk_219 (by decide) (clS rfl (Nat.le_refl _) (rmOK_self _ _)) rfl (c_Mod_isOwned (by omega) (by omega)) ?_
          refine r_if_eq_b dd_Mod_size_63 (fun c_63 => ?_) (fun c_63 => ?_)
          · refine r_iconst dd_Mod_size_70 ⟨by decide, by decide⟩ ?_
            refine r_iadd dd_Mod_size_71 ⟨by omega, by omega⟩ ?_
            refine r_istoren (L' := [_, _, _, _, _]) dd_Mod_size_72 rfl rfl ?_
            refine r_iinc (L' := [_, _, _, _, _]) dd_Mod_size_73 rfl ⟨by omega, by omega⟩ rfl ?_
            refine r_goto dd_Mod_size_76 ?_
            refine r_eqr (by rw [sumF_s]; first | (rw [if_pos (show μ 220 (128 + w) = p4 z ∧ ((what = 0 ∧ fre (μ 220) w) ∨ (what ≠ 0 ∧ owd (μ 220) w)) by omega)]; (repeat (first | rw [if_pos (by omega)] | rw [if_neg (by omega)])); try omega) | (rw [if_neg (show ¬ (μ 220 (128 + w) = p4 z ∧ ((what = 0 ∧ fre (μ 220) w) ∨ (what ≠ 0 ∧ owd (μ 220) w))) by omega)]; (repeat (first | rw [if_pos (by omega)] | rw [if_neg (by omega)])); try omega)) (ih (w + 1) _ (by omega) (by omega) ⟨by omega, by omega⟩)
          · refine r_iconst dd_Mod_size_66 ⟨by decide, by decide⟩ ?_
            refine r_goto dd_Mod_size_67 ?_
            refine r_iadd dd_Mod_size_71 ⟨by omega, by omega⟩ ?_
            refine r_istoren (L' := [_, _, _, _, _]) dd_Mod_size_72 rfl rfl ?_
            refine r_iinc (L' := [_, _, _, _, _]) dd_Mod_size_73 rfl ⟨by omega, by omega⟩ rfl ?_
            refine r_goto dd_Mod_size_76 ?_
            refine r_eqr (by rw [sumF_s]; first | (rw [if_pos (show μ 220 (128 + w) = p4 z ∧ ((what = 0 ∧ fre (μ 220) w) ∨ (what ≠ 0 ∧ owd (μ 220) w)) by omega)]; (repeat (first | rw [if_pos (by omega)] | rw [if_neg (by omega)])); try omega) | (rw [if_neg (show ¬ (μ 220 (128 + w) = p4 z ∧ ((what = 0 ∧ fre (μ 220) w) ∨ (what ≠ 0 ∧ owd (μ 220) w))) by omega)]; (repeat (first | rw [if_pos (by omega)] | rw [if_neg (by omega)])); try omega)) (ih (w + 1) _ (by omega) (by omega) ⟨by omega, by omega⟩)
        · refine r_aloadn dd_Mod_size_45 rfl ?_
          refine r_iload dd_Mod_size_46 rfl ?_
          refine r_V1W dd_Mod_size_48 ml_Mod_50 ok_Mod_isFree vi_Mod_isFree vk_219 (by decide) (clS rfl (Nat.le_refl _) (rmOK_self _ _)) rfl (c_Mod_isFree (by omega) (by omega)) ?_
          refine r_if_eq_b dd_Mod_size_51 (fun c_51 => ?_) (fun c_51 => ?_)
          · refine r_iconst dd_Mod_size_70 ⟨by decide, by decide⟩ ?_
            refine r_iadd dd_Mod_size_71 ⟨by omega, by omega⟩ ?_
            refine r_istoren (L' := [_, _, _, _, _]) dd_Mod_size_72 rfl rfl ?_
            refine r_iinc (L' := [_, _, _, _, _]) dd_Mod_size_73 rfl ⟨by omega, by omega⟩ rfl ?_
            refine r_goto dd_Mod_size_76 ?_
            refine r_eqr (by rw [sumF_s]; first | (rw [if_pos (show μ 220 (128 + w) = p4 z ∧ ((what = 0 ∧ fre (μ 220) w) ∨ (what ≠ 0 ∧ owd (μ 220) w)) by omega)]; (repeat (first | rw [if_pos (by omega)] | rw [if_neg (by omega)])); try omega) | (rw [if_neg (show ¬ (μ 220 (128 + w) = p4 z ∧ ((what = 0 ∧ fre (μ 220) w) ∨ (what ≠ 0 ∧ owd (μ 220) w))) by omega)]; (repeat (first | rw [if_pos (by omega)] | rw [if_neg (by omega)])); try omega)) (ih (w + 1) _ (by omega) (by omega) ⟨by omega, by omega⟩)
          · refine r_goto dd_Mod_size_54 ?_
            refine r_iconst dd_Mod_size_66 ⟨by decide, by decide⟩ ?_
            refine r_goto dd_Mod_size_67 ?_
            refine r_iadd dd_Mod_size_71 ⟨by omega, by omega⟩ ?_
            refine r_istoren (L' := [_, _, _, _, _]) dd_Mod_size_72 rfl rfl ?_
            refine r_iinc (L' := [_, _, _, _, _]) dd_Mod_size_73 rfl ⟨by omega, by omega⟩ rfl ?_
            refine r_goto dd_Mod_size_76 ?_
            refine r_eqr (by rw [sumF_s]; first | (rw [if_pos (show μ 220 (128 + w) = p4 z ∧ ((what = 0 ∧ fre (μ 220) w) ∨ (what ≠ 0 ∧ owd (μ 220) w)) by omega)]; (repeat (first | rw [if_pos (by omega)] | rw [if_neg (by omega)])); try omega) | (rw [if_neg (show ¬ (μ 220 (128 + w) = p4 z ∧ ((what = 0 ∧ fre (μ 220) w) ∨ (what ≠ 0 ∧ owd (μ 220) w))) by omega)]; (repeat (first | rw [if_pos (by omega)] | rw [if_neg (by omega)])); try omega)) (ih (w + 1) _ (by omega) (by omega) ⟨by omega, by omega⟩)
theorem c_Mod_size {μ : Int → Int → Int} {K z what : Int} (hW : MW K (μ 220)) : MetC mi_Mod_size [vR 219, vI z, vI what] (st μ) (some (vI (sizeS (μ 220) z what))) (st (μ)) := by
  refine met_of ?_ (Nat.le_of_ble_eq_true rfl) (by decide) trivial (by decide) (Nat.le_of_ble_eq_true rfl)
  show SPW mi_Mod_size 226 0 [some (vR 219), some (vI z), some (vI what), none, none] [] (st μ) (some (vI (sizeS (μ 220) z what))) (st (μ))
  refine r_iloadn dd_Mod_size_0 rfl ?_
  refine r_iconst dd_Mod_size_1 ⟨by decide, by decide⟩ ?_
  refine r_iconst dd_Mod_size_2 ⟨by decide, by decide⟩ ?_
  refine r_S3W dd_Mod_size_3 ml_Mod_35 ok_Mod_in st_Mod_in (clS rfl (Nat.le_refl _) (rmOK_self _ _)) rfl c_Mod_in ?_
  refine r_if_ne_b dd_Mod_size_6 (fun c_6 => ?_) (fun c_6 => ?_)
  · refine r_iconst dd_Mod_size_11 ⟨by decide, by decide⟩ ?_
    refine r_istoren (L' := [_, _, _, _, _]) dd_Mod_size_12 rfl rfl ?_
    refine r_iconst dd_Mod_size_13 ⟨by decide, by decide⟩ ?_
    refine r_istore (L' := [_, _, _, _, _]) dd_Mod_size_14 rfl rfl ?_
    exact r_eqr (by unfold sizeS szcM; rw [if_neg (show ¬ (z < 0 ∨ 2 < z) by omega), Int.zero_add]) (l_Mod_size hW (by omega) (by omega) 64 0 0 (by decide) (by decide) ⟨by decide, by decide⟩)
  · refine r_iconst dd_Mod_size_9 ⟨by decide, by decide⟩ ?_
    exact r_retI dd_Mod_size_10 (by unfold sizeS; (repeat (first | rw [if_pos (by omega)] | rw [if_neg (by omega)])); first | done | omega | (congr 1; omega) | exact (b2_t (by first | assumption | omega)).symm | exact (b2_f (by first | assumption | omega)).symm) rfl
theorem c_Mod_count {μ : Int → Int → Int} {K what : Int} (hW : MW K (μ 220)) : MetC mi_Mod_count [vR 219, vI what] (st μ) (some (vI (countS μ what))) (st (μ)) := by
  refine met_of ?_ (Nat.le_of_ble_eq_true rfl) (by decide) trivial (by decide) (Nat.le_of_ble_eq_true rfl)
  show SPW mi_Mod_count 226 0 [some (vR 219), some (vI what)] [] (st μ) (some (vI (countS μ what))) (st (μ))
  have h1 := frwM_bd hW
  have h2 := askdM_bd hW 6
  refine r_iloadn dd_Mod_count_0 rfl ?_
  by_cases s1_0 : what = 0
  · refine r_tabAt (tgt := 64) (off := 63) dd_Mod_count_1 s1_0 (by decide) rfl rfl ?_
    refine r_aloadn dd_Mod_count_64 rfl ?_
    refine r_V0W dd_Mod_count_65 ml_Mod_165 ok_Mod_owned vi_Mod_owned vk_219 (by decide) (clS rfl (Nat.le_refl _) (rmOK_self _ _)) rfl (c_Mod_owned hW) ?_
    exact r_retI dd_Mod_count_68 (by unfold countS; (repeat (first | rw [if_pos (by omega)] | rw [if_neg (by omega)])); first | done | omega | (congr 1; omega) | exact (b2_t (by first | assumption | omega)).symm | exact (b2_f (by first | assumption | omega)).symm) rfl
  by_cases s1_1 : what = 1
  · refine r_tabAt (tgt := 69) (off := 68) dd_Mod_count_1 s1_1 (by decide) rfl rfl ?_
    refine r_aloadn dd_Mod_count_69 rfl ?_
    refine r_V0W dd_Mod_count_70 ml_Mod_177 ok_Mod_freeWords vi_Mod_freeWords vk_219 (by decide) (clS rfl (Nat.le_refl _) (rmOK_self _ _)) rfl (c_Mod_freeWords hW) ?_
    exact r_retI dd_Mod_count_73 (by unfold countS; (repeat (first | rw [if_pos (by omega)] | rw [if_neg (by omega)])); first | done | omega | (congr 1; omega) | exact (b2_t (by first | assumption | omega)).symm | exact (b2_f (by first | assumption | omega)).symm) rfl
  by_cases s1_2 : what = 2
  · refine r_tabAt (tgt := 74) (off := 73) dd_Mod_count_1 s1_2 (by decide) rfl rfl ?_
    refine r_bip dd_Mod_count_74 ⟨by decide, by decide⟩ ?_
    refine r_aloadn dd_Mod_count_76 rfl ?_
    refine r_V0W dd_Mod_count_77 ml_Mod_177 ok_Mod_freeWords vi_Mod_freeWords vk_219 (by decide) (clS rfl (Nat.le_refl _) (rmOK_self _ _)) rfl (c_Mod_freeWords hW) ?_
    refine r_isub dd_Mod_count_80 ⟨by omega, by omega⟩ ?_
    refine r_aloadn dd_Mod_count_81 rfl ?_
    refine r_bip dd_Mod_count_82 ⟨by decide, by decide⟩ ?_
    refine r_V1W dd_Mod_count_84 ml_Mod_171 ok_Mod_asked vi_Mod_asked vk_219 (by decide) (clS rfl (Nat.le_refl _) (rmOK_self _ _)) rfl (c_Mod_asked hW) ?_
    refine r_isub dd_Mod_count_87 ⟨by omega, by omega⟩ ?_
    exact r_retI dd_Mod_count_88 (by unfold countS; (repeat (first | rw [if_pos (by omega)] | rw [if_neg (by omega)])); first | done | omega | (congr 1; omega) | exact (b2_t (by first | assumption | omega)).symm | exact (b2_f (by first | assumption | omega)).symm) rfl
  by_cases s1_3 : what = 3
  · refine r_tabAt (tgt := 89) (off := 88) dd_Mod_count_1 s1_3 (by decide) rfl rfl ?_
    refine r_aloadn dd_Mod_count_89 rfl ?_
    refine r_bip dd_Mod_count_90 ⟨by decide, by decide⟩ ?_
    refine r_V1W dd_Mod_count_92 ml_Mod_81 ok_Mod_leaks vi_Mod_leaks vk_219 (by decide) (clS rfl (Nat.le_refl _) (rmOK_self _ _)) rfl (c_Mod_leaks hW) ?_
    exact r_retI dd_Mod_count_95 (by unfold countS; (repeat (first | rw [if_pos (by omega)] | rw [if_neg (by omega)])); first | done | omega | (congr 1; omega) | exact (b2_t (by first | assumption | omega)).symm | exact (b2_f (by first | assumption | omega)).symm) rfl
  by_cases s1_4 : what = 4
  · refine r_tabAt (tgt := 96) (off := 95) dd_Mod_count_1 s1_4 (by decide) rfl rfl ?_
    refine r_aloadn dd_Mod_count_96 rfl ?_
    refine r_getR dd_Mod_count_97 fl_Mod_7 (kI := 0) rfl fr_Mod_0 vk_219 R0_219_0 ?_
    refine r_sip dd_Mod_count_100 ⟨by decide, by decide⟩ ?_
    refine r_iald dd_Mod_count_103 (q := 12) (by decide) vk_220 (by omega) (by show _ < ((472 : Nat) : Int); omega) ?_
    exact r_retI dd_Mod_count_104 (by unfold countS; (repeat (first | rw [if_pos (by omega)] | rw [if_neg (by omega)])); first | done | omega | (congr 1; omega) | exact (b2_t (by first | assumption | omega)).symm | exact (b2_f (by first | assumption | omega)).symm) rfl
  by_cases s1_5 : what = 5
  · refine r_tabAt (tgt := 105) (off := 104) dd_Mod_count_1 s1_5 (by decide) rfl rfl ?_
    refine r_aloadn dd_Mod_count_105 rfl ?_
    refine r_getR dd_Mod_count_106 fl_Mod_7 (kI := 0) rfl fr_Mod_0 vk_219 R0_219_0 ?_
    refine r_sip dd_Mod_count_109 ⟨by decide, by decide⟩ ?_
    refine r_iloadn dd_Mod_count_112 rfl ?_
    refine r_iadd dd_Mod_count_113 ⟨by omega, by omega⟩ ?_
    refine r_iconst dd_Mod_count_114 ⟨by decide, by decide⟩ ?_
    refine r_isub dd_Mod_count_115 ⟨by omega, by omega⟩ ?_
    refine r_iald dd_Mod_count_116 (q := 12) (by decide) vk_220 (by omega) (by show _ < ((472 : Nat) : Int); omega) ?_
    exact r_retI dd_Mod_count_117 (by unfold countS; (repeat (first | rw [if_pos (by omega)] | rw [if_neg (by omega)])); first | done | omega | (congr 1; omega) | exact (b2_t (by first | assumption | omega)).symm | exact (b2_f (by first | assumption | omega)).symm) rfl
  by_cases s1_6 : what = 6
  · refine r_tabAt (tgt := 105) (off := 104) dd_Mod_count_1 s1_6 (by decide) rfl rfl ?_
    refine r_aloadn dd_Mod_count_105 rfl ?_
    refine r_getR dd_Mod_count_106 fl_Mod_7 (kI := 0) rfl fr_Mod_0 vk_219 R0_219_0 ?_
    refine r_sip dd_Mod_count_109 ⟨by decide, by decide⟩ ?_
    refine r_iloadn dd_Mod_count_112 rfl ?_
    refine r_iadd dd_Mod_count_113 ⟨by omega, by omega⟩ ?_
    refine r_iconst dd_Mod_count_114 ⟨by decide, by decide⟩ ?_
    refine r_isub dd_Mod_count_115 ⟨by omega, by omega⟩ ?_
    refine r_iald dd_Mod_count_116 (q := 12) (by decide) vk_220 (by omega) (by show _ < ((472 : Nat) : Int); omega) ?_
    exact r_retI dd_Mod_count_117 (by unfold countS; (repeat (first | rw [if_pos (by omega)] | rw [if_neg (by omega)])); first | done | omega | (congr 1; omega) | exact (b2_t (by first | assumption | omega)).symm | exact (b2_f (by first | assumption | omega)).symm) rfl
  by_cases s1_7 : what = 7
  · refine r_tabAt (tgt := 105) (off := 104) dd_Mod_count_1 s1_7 (by decide) rfl rfl ?_
    refine r_aloadn dd_Mod_count_105 rfl ?_
    refine r_getR dd_Mod_count_106 fl_Mod_7 (kI := 0) rfl fr_Mod_0 vk_219 R0_219_0 ?_
    refine r_sip dd_Mod_count_109 ⟨by decide, by decide⟩ ?_
    refine r_iloadn dd_Mod_count_112 rfl ?_
    refine r_iadd dd_Mod_count_113 ⟨by omega, by omega⟩ ?_
    refine r_iconst dd_Mod_count_114 ⟨by decide, by decide⟩ ?_
    refine r_isub dd_Mod_count_115 ⟨by omega, by omega⟩ ?_
    refine r_iald dd_Mod_count_116 (q := 12) (by decide) vk_220 (by omega) (by show _ < ((472 : Nat) : Int); omega) ?_
    exact r_retI dd_Mod_count_117 (by unfold countS; (repeat (first | rw [if_pos (by omega)] | rw [if_neg (by omega)])); first | done | omega | (congr 1; omega) | exact (b2_t (by first | assumption | omega)).symm | exact (b2_f (by first | assumption | omega)).symm) rfl
  by_cases s1_8 : what = 8
  · refine r_tabAt (tgt := 105) (off := 104) dd_Mod_count_1 s1_8 (by decide) rfl rfl ?_
    refine r_aloadn dd_Mod_count_105 rfl ?_
    refine r_getR dd_Mod_count_106 fl_Mod_7 (kI := 0) rfl fr_Mod_0 vk_219 R0_219_0 ?_
    refine r_sip dd_Mod_count_109 ⟨by decide, by decide⟩ ?_
    refine r_iloadn dd_Mod_count_112 rfl ?_
    refine r_iadd dd_Mod_count_113 ⟨by omega, by omega⟩ ?_
    refine r_iconst dd_Mod_count_114 ⟨by decide, by decide⟩ ?_
    refine r_isub dd_Mod_count_115 ⟨by omega, by omega⟩ ?_
    refine r_iald dd_Mod_count_116 (q := 12) (by decide) vk_220 (by omega) (by show _ < ((472 : Nat) : Int); omega) ?_
    exact r_retI dd_Mod_count_117 (by unfold countS; (repeat (first | rw [if_pos (by omega)] | rw [if_neg (by omega)])); first | done | omega | (congr 1; omega) | exact (b2_t (by first | assumption | omega)).symm | exact (b2_f (by first | assumption | omega)).symm) rfl
  by_cases s1_9 : what = 9
  · refine r_tabAt (tgt := 118) (off := 117) dd_Mod_count_1 s1_9 (by decide) rfl rfl ?_
    refine r_aloadn dd_Mod_count_118 rfl ?_
    refine r_getR dd_Mod_count_119 fl_Mod_7 (kI := 0) rfl fr_Mod_0 vk_219 R0_219_0 ?_
    refine r_sip dd_Mod_count_122 ⟨by decide, by decide⟩ ?_
    refine r_iald dd_Mod_count_125 (q := 12) (by decide) vk_220 (by omega) (by show _ < ((472 : Nat) : Int); omega) ?_
    exact r_retI dd_Mod_count_126 (by unfold countS; (repeat (first | rw [if_pos (by omega)] | rw [if_neg (by omega)])); first | done | omega | (congr 1; omega) | exact (b2_t (by first | assumption | omega)).symm | exact (b2_f (by first | assumption | omega)).symm) rfl
  by_cases s1_10 : what = 10
  · refine r_tabAt (tgt := 127) (off := 126) dd_Mod_count_1 s1_10 (by decide) rfl rfl ?_
    refine r_aloadn dd_Mod_count_127 rfl ?_
    refine r_getI dd_Mod_count_128 fl_Mod_39 (kI := 3) rfl fi_Mod_3 vk_219 ?_
    exact r_retI dd_Mod_count_131 (by unfold countS; (repeat (first | rw [if_pos (by omega)] | rw [if_neg (by omega)])); first | done | omega | (congr 1; omega) | exact (b2_t (by first | assumption | omega)).symm | exact (b2_f (by first | assumption | omega)).symm) rfl
  by_cases s1_11 : what = 11
  · refine r_tabAt (tgt := 132) (off := 131) dd_Mod_count_1 s1_11 (by decide) rfl rfl ?_
    refine r_aloadn dd_Mod_count_132 rfl ?_
    refine r_getI dd_Mod_count_133 fl_Mod_118 (kI := 8) rfl fi_Mod_8 vk_219 ?_
    exact r_retI dd_Mod_count_136 (by unfold countS; (repeat (first | rw [if_pos (by omega)] | rw [if_neg (by omega)])); first | done | omega | (congr 1; omega) | exact (b2_t (by first | assumption | omega)).symm | exact (b2_f (by first | assumption | omega)).symm) rfl
  refine r_tabOut (tgt := 137) dd_Mod_count_1 (by omega) rfl ?_
  refine r_bip dd_Mod_count_137 ⟨by decide, by decide⟩ ?_
  exact r_retI dd_Mod_count_139 (by unfold countS; (repeat (first | rw [if_pos (by omega)] | rw [if_neg (by omega)])); first | done | omega | (congr 1; omega) | exact (b2_t (by first | assumption | omega)).symm | exact (b2_f (by first | assumption | omega)).symm) rfl
