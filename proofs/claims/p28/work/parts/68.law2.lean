/-! the law: a block that is owned, by a number; a call by a number -/
theorem st_rm (y : MI) : rmOK y 219 219 := rmOK_self y 219
theorem l_own {K : Int} {μ : Int → Int → Int} {m : Int → Int} (hR : RI K μ m) {v : Int} : ∀ (n : Nat) (w k : Int), w + n = 64 → 0 ≤ w → 0 ≤ k ∧ k ≤ 2147483647 → ∃ r, SPW mi_Law_owned 219 24 [some (vR 0), some (vI v), some (vI k), some (vI w), none] [] (st μ) (some (vI r)) (st μ) := by
  intro n
  induction n with
  | zero =>
    intro w k hw w0 hk
    refine ⟨-5, ?_⟩
    refine r_iloadn dd_Law_owned_24 rfl ?_
    refine r_bip dd_Law_owned_25 ⟨by decide, by decide⟩ ?_
    refine r_icmp_ge dd_Law_owned_27 (fun c_27 => ?_) (fun c_27 => ?_)
    · refine r_bip dd_Law_owned_70 ⟨by decide, by decide⟩ ?_
      exact r_retI dd_Law_owned_72 (by first | rfl | omega | exact (b2_t (by first | assumption | omega)).symm | exact (b2_f (by first | assumption | omega)).symm) rfl
    · exfalso; omega
  | succ n ih =>
    intro w k hw w0 hk
    by_cases h1 : wordS m w 1 < 0
    · obtain ⟨r, s⟩ := ih (w + 1) k (by omega) (by omega) hk
      refine ⟨r, ?_⟩
      refine r_iloadn dd_Law_owned_24 rfl ?_
      refine r_bip dd_Law_owned_25 ⟨by decide, by decide⟩ ?_
      refine r_icmp_ge dd_Law_owned_27 (fun c_27 => ?_) (fun c_27 => ?_)
      · exfalso; omega
      · refine r_aloadn dd_Law_owned_30 rfl ?_
        refine r_iloadn dd_Law_owned_31 rfl ?_
        refine r_iconst dd_Law_owned_32 ⟨by decide, by decide⟩ ?_
        refine r_V2W dd_Law_owned_33 ml_Law_20 ok_Poo_word vi_Poo_word vk_0 (by decide) (clS rfl (Nat.le_refl _) (rmOK_self _ _)) rfl (c_Poo_word hR) ?_
        refine r_istore (L' := [_, _, _, _, _]) dd_Law_owned_36 rfl rfl ?_
        refine r_iload dd_Law_owned_38 rfl ?_
        refine r_if_lt dd_Law_owned_40 (fun c_40 => ?_) (fun c_40 => ?_)
        · refine r_iinc (L' := [_, _, _, _, _]) dd_Law_owned_64 rfl ⟨by omega, by omega⟩ rfl ?_
          refine r_goto dd_Law_owned_67 ?_
          refine r_drop 4 ?_
          exact s
        · exfalso; omega
    · by_cases h2 : blockS m (wordS m w 1) 0 = w
      · by_cases h3 : k = 0
        · refine ⟨wordS m w 1, ?_⟩
          refine r_iloadn dd_Law_owned_24 rfl ?_
          refine r_bip dd_Law_owned_25 ⟨by decide, by decide⟩ ?_
          refine r_icmp_ge dd_Law_owned_27 (fun c_27 => ?_) (fun c_27 => ?_)
          · exfalso; omega
          · refine r_aloadn dd_Law_owned_30 rfl ?_
            refine r_iloadn dd_Law_owned_31 rfl ?_
            refine r_iconst dd_Law_owned_32 ⟨by decide, by decide⟩ ?_
            refine r_V2W dd_Law_owned_33 ml_Law_20 ok_Poo_word vi_Poo_word vk_0 (by decide) (clS rfl (Nat.le_refl _) (rmOK_self _ _)) rfl (c_Poo_word hR) ?_
            refine r_istore (L' := [_, _, _, _, _]) dd_Law_owned_36 rfl rfl ?_
            refine r_iload dd_Law_owned_38 rfl ?_
            refine r_if_lt dd_Law_owned_40 (fun c_40 => ?_) (fun c_40 => ?_)
            · exfalso; omega
            · refine r_aloadn dd_Law_owned_43 rfl ?_
              refine r_iload dd_Law_owned_44 rfl ?_
              refine r_iconst dd_Law_owned_46 ⟨by decide, by decide⟩ ?_
              refine r_V2W dd_Law_owned_47 ml_Law_23 ok_Poo_block vi_Poo_block vk_0 (by decide) (clS rfl (Nat.le_refl _) (rmOK_self _ _)) rfl (c_Poo_block hR) ?_
              refine r_iloadn dd_Law_owned_50 rfl ?_
              refine r_icmp_ne dd_Law_owned_51 (fun c_51 => ?_) (fun c_51 => ?_)
              · exfalso; omega
              · refine r_iloadn dd_Law_owned_54 rfl ?_
                refine r_if_ne dd_Law_owned_55 (fun c_55 => ?_) (fun c_55 => ?_)
                · exfalso; omega
                · refine r_iload dd_Law_owned_58 rfl ?_
                  exact r_retI dd_Law_owned_60 (by first | rfl | omega | exact (b2_t (by first | assumption | omega)).symm | exact (b2_f (by first | assumption | omega)).symm) rfl
        · obtain ⟨r, s⟩ := ih (w + 1) (k + -1) (by omega) (by omega) (by omega)
          refine ⟨r, ?_⟩
          refine r_iloadn dd_Law_owned_24 rfl ?_
          refine r_bip dd_Law_owned_25 ⟨by decide, by decide⟩ ?_
          refine r_icmp_ge dd_Law_owned_27 (fun c_27 => ?_) (fun c_27 => ?_)
          · exfalso; omega
          · refine r_aloadn dd_Law_owned_30 rfl ?_
            refine r_iloadn dd_Law_owned_31 rfl ?_
            refine r_iconst dd_Law_owned_32 ⟨by decide, by decide⟩ ?_
            refine r_V2W dd_Law_owned_33 ml_Law_20 ok_Poo_word vi_Poo_word vk_0 (by decide) (clS rfl (Nat.le_refl _) (rmOK_self _ _)) rfl (c_Poo_word hR) ?_
            refine r_istore (L' := [_, _, _, _, _]) dd_Law_owned_36 rfl rfl ?_
            refine r_iload dd_Law_owned_38 rfl ?_
            refine r_if_lt dd_Law_owned_40 (fun c_40 => ?_) (fun c_40 => ?_)
            · exfalso; omega
            · refine r_aloadn dd_Law_owned_43 rfl ?_
              refine r_iload dd_Law_owned_44 rfl ?_
              refine r_iconst dd_Law_owned_46 ⟨by decide, by decide⟩ ?_
              refine r_V2W dd_Law_owned_47 ml_Law_23 ok_Poo_block vi_Poo_block vk_0 (by decide) (clS rfl (Nat.le_refl _) (rmOK_self _ _)) rfl (c_Poo_block hR) ?_
              refine r_iloadn dd_Law_owned_50 rfl ?_
              refine r_icmp_ne dd_Law_owned_51 (fun c_51 => ?_) (fun c_51 => ?_)
              · exfalso; omega
              · refine r_iloadn dd_Law_owned_54 rfl ?_
                refine r_if_ne dd_Law_owned_55 (fun c_55 => ?_) (fun c_55 => ?_)
                · refine r_iinc (L' := [_, _, _, _, _]) dd_Law_owned_61 rfl ⟨by omega, by omega⟩ rfl ?_
                  refine r_iinc (L' := [_, _, _, _, _]) dd_Law_owned_64 rfl ⟨by omega, by omega⟩ rfl ?_
                  refine r_goto dd_Law_owned_67 ?_
                  refine r_drop 4 ?_
                  exact s
                · exfalso; omega
      · obtain ⟨r, s⟩ := ih (w + 1) k (by omega) (by omega) hk
        refine ⟨r, ?_⟩
        refine r_iloadn dd_Law_owned_24 rfl ?_
        refine r_bip dd_Law_owned_25 ⟨by decide, by decide⟩ ?_
        refine r_icmp_ge dd_Law_owned_27 (fun c_27 => ?_) (fun c_27 => ?_)
        · exfalso; omega
        · refine r_aloadn dd_Law_owned_30 rfl ?_
          refine r_iloadn dd_Law_owned_31 rfl ?_
          refine r_iconst dd_Law_owned_32 ⟨by decide, by decide⟩ ?_
          refine r_V2W dd_Law_owned_33 ml_Law_20 ok_Poo_word vi_Poo_word vk_0 (by decide) (clS rfl (Nat.le_refl _) (rmOK_self _ _)) rfl (c_Poo_word hR) ?_
          refine r_istore (L' := [_, _, _, _, _]) dd_Law_owned_36 rfl rfl ?_
          refine r_iload dd_Law_owned_38 rfl ?_
          refine r_if_lt dd_Law_owned_40 (fun c_40 => ?_) (fun c_40 => ?_)
          · exfalso; omega
          · refine r_aloadn dd_Law_owned_43 rfl ?_
            refine r_iload dd_Law_owned_44 rfl ?_
            refine r_iconst dd_Law_owned_46 ⟨by decide, by decide⟩ ?_
            refine r_V2W dd_Law_owned_47 ml_Law_23 ok_Poo_block vi_Poo_block vk_0 (by decide) (clS rfl (Nat.le_refl _) (rmOK_self _ _)) rfl (c_Poo_block hR) ?_
            refine r_iloadn dd_Law_owned_50 rfl ?_
            refine r_icmp_ne dd_Law_owned_51 (fun c_51 => ?_) (fun c_51 => ?_)
            · refine r_iinc (L' := [_, _, _, _, _]) dd_Law_owned_64 rfl ⟨by omega, by omega⟩ rfl ?_
              refine r_goto dd_Law_owned_67 ?_
              refine r_drop 4 ?_
              exact s
            · exfalso; omega
theorem c_Law_owned {K : Int} {μ : Int → Int → Int} {m : Int → Int} (hR : RI K μ m) (v : Int) : ∃ r, MetC mi_Law_owned [vR 0, vI v] (st μ) (some (vI r)) (st μ) := by
  have ho : 0 ≤ owsM m ∧ owsM m ≤ 64 := sum1_bd (fun w => owd m w)
  by_cases h : owsM m = 0
  · obtain ⟨r, s⟩ := l_own hR (v := v) 64 0 0 (by omega) (by omega) (by omega)
    refine ⟨r, met_of ?_ (Nat.le_of_ble_eq_true rfl) (by decide) trivial (by decide) (Nat.le_of_ble_eq_true rfl)⟩
    show SPW mi_Law_owned 219 0 [some (vR 0), some (vI v), none, none, none] [] (st μ) (some (vI r)) (st μ)
    refine r_aloadn dd_Law_owned_0 rfl ?_
    refine r_iconst dd_Law_owned_1 ⟨by decide, by decide⟩ ?_
    refine r_V1W dd_Law_owned_2 ml_Law_8 ok_Poo_count vi_Poo_count vk_0 (by decide) (clS rfl (Nat.le_refl _) (rmOK_self _ _)) rfl (c_cnt0 hR) ?_
    refine r_if_ne dd_Law_owned_5 (fun c_5 => ?_) (fun c_5 => ?_)
    · exfalso; omega
    · refine r_iconst dd_Law_owned_8 ⟨by decide, by decide⟩ ?_
      refine r_goto dd_Law_owned_9 ?_
      refine r_istoren (L' := [_, _, _, _, _]) dd_Law_owned_21 rfl rfl ?_
      refine r_iconst dd_Law_owned_22 ⟨by decide, by decide⟩ ?_
      refine r_istoren (L' := [_, _, _, _, _]) dd_Law_owned_23 rfl rfl ?_
      exact s
  · have hl := lowV_rg (v := v) (n := owsM m) (by omega)
    obtain ⟨r, s⟩ := l_own hR (v := v) 64 0 (lowV v (owsM m)) (by omega) (by omega) (by omega)
    refine ⟨r, met_of ?_ (Nat.le_of_ble_eq_true rfl) (by decide) trivial (by decide) (Nat.le_of_ble_eq_true rfl)⟩
    show SPW mi_Law_owned 219 0 [some (vR 0), some (vI v), none, none, none] [] (st μ) (some (vI r)) (st μ)
    refine r_aloadn dd_Law_owned_0 rfl ?_
    refine r_iconst dd_Law_owned_1 ⟨by decide, by decide⟩ ?_
    refine r_V1W dd_Law_owned_2 ml_Law_8 ok_Poo_count vi_Poo_count vk_0 (by decide) (clS rfl (Nat.le_refl _) (rmOK_self _ _)) rfl (c_cnt0 hR) ?_
    refine r_if_ne dd_Law_owned_5 (fun c_5 => ?_) (fun c_5 => ?_)
    · refine r_iloadn dd_Law_owned_12 rfl ?_
      refine r_aloadn dd_Law_owned_13 rfl ?_
      refine r_iconst dd_Law_owned_14 ⟨by decide, by decide⟩ ?_
      refine r_V1W dd_Law_owned_15 ml_Law_8 ok_Poo_count vi_Poo_count vk_0 (by decide) (clS rfl (Nat.le_refl _) (rmOK_self _ _)) rfl (c_cnt0 hR) ?_
      refine r_S2W dd_Law_owned_18 ml_Law_14 ok_Law_low st_Law_low (clS rfl (Nat.le_refl _) (rmOK_self _ _)) rfl (c_Law_low (by omega)) ?_
      refine r_istoren (L' := [_, _, _, _, _]) dd_Law_owned_21 rfl rfl ?_
      refine r_iconst dd_Law_owned_22 ⟨by decide, by decide⟩ ?_
      refine r_istoren (L' := [_, _, _, _, _]) dd_Law_owned_23 rfl rfl ?_
      exact s
    · exfalso; omega
section DO
variable {K : Int} {μ μ' : Int → Int → Int} {m : Int → Int} {v t b x r : Int}
theorem do_pre_n (hR : RI K μ m) (ht : lowV (shrI v 4) 6 = t) (hb : MetC mi_Law_owned [vR 0, vI (shrI v 7)] (st μ) (some (vI b)) (st μ)) (h0 : b < 0) (kk : SPW mi_Law_does 219 38 [some (vR 0), some (vI v), some (vI t), some (vI b), some (vI t)] [vI (v % 16)] (st μ) (some (vI r)) (st μ')) : MetC mi_Law_does [vR 0, vI v] (st μ) (some (vI r)) (st μ') := by
  refine met_of ?_ (Nat.le_of_ble_eq_true rfl) (by decide) trivial (by decide) (Nat.le_of_ble_eq_true rfl)
  show SPW mi_Law_does 219 0 [some (vR 0), some (vI v), none, none, none] [] (st μ) (some (vI r)) (st μ')
  subst ht
  refine r_iloadn dd_Law_does_0 rfl ?_
  refine r_iconst dd_Law_does_1 ⟨by decide, by decide⟩ ?_
  refine r_ishr dd_Law_does_2 ?_
  refine r_bip dd_Law_does_3 ⟨by decide, by decide⟩ ?_
  refine r_S2W dd_Law_does_5 ml_Law_14 ok_Law_low st_Law_low (clS rfl (Nat.le_refl _) (rmOK_self _ _)) rfl (c_Law_low (by decide)) ?_
  refine r_istoren (L' := [_, _, _, _, _]) dd_Law_does_8 rfl rfl ?_
  refine r_aloadn dd_Law_does_9 rfl ?_
  refine r_iloadn dd_Law_does_10 rfl ?_
  refine r_bip dd_Law_does_11 ⟨by decide, by decide⟩ ?_
  refine r_ishr dd_Law_does_13 ?_
  refine r_S2W dd_Law_does_14 ml_Law_26 ok_Law_owned st_Law_owned (clS rfl (Nat.le_refl _) (rmOK_self _ _)) rfl hb ?_
  refine r_istoren (L' := [_, _, _, _, _]) dd_Law_does_17 rfl rfl ?_
  refine r_iloadn dd_Law_does_18 rfl ?_
  refine r_if_ge dd_Law_does_19 (fun c_19 => ?_) (fun c_19 => ?_)
  · exfalso; omega
  · refine r_iloadn dd_Law_does_22 rfl ?_
    refine r_goto dd_Law_does_23 ?_
    refine r_istore (L' := [_, _, _, _, _]) dd_Law_does_32 rfl rfl ?_
    refine r_iloadn dd_Law_does_34 rfl ?_
    refine r_bip dd_Law_does_35 ⟨by decide, by decide⟩ ?_
    refine r_and15 dd_Law_does_37 ?_
    exact kk
theorem do_pre_s (hR : RI K μ m) (ht : lowV (shrI v 4) 6 = t) (hb : MetC mi_Law_owned [vR 0, vI (shrI v 7)] (st μ) (some (vI b)) (st μ)) (h0 : 0 ≤ b) (kk : SPW mi_Law_does 219 38 [some (vR 0), some (vI v), some (vI t), some (vI b), some (vI (blockS m b 2))] [vI (v % 16)] (st μ) (some (vI r)) (st μ')) : MetC mi_Law_does [vR 0, vI v] (st μ) (some (vI r)) (st μ') := by
  refine met_of ?_ (Nat.le_of_ble_eq_true rfl) (by decide) trivial (by decide) (Nat.le_of_ble_eq_true rfl)
  show SPW mi_Law_does 219 0 [some (vR 0), some (vI v), none, none, none] [] (st μ) (some (vI r)) (st μ')
  subst ht
  refine r_iloadn dd_Law_does_0 rfl ?_
  refine r_iconst dd_Law_does_1 ⟨by decide, by decide⟩ ?_
  refine r_ishr dd_Law_does_2 ?_
  refine r_bip dd_Law_does_3 ⟨by decide, by decide⟩ ?_
  refine r_S2W dd_Law_does_5 ml_Law_14 ok_Law_low st_Law_low (clS rfl (Nat.le_refl _) (rmOK_self _ _)) rfl (c_Law_low (by decide)) ?_
  refine r_istoren (L' := [_, _, _, _, _]) dd_Law_does_8 rfl rfl ?_
  refine r_aloadn dd_Law_does_9 rfl ?_
  refine r_iloadn dd_Law_does_10 rfl ?_
  refine r_bip dd_Law_does_11 ⟨by decide, by decide⟩ ?_
  refine r_ishr dd_Law_does_13 ?_
  refine r_S2W dd_Law_does_14 ml_Law_26 ok_Law_owned st_Law_owned (clS rfl (Nat.le_refl _) (rmOK_self _ _)) rfl hb ?_
  refine r_istoren (L' := [_, _, _, _, _]) dd_Law_does_17 rfl rfl ?_
  refine r_iloadn dd_Law_does_18 rfl ?_
  refine r_if_ge dd_Law_does_19 (fun c_19 => ?_) (fun c_19 => ?_)
  · refine r_aloadn dd_Law_does_26 rfl ?_
    refine r_iloadn dd_Law_does_27 rfl ?_
    refine r_iconst dd_Law_does_28 ⟨by decide, by decide⟩ ?_
    refine r_V2W dd_Law_does_29 ml_Law_23 ok_Poo_block vi_Poo_block vk_0 (by decide) (clS rfl (Nat.le_refl _) (rmOK_self _ _)) rfl (c_Poo_block hR) ?_
    refine r_istore (L' := [_, _, _, _, _]) dd_Law_does_32 rfl rfl ?_
    refine r_iloadn dd_Law_does_34 rfl ?_
    refine r_bip dd_Law_does_35 ⟨by decide, by decide⟩ ?_
    refine r_and15 dd_Law_does_37 ?_
    exact kk
  · exfalso; omega
theorem do_ask  (ca : MetC mi_Poo_ask [vR 0, vI t, vI (1 + lowV (shrI v 7) 14)] (st μ) (some (vI r)) (st μ')) : SPW mi_Law_does 219 108 [some (vR 0), some (vI v), some (vI t), some (vI b), some (vI x)] [] (st μ) (some (vI r)) (st μ') := by
  refine r_aloadn dd_Law_does_108 rfl ?_
  refine r_iloadn dd_Law_does_109 rfl ?_
  refine r_iconst dd_Law_does_110 ⟨by decide, by decide⟩ ?_
  refine r_iloadn dd_Law_does_111 rfl ?_
  refine r_bip dd_Law_does_112 ⟨by decide, by decide⟩ ?_
  refine r_ishr dd_Law_does_114 ?_
  refine r_bip dd_Law_does_115 ⟨by decide, by decide⟩ ?_
  refine r_S2W dd_Law_does_117 ml_Law_14 ok_Law_low st_Law_low (clS rfl (Nat.le_refl _) (rmOK_self _ _)) rfl (c_Law_low (by decide)) ?_
  refine r_iadd dd_Law_does_120 (by have := lowV_rg (v := shrI v 7) (n := 14) (by decide); exact ⟨by omega, by omega⟩) ?_
  refine r_V2W dd_Law_does_121 ml_Law_30 ok_Poo_ask vi_Poo_ask vk_0 (by decide) (clS rfl (Nat.le_refl _) (rmOK_self _ _)) rfl ca ?_
  exact r_retI dd_Law_does_124 (by first | rfl | omega | exact (b2_t (by first | assumption | omega)).symm | exact (b2_f (by first | assumption | omega)).symm) rfl
theorem do_give_t (h0 : shrI v 11 % 4 = 0) (ca : MetC mi_Poo_giveBack [vR 0, vI t, vI b] (st μ) (some (vI r)) (st μ')) : SPW mi_Law_does 219 125 [some (vR 0), some (vI v), some (vI t), some (vI b), some (vI x)] [] (st μ) (some (vI r)) (st μ') := by
  refine r_aloadn dd_Law_does_125 rfl ?_
  refine r_iloadn dd_Law_does_126 rfl ?_
  refine r_bip dd_Law_does_127 ⟨by decide, by decide⟩ ?_
  refine r_ishr dd_Law_does_129 ?_
  refine r_iconst dd_Law_does_130 ⟨by decide, by decide⟩ ?_
  refine r_and3 dd_Law_does_131 ?_
  refine r_if_ne dd_Law_does_132 (fun c_132 => ?_) (fun c_132 => ?_)
  · exfalso; omega
  · refine r_iloadn dd_Law_does_135 rfl ?_
    refine r_goto dd_Law_does_136 ?_
    refine r_iloadn dd_Law_does_141 rfl ?_
    refine r_V2W dd_Law_does_142 ml_Law_33 ok_Poo_giveBack vi_Poo_giveBack vk_0 (by decide) (clS rfl (Nat.le_refl _) (rmOK_self _ _)) rfl ca ?_
    exact r_retI dd_Law_does_145 (by first | rfl | omega | exact (b2_t (by first | assumption | omega)).symm | exact (b2_f (by first | assumption | omega)).symm) rfl
theorem do_give_x (h0 : ¬ shrI v 11 % 4 = 0) (ca : MetC mi_Poo_giveBack [vR 0, vI x, vI b] (st μ) (some (vI r)) (st μ')) : SPW mi_Law_does 219 125 [some (vR 0), some (vI v), some (vI t), some (vI b), some (vI x)] [] (st μ) (some (vI r)) (st μ') := by
  refine r_aloadn dd_Law_does_125 rfl ?_
  refine r_iloadn dd_Law_does_126 rfl ?_
  refine r_bip dd_Law_does_127 ⟨by decide, by decide⟩ ?_
  refine r_ishr dd_Law_does_129 ?_
  refine r_iconst dd_Law_does_130 ⟨by decide, by decide⟩ ?_
  refine r_and3 dd_Law_does_131 ?_
  refine r_if_ne dd_Law_does_132 (fun c_132 => ?_) (fun c_132 => ?_)
  · refine r_iload dd_Law_does_139 rfl ?_
    refine r_iloadn dd_Law_does_141 rfl ?_
    refine r_V2W dd_Law_does_142 ml_Law_33 ok_Poo_giveBack vi_Poo_giveBack vk_0 (by decide) (clS rfl (Nat.le_refl _) (rmOK_self _ _)) rfl ca ?_
    exact r_retI dd_Law_does_145 (by first | rfl | omega | exact (b2_t (by first | assumption | omega)).symm | exact (b2_f (by first | assumption | omega)).symm) rfl
  · exfalso; omega
theorem do_write_t (h0 : shrI v 11 % 8 = 0) (ca : MetC mi_Poo_write [vR 0, vI t, vI b, vI (lowV (shrI v 12) 30 - 8), vI (1 + lowV (shrI v 5) 99)] (st μ) (some (vI r)) (st μ')) : SPW mi_Law_does 219 146 [some (vR 0), some (vI v), some (vI t), some (vI b), some (vI x)] [] (st μ) (some (vI r)) (st μ') := by
  refine r_aloadn dd_Law_does_146 rfl ?_
  refine r_iloadn dd_Law_does_147 rfl ?_
  refine r_bip dd_Law_does_148 ⟨by decide, by decide⟩ ?_
  refine r_ishr dd_Law_does_150 ?_
  refine r_bip dd_Law_does_151 ⟨by decide, by decide⟩ ?_
  refine r_and7 dd_Law_does_153 ?_
  refine r_if_ne dd_Law_does_154 (fun c_154 => ?_) (fun c_154 => ?_)
  · exfalso; omega
  · refine r_iloadn dd_Law_does_157 rfl ?_
    refine r_goto dd_Law_does_158 ?_
    refine r_iloadn dd_Law_does_163 rfl ?_
    refine r_iloadn dd_Law_does_164 rfl ?_
    refine r_bip dd_Law_does_165 ⟨by decide, by decide⟩ ?_
    refine r_ishr dd_Law_does_167 ?_
    refine r_bip dd_Law_does_168 ⟨by decide, by decide⟩ ?_
    refine r_S2W dd_Law_does_170 ml_Law_14 ok_Law_low st_Law_low (clS rfl (Nat.le_refl _) (rmOK_self _ _)) rfl (c_Law_low (by decide)) ?_
    refine r_bip dd_Law_does_173 ⟨by decide, by decide⟩ ?_
    refine r_isub dd_Law_does_175 (by have := lowV_rg (v := shrI v 12) (n := 30) (by decide); exact ⟨by omega, by omega⟩) ?_
    refine r_iconst dd_Law_does_176 ⟨by decide, by decide⟩ ?_
    refine r_iloadn dd_Law_does_177 rfl ?_
    refine r_iconst dd_Law_does_178 ⟨by decide, by decide⟩ ?_
    refine r_ishr dd_Law_does_179 ?_
    refine r_bip dd_Law_does_180 ⟨by decide, by decide⟩ ?_
    refine r_S2W dd_Law_does_182 ml_Law_14 ok_Law_low st_Law_low (clS rfl (Nat.le_refl _) (rmOK_self _ _)) rfl (c_Law_low (by decide)) ?_
    refine r_iadd dd_Law_does_185 (by have := lowV_rg (v := shrI v 5) (n := 99) (by decide); exact ⟨by omega, by omega⟩) ?_
    refine r_V4W dd_Law_does_186 ml_Law_36 ok_Poo_write vi_Poo_write vk_0 (by decide) (clS rfl (Nat.le_refl _) (rmOK_self _ _)) rfl ca ?_
    exact r_retI dd_Law_does_189 (by first | rfl | omega | exact (b2_t (by first | assumption | omega)).symm | exact (b2_f (by first | assumption | omega)).symm) rfl
theorem do_write_x (h0 : ¬ shrI v 11 % 8 = 0) (ca : MetC mi_Poo_write [vR 0, vI x, vI b, vI (lowV (shrI v 12) 30 - 8), vI (1 + lowV (shrI v 5) 99)] (st μ) (some (vI r)) (st μ')) : SPW mi_Law_does 219 146 [some (vR 0), some (vI v), some (vI t), some (vI b), some (vI x)] [] (st μ) (some (vI r)) (st μ') := by
  refine r_aloadn dd_Law_does_146 rfl ?_
  refine r_iloadn dd_Law_does_147 rfl ?_
  refine r_bip dd_Law_does_148 ⟨by decide, by decide⟩ ?_
  refine r_ishr dd_Law_does_150 ?_
  refine r_bip dd_Law_does_151 ⟨by decide, by decide⟩ ?_
  refine r_and7 dd_Law_does_153 ?_
  refine r_if_ne dd_Law_does_154 (fun c_154 => ?_) (fun c_154 => ?_)
  · refine r_iload dd_Law_does_161 rfl ?_
    refine r_iloadn dd_Law_does_163 rfl ?_
    refine r_iloadn dd_Law_does_164 rfl ?_
    refine r_bip dd_Law_does_165 ⟨by decide, by decide⟩ ?_
    refine r_ishr dd_Law_does_167 ?_
    refine r_bip dd_Law_does_168 ⟨by decide, by decide⟩ ?_
    refine r_S2W dd_Law_does_170 ml_Law_14 ok_Law_low st_Law_low (clS rfl (Nat.le_refl _) (rmOK_self _ _)) rfl (c_Law_low (by decide)) ?_
    refine r_bip dd_Law_does_173 ⟨by decide, by decide⟩ ?_
    refine r_isub dd_Law_does_175 (by have := lowV_rg (v := shrI v 12) (n := 30) (by decide); exact ⟨by omega, by omega⟩) ?_
    refine r_iconst dd_Law_does_176 ⟨by decide, by decide⟩ ?_
    refine r_iloadn dd_Law_does_177 rfl ?_
    refine r_iconst dd_Law_does_178 ⟨by decide, by decide⟩ ?_
    refine r_ishr dd_Law_does_179 ?_
    refine r_bip dd_Law_does_180 ⟨by decide, by decide⟩ ?_
    refine r_S2W dd_Law_does_182 ml_Law_14 ok_Law_low st_Law_low (clS rfl (Nat.le_refl _) (rmOK_self _ _)) rfl (c_Law_low (by decide)) ?_
    refine r_iadd dd_Law_does_185 (by have := lowV_rg (v := shrI v 5) (n := 99) (by decide); exact ⟨by omega, by omega⟩) ?_
    refine r_V4W dd_Law_does_186 ml_Law_36 ok_Poo_write vi_Poo_write vk_0 (by decide) (clS rfl (Nat.le_refl _) (rmOK_self _ _)) rfl ca ?_
    exact r_retI dd_Law_does_189 (by first | rfl | omega | exact (b2_t (by first | assumption | omega)).symm | exact (b2_f (by first | assumption | omega)).symm) rfl
  · exfalso; omega
theorem do_touch  (ca : MetC mi_Poo_touch [vR 0, vI b] (st μ) (some (vI r)) (st μ')) : SPW mi_Law_does 219 190 [some (vR 0), some (vI v), some (vI t), some (vI b), some (vI x)] [] (st μ) (some (vI r)) (st μ') := by
  refine r_aloadn dd_Law_does_190 rfl ?_
  refine r_iloadn dd_Law_does_191 rfl ?_
  refine r_V1W dd_Law_does_192 ml_Law_40 ok_Poo_touch vi_Poo_touch vk_0 (by decide) (clS rfl (Nat.le_refl _) (rmOK_self _ _)) rfl ca ?_
  exact r_retI dd_Law_does_195 (by first | rfl | omega | exact (b2_t (by first | assumption | omega)).symm | exact (b2_f (by first | assumption | omega)).symm) rfl
theorem do_live_1 (h0 : 0 < shrI v 8 % 4) (ca : MetC mi_Poo_live [vR 0, vI t, vI 1] (st μ) (some (vI r)) (st μ')) : SPW mi_Law_does 219 196 [some (vR 0), some (vI v), some (vI t), some (vI b), some (vI x)] [] (st μ) (some (vI r)) (st μ') := by
  refine r_aloadn dd_Law_does_196 rfl ?_
  refine r_iloadn dd_Law_does_197 rfl ?_
  refine r_iloadn dd_Law_does_198 rfl ?_
  refine r_bip dd_Law_does_199 ⟨by decide, by decide⟩ ?_
  refine r_ishr dd_Law_does_201 ?_
  refine r_iconst dd_Law_does_202 ⟨by decide, by decide⟩ ?_
  refine r_and3 dd_Law_does_203 ?_
  refine r_if_le dd_Law_does_204 (fun c_204 => ?_) (fun c_204 => ?_)
  · exfalso; omega
  · refine r_iconst dd_Law_does_207 ⟨by decide, by decide⟩ ?_
    refine r_goto dd_Law_does_208 ?_
    refine r_V2W dd_Law_does_212 ml_Law_43 ok_Poo_live vi_Poo_live vk_0 (by decide) (clS rfl (Nat.le_refl _) (rmOK_self _ _)) rfl ca ?_
    exact r_retI dd_Law_does_215 (by first | rfl | omega | exact (b2_t (by first | assumption | omega)).symm | exact (b2_f (by first | assumption | omega)).symm) rfl
theorem do_live_0 (h0 : ¬ 0 < shrI v 8 % 4) (ca : MetC mi_Poo_live [vR 0, vI t, vI 0] (st μ) (some (vI r)) (st μ')) : SPW mi_Law_does 219 196 [some (vR 0), some (vI v), some (vI t), some (vI b), some (vI x)] [] (st μ) (some (vI r)) (st μ') := by
  refine r_aloadn dd_Law_does_196 rfl ?_
  refine r_iloadn dd_Law_does_197 rfl ?_
  refine r_iloadn dd_Law_does_198 rfl ?_
  refine r_bip dd_Law_does_199 ⟨by decide, by decide⟩ ?_
  refine r_ishr dd_Law_does_201 ?_
  refine r_iconst dd_Law_does_202 ⟨by decide, by decide⟩ ?_
  refine r_and3 dd_Law_does_203 ?_
  refine r_if_le dd_Law_does_204 (fun c_204 => ?_) (fun c_204 => ?_)
  · refine r_iconst dd_Law_does_211 ⟨by decide, by decide⟩ ?_
    refine r_V2W dd_Law_does_212 ml_Law_43 ok_Poo_live vi_Poo_live vk_0 (by decide) (clS rfl (Nat.le_refl _) (rmOK_self _ _)) rfl ca ?_
    exact r_retI dd_Law_does_215 (by first | rfl | omega | exact (b2_t (by first | assumption | omega)).symm | exact (b2_f (by first | assumption | omega)).symm) rfl
  · exfalso; omega
theorem do_lim (h0 : shrI v 4 % 2 = 0) (ca : MetC mi_Poo_setLimit [vR 0, vI (lowV (shrI v 5) 6), vI (lowV (shrI v 8) 65)] (st μ) (some (vI r)) (st μ')) : SPW mi_Law_does 219 216 [some (vR 0), some (vI v), some (vI t), some (vI b), some (vI x)] [] (st μ) (some (vI r)) (st μ') := by
  refine r_iloadn dd_Law_does_216 rfl ?_
  refine r_iconst dd_Law_does_217 ⟨by decide, by decide⟩ ?_
  refine r_ishr dd_Law_does_218 ?_
  refine r_iconst dd_Law_does_219 ⟨by decide, by decide⟩ ?_
  refine r_and1 dd_Law_does_220 ?_
  refine r_if_ne dd_Law_does_221 (fun c_221 => ?_) (fun c_221 => ?_)
  · exfalso; omega
  · refine r_aloadn dd_Law_does_224 rfl ?_
    refine r_iloadn dd_Law_does_225 rfl ?_
    refine r_iconst dd_Law_does_226 ⟨by decide, by decide⟩ ?_
    refine r_ishr dd_Law_does_227 ?_
    refine r_bip dd_Law_does_228 ⟨by decide, by decide⟩ ?_
    refine r_S2W dd_Law_does_230 ml_Law_14 ok_Law_low st_Law_low (clS rfl (Nat.le_refl _) (rmOK_self _ _)) rfl (c_Law_low (by decide)) ?_
    refine r_iloadn dd_Law_does_233 rfl ?_
    refine r_bip dd_Law_does_234 ⟨by decide, by decide⟩ ?_
    refine r_ishr dd_Law_does_236 ?_
    refine r_bip dd_Law_does_237 ⟨by decide, by decide⟩ ?_
    refine r_S2W dd_Law_does_239 ml_Law_14 ok_Law_low st_Law_low (clS rfl (Nat.le_refl _) (rmOK_self _ _)) rfl (c_Law_low (by decide)) ?_
    refine r_V2W dd_Law_does_242 ml_Law_47 ok_Poo_setLimit vi_Poo_setLimit vk_0 (by decide) (clS rfl (Nat.le_refl _) (rmOK_self _ _)) rfl ca ?_
    refine r_goto dd_Law_does_245 ?_
    exact r_retI dd_Law_does_262 (by first | rfl | omega | exact (b2_t (by first | assumption | omega)).symm | exact (b2_f (by first | assumption | omega)).symm) rfl
theorem do_pat (h0 : ¬ shrI v 4 % 2 = 0) (ca : MetC mi_Poo_setPatience [vR 0, vI (1 + lowV (shrI v 5) 60)] (st μ) (some (vI r)) (st μ')) : SPW mi_Law_does 219 216 [some (vR 0), some (vI v), some (vI t), some (vI b), some (vI x)] [] (st μ) (some (vI r)) (st μ') := by
  refine r_iloadn dd_Law_does_216 rfl ?_
  refine r_iconst dd_Law_does_217 ⟨by decide, by decide⟩ ?_
  refine r_ishr dd_Law_does_218 ?_
  refine r_iconst dd_Law_does_219 ⟨by decide, by decide⟩ ?_
  refine r_and1 dd_Law_does_220 ?_
  refine r_if_ne dd_Law_does_221 (fun c_221 => ?_) (fun c_221 => ?_)
  · refine r_aloadn dd_Law_does_248 rfl ?_
    refine r_iconst dd_Law_does_249 ⟨by decide, by decide⟩ ?_
    refine r_iloadn dd_Law_does_250 rfl ?_
    refine r_iconst dd_Law_does_251 ⟨by decide, by decide⟩ ?_
    refine r_ishr dd_Law_does_252 ?_
    refine r_bip dd_Law_does_253 ⟨by decide, by decide⟩ ?_
    refine r_S2W dd_Law_does_255 ml_Law_14 ok_Law_low st_Law_low (clS rfl (Nat.le_refl _) (rmOK_self _ _)) rfl (c_Law_low (by decide)) ?_
    refine r_iadd dd_Law_does_258 (by have := lowV_rg (v := shrI v 5) (n := 60) (by decide); exact ⟨by omega, by omega⟩) ?_
    refine r_V1W dd_Law_does_259 ml_Law_50 ok_Poo_setPatience vi_Poo_setPatience vk_0 (by decide) (clS rfl (Nat.le_refl _) (rmOK_self _ _)) rfl ca ?_
    exact r_retI dd_Law_does_262 (by first | rfl | omega | exact (b2_t (by first | assumption | omega)).symm | exact (b2_f (by first | assumption | omega)).symm) rfl
  · exfalso; omega
theorem do_sweep  (ca : MetC mi_Poo_sweep [vR 0] (st μ) (some (vI r)) (st μ')) : SPW mi_Law_does 219 263 [some (vR 0), some (vI v), some (vI t), some (vI b), some (vI x)] [] (st μ) (some (vI r)) (st μ') := by
  refine r_aloadn dd_Law_does_263 rfl ?_
  refine r_V0W dd_Law_does_264 ml_Law_53 ok_Poo_sweep vi_Poo_sweep vk_0 (by decide) (clS rfl (Nat.le_refl _) (rmOK_self _ _)) rfl ca ?_
  exact r_retI dd_Law_does_267 (by first | rfl | omega | exact (b2_t (by first | assumption | omega)).symm | exact (b2_f (by first | assumption | omega)).symm) rfl
theorem do_pass  (ca : MetC mi_Poo_pass [vR 0, vI (1 + lowV (shrI v 4) 30)] (st μ) (some (vI r)) (st μ')) : SPW mi_Law_does 219 268 [some (vR 0), some (vI v), some (vI t), some (vI b), some (vI x)] [] (st μ) (some (vI r)) (st μ') := by
  refine r_aloadn dd_Law_does_268 rfl ?_
  refine r_iconst dd_Law_does_269 ⟨by decide, by decide⟩ ?_
  refine r_iloadn dd_Law_does_270 rfl ?_
  refine r_iconst dd_Law_does_271 ⟨by decide, by decide⟩ ?_
  refine r_ishr dd_Law_does_272 ?_
  refine r_bip dd_Law_does_273 ⟨by decide, by decide⟩ ?_
  refine r_S2W dd_Law_does_275 ml_Law_14 ok_Law_low st_Law_low (clS rfl (Nat.le_refl _) (rmOK_self _ _)) rfl (c_Law_low (by decide)) ?_
  refine r_iadd dd_Law_does_278 (by have := lowV_rg (v := shrI v 4) (n := 30) (by decide); exact ⟨by omega, by omega⟩) ?_
  refine r_V1W dd_Law_does_279 ml_Law_57 ok_Poo_pass vi_Poo_pass vk_0 (by decide) (clS rfl (Nat.le_refl _) (rmOK_self _ _)) rfl ca ?_
  exact r_retI dd_Law_does_282 (by first | rfl | omega | exact (b2_t (by first | assumption | omega)).symm | exact (b2_f (by first | assumption | omega)).symm) rfl
theorem do_sw_0 (hz : v % 16 = 0) (kk : SPW mi_Law_does 219 108 [some (vR 0), some (vI v), some (vI t), some (vI b), some (vI x)] [] (st μ) (some (vI r)) (st μ')) : SPW mi_Law_does 219 38 [some (vR 0), some (vI v), some (vI t), some (vI b), some (vI x)] [vI (v % 16)] (st μ) (some (vI r)) (st μ') := r_tabAt (tgt := 108) (off := 70) dd_Law_does_38 hz (by decide) rfl rfl kk
theorem do_sw_1 (hz : v % 16 = 1) (kk : SPW mi_Law_does 219 108 [some (vR 0), some (vI v), some (vI t), some (vI b), some (vI x)] [] (st μ) (some (vI r)) (st μ')) : SPW mi_Law_does 219 38 [some (vR 0), some (vI v), some (vI t), some (vI b), some (vI x)] [vI (v % 16)] (st μ) (some (vI r)) (st μ') := r_tabAt (tgt := 108) (off := 70) dd_Law_does_38 hz (by decide) rfl rfl kk
theorem do_sw_2 (hz : v % 16 = 2) (kk : SPW mi_Law_does 219 108 [some (vR 0), some (vI v), some (vI t), some (vI b), some (vI x)] [] (st μ) (some (vI r)) (st μ')) : SPW mi_Law_does 219 38 [some (vR 0), some (vI v), some (vI t), some (vI b), some (vI x)] [vI (v % 16)] (st μ) (some (vI r)) (st μ') := r_tabAt (tgt := 108) (off := 70) dd_Law_does_38 hz (by decide) rfl rfl kk
theorem do_sw_3 (hz : v % 16 = 3) (kk : SPW mi_Law_does 219 108 [some (vR 0), some (vI v), some (vI t), some (vI b), some (vI x)] [] (st μ) (some (vI r)) (st μ')) : SPW mi_Law_does 219 38 [some (vR 0), some (vI v), some (vI t), some (vI b), some (vI x)] [vI (v % 16)] (st μ) (some (vI r)) (st μ') := r_tabAt (tgt := 108) (off := 70) dd_Law_does_38 hz (by decide) rfl rfl kk
theorem do_sw_4 (hz : v % 16 = 4) (kk : SPW mi_Law_does 219 108 [some (vR 0), some (vI v), some (vI t), some (vI b), some (vI x)] [] (st μ) (some (vI r)) (st μ')) : SPW mi_Law_does 219 38 [some (vR 0), some (vI v), some (vI t), some (vI b), some (vI x)] [vI (v % 16)] (st μ) (some (vI r)) (st μ') := r_tabAt (tgt := 108) (off := 70) dd_Law_does_38 hz (by decide) rfl rfl kk
theorem do_sw_5 (hz : v % 16 = 5) (kk : SPW mi_Law_does 219 125 [some (vR 0), some (vI v), some (vI t), some (vI b), some (vI x)] [] (st μ) (some (vI r)) (st μ')) : SPW mi_Law_does 219 38 [some (vR 0), some (vI v), some (vI t), some (vI b), some (vI x)] [vI (v % 16)] (st μ) (some (vI r)) (st μ') := r_tabAt (tgt := 125) (off := 87) dd_Law_does_38 hz (by decide) rfl rfl kk
theorem do_sw_6 (hz : v % 16 = 6) (kk : SPW mi_Law_does 219 125 [some (vR 0), some (vI v), some (vI t), some (vI b), some (vI x)] [] (st μ) (some (vI r)) (st μ')) : SPW mi_Law_does 219 38 [some (vR 0), some (vI v), some (vI t), some (vI b), some (vI x)] [vI (v % 16)] (st μ) (some (vI r)) (st μ') := r_tabAt (tgt := 125) (off := 87) dd_Law_does_38 hz (by decide) rfl rfl kk
theorem do_sw_7 (hz : v % 16 = 7) (kk : SPW mi_Law_does 219 146 [some (vR 0), some (vI v), some (vI t), some (vI b), some (vI x)] [] (st μ) (some (vI r)) (st μ')) : SPW mi_Law_does 219 38 [some (vR 0), some (vI v), some (vI t), some (vI b), some (vI x)] [vI (v % 16)] (st μ) (some (vI r)) (st μ') := r_tabAt (tgt := 146) (off := 108) dd_Law_does_38 hz (by decide) rfl rfl kk
theorem do_sw_8 (hz : v % 16 = 8) (kk : SPW mi_Law_does 219 146 [some (vR 0), some (vI v), some (vI t), some (vI b), some (vI x)] [] (st μ) (some (vI r)) (st μ')) : SPW mi_Law_does 219 38 [some (vR 0), some (vI v), some (vI t), some (vI b), some (vI x)] [vI (v % 16)] (st μ) (some (vI r)) (st μ') := r_tabAt (tgt := 146) (off := 108) dd_Law_does_38 hz (by decide) rfl rfl kk
theorem do_sw_9 (hz : v % 16 = 9) (kk : SPW mi_Law_does 219 146 [some (vR 0), some (vI v), some (vI t), some (vI b), some (vI x)] [] (st μ) (some (vI r)) (st μ')) : SPW mi_Law_does 219 38 [some (vR 0), some (vI v), some (vI t), some (vI b), some (vI x)] [vI (v % 16)] (st μ) (some (vI r)) (st μ') := r_tabAt (tgt := 146) (off := 108) dd_Law_does_38 hz (by decide) rfl rfl kk
theorem do_sw_10 (hz : v % 16 = 10) (kk : SPW mi_Law_does 219 190 [some (vR 0), some (vI v), some (vI t), some (vI b), some (vI x)] [] (st μ) (some (vI r)) (st μ')) : SPW mi_Law_does 219 38 [some (vR 0), some (vI v), some (vI t), some (vI b), some (vI x)] [vI (v % 16)] (st μ) (some (vI r)) (st μ') := r_tabAt (tgt := 190) (off := 152) dd_Law_does_38 hz (by decide) rfl rfl kk
theorem do_sw_11 (hz : v % 16 = 11) (kk : SPW mi_Law_does 219 196 [some (vR 0), some (vI v), some (vI t), some (vI b), some (vI x)] [] (st μ) (some (vI r)) (st μ')) : SPW mi_Law_does 219 38 [some (vR 0), some (vI v), some (vI t), some (vI b), some (vI x)] [vI (v % 16)] (st μ) (some (vI r)) (st μ') := r_tabAt (tgt := 196) (off := 158) dd_Law_does_38 hz (by decide) rfl rfl kk
theorem do_sw_12 (hz : v % 16 = 12) (kk : SPW mi_Law_does 219 216 [some (vR 0), some (vI v), some (vI t), some (vI b), some (vI x)] [] (st μ) (some (vI r)) (st μ')) : SPW mi_Law_does 219 38 [some (vR 0), some (vI v), some (vI t), some (vI b), some (vI x)] [vI (v % 16)] (st μ) (some (vI r)) (st μ') := r_tabAt (tgt := 216) (off := 178) dd_Law_does_38 hz (by decide) rfl rfl kk
theorem do_sw_13 (hz : v % 16 = 13) (kk : SPW mi_Law_does 219 263 [some (vR 0), some (vI v), some (vI t), some (vI b), some (vI x)] [] (st μ) (some (vI r)) (st μ')) : SPW mi_Law_does 219 38 [some (vR 0), some (vI v), some (vI t), some (vI b), some (vI x)] [vI (v % 16)] (st μ) (some (vI r)) (st μ') := r_tabAt (tgt := 263) (off := 225) dd_Law_does_38 hz (by decide) rfl rfl kk
theorem do_sw_d (hz : 14 ≤ v % 16) (kk : SPW mi_Law_does 219 268 [some (vR 0), some (vI v), some (vI t), some (vI b), some (vI x)] [] (st μ) (some (vI r)) (st μ')) : SPW mi_Law_does 219 38 [some (vR 0), some (vI v), some (vI t), some (vI b), some (vI x)] [vI (v % 16)] (st μ) (some (vI r)) (st μ') := r_tabOut (tgt := 268) dd_Law_does_38 (by omega) rfl kk
end DO
/-- what a call by a number leaves -/
abbrev DoR (K : Int) (μ : Int → Int → Int) (m : Int → Int) (v : Int) (P : Int → (Int → Int → Int) → Prop) : Prop := ∃ (r : Int) (μ' : Int → Int → Int) (m' : Int → Int) (H' : Int → Int → Int), P r μ' ∧ GV (K + 40000) μ' m' H' ∧ m' 471 ≤ m 471 + 1 ∧ (∀ k, μ' (-1) k = μ (-1) k) ∧ -6 ≤ r ∧ (v % 16 = 13 → lksM m' 6 = 0)
theorem do_all {K : Int} {μ : Int → Int → Int} {m : Int → Int} {H : Int → Int → Int} (h : GV K μ m H) (hK : K + 40000 ≤ 500000000) (v t b x : Int) : DoR K μ m v (fun r μ' => SPW mi_Law_does 219 38 [some (vR 0), some (vI v), some (vI t), some (vI b), some (vI x)] [vI (v % 16)] (st μ) (some (vI r)) (st μ')) := by
  have vr : 0 ≤ v % 16 ∧ v % 16 < 16 := ⟨Int.emod_nonneg _ (by decide), Int.emod_lt_of_pos _ (by decide)⟩
  by_cases s0 : v % 16 = 0
  · obtain ⟨r, μ', m', H', c, g, e1, e2, e3⟩ := op_ask h hK t (1 + lowV (shrI v 7) 14)
    exact ⟨r, μ', m', H', do_sw_0 s0 (do_ask c), g, e1, e2, e3, fun z => by omega⟩
  by_cases s1 : v % 16 = 1
  · obtain ⟨r, μ', m', H', c, g, e1, e2, e3⟩ := op_ask h hK t (1 + lowV (shrI v 7) 14)
    exact ⟨r, μ', m', H', do_sw_1 s1 (do_ask c), g, e1, e2, e3, fun z => by omega⟩
  by_cases s2 : v % 16 = 2
  · obtain ⟨r, μ', m', H', c, g, e1, e2, e3⟩ := op_ask h hK t (1 + lowV (shrI v 7) 14)
    exact ⟨r, μ', m', H', do_sw_2 s2 (do_ask c), g, e1, e2, e3, fun z => by omega⟩
  by_cases s3 : v % 16 = 3
  · obtain ⟨r, μ', m', H', c, g, e1, e2, e3⟩ := op_ask h hK t (1 + lowV (shrI v 7) 14)
    exact ⟨r, μ', m', H', do_sw_3 s3 (do_ask c), g, e1, e2, e3, fun z => by omega⟩
  by_cases s4 : v % 16 = 4
  · obtain ⟨r, μ', m', H', c, g, e1, e2, e3⟩ := op_ask h hK t (1 + lowV (shrI v 7) 14)
    exact ⟨r, μ', m', H', do_sw_4 s4 (do_ask c), g, e1, e2, e3, fun z => by omega⟩
  by_cases s5 : v % 16 = 5
  · by_cases h0 : shrI v 11 % 4 = 0
    · obtain ⟨r, μ', m', H', c, g, e1, e2, e3⟩ := op_giveBack h hK t b
      exact ⟨r, μ', m', H', do_sw_5 s5 (do_give_t h0 c), g, e1, e2, e3, fun z => by omega⟩
    · obtain ⟨r, μ', m', H', c, g, e1, e2, e3⟩ := op_giveBack h hK x b
      exact ⟨r, μ', m', H', do_sw_5 s5 (do_give_x h0 c), g, e1, e2, e3, fun z => by omega⟩
  by_cases s6 : v % 16 = 6
  · by_cases h0 : shrI v 11 % 4 = 0
    · obtain ⟨r, μ', m', H', c, g, e1, e2, e3⟩ := op_giveBack h hK t b
      exact ⟨r, μ', m', H', do_sw_6 s6 (do_give_t h0 c), g, e1, e2, e3, fun z => by omega⟩
    · obtain ⟨r, μ', m', H', c, g, e1, e2, e3⟩ := op_giveBack h hK x b
      exact ⟨r, μ', m', H', do_sw_6 s6 (do_give_x h0 c), g, e1, e2, e3, fun z => by omega⟩
  by_cases s7 : v % 16 = 7
  · by_cases h0 : shrI v 11 % 8 = 0
    · obtain ⟨r, μ', m', H', c, g, e1, e2, e3⟩ := op_write h hK t b (lowV (shrI v 12) 30 - 8) (1 + lowV (shrI v 5) 99)
      exact ⟨r, μ', m', H', do_sw_7 s7 (do_write_t h0 c), g, e1, e2, e3, fun z => by omega⟩
    · obtain ⟨r, μ', m', H', c, g, e1, e2, e3⟩ := op_write h hK x b (lowV (shrI v 12) 30 - 8) (1 + lowV (shrI v 5) 99)
      exact ⟨r, μ', m', H', do_sw_7 s7 (do_write_x h0 c), g, e1, e2, e3, fun z => by omega⟩
  by_cases s8 : v % 16 = 8
  · by_cases h0 : shrI v 11 % 8 = 0
    · obtain ⟨r, μ', m', H', c, g, e1, e2, e3⟩ := op_write h hK t b (lowV (shrI v 12) 30 - 8) (1 + lowV (shrI v 5) 99)
      exact ⟨r, μ', m', H', do_sw_8 s8 (do_write_t h0 c), g, e1, e2, e3, fun z => by omega⟩
    · obtain ⟨r, μ', m', H', c, g, e1, e2, e3⟩ := op_write h hK x b (lowV (shrI v 12) 30 - 8) (1 + lowV (shrI v 5) 99)
      exact ⟨r, μ', m', H', do_sw_8 s8 (do_write_x h0 c), g, e1, e2, e3, fun z => by omega⟩
  by_cases s9 : v % 16 = 9
  · by_cases h0 : shrI v 11 % 8 = 0
    · obtain ⟨r, μ', m', H', c, g, e1, e2, e3⟩ := op_write h hK t b (lowV (shrI v 12) 30 - 8) (1 + lowV (shrI v 5) 99)
      exact ⟨r, μ', m', H', do_sw_9 s9 (do_write_t h0 c), g, e1, e2, e3, fun z => by omega⟩
    · obtain ⟨r, μ', m', H', c, g, e1, e2, e3⟩ := op_write h hK x b (lowV (shrI v 12) 30 - 8) (1 + lowV (shrI v 5) 99)
      exact ⟨r, μ', m', H', do_sw_9 s9 (do_write_x h0 c), g, e1, e2, e3, fun z => by omega⟩
  by_cases s10 : v % 16 = 10
  · obtain ⟨r, μ', m', H', c, g, e1, e2, e3⟩ := op_touch h hK b
    exact ⟨r, μ', m', H', do_sw_10 s10 (do_touch c), g, e1, e2, e3, fun z => by omega⟩
  by_cases s11 : v % 16 = 11
  · by_cases h0 : 0 < shrI v 8 % 4
    · obtain ⟨r, μ', m', H', c, g, e1, e2, e3⟩ := op_live h hK t (Or.inr rfl)
      exact ⟨r, μ', m', H', do_sw_11 s11 (do_live_1 h0 c), g, e1, e2, e3, fun z => by omega⟩
    · obtain ⟨r, μ', m', H', c, g, e1, e2, e3⟩ := op_live h hK t (Or.inl rfl)
      exact ⟨r, μ', m', H', do_sw_11 s11 (do_live_0 h0 c), g, e1, e2, e3, fun z => by omega⟩
  by_cases s12 : v % 16 = 12
  · by_cases h0 : shrI v 4 % 2 = 0
    · obtain ⟨r, μ', m', H', c, g, e1, e2, e3⟩ := op_setLimit h hK (lowV (shrI v 5) 6) (lowV (shrI v 8) 65)
      exact ⟨r, μ', m', H', do_sw_12 s12 (do_lim h0 c), g, e1, e2, e3, fun z => by omega⟩
    · obtain ⟨r, μ', m', H', c, g, e1, e2, e3⟩ := op_setPatience h hK (1 + lowV (shrI v 5) 60)
      exact ⟨r, μ', m', H', do_sw_12 s12 (do_pat h0 c), g, e1, e2, e3, fun z => by omega⟩
  by_cases s13 : v % 16 = 13
  · obtain ⟨r, μ', m', H', c, g, e1, e2, e3, e4⟩ := op_sweep h hK
    exact ⟨r, μ', m', H', do_sw_13 s13 (do_sweep c), g, e1, e2, e3, fun _ => e4⟩
  obtain ⟨r, μ', m', H', c, g, e1, e2, e3⟩ := op_pass h hK (1 + lowV (shrI v 4) 30)
  exact ⟨r, μ', m', H', do_sw_d (by omega) (do_pass c), g, e1, e2, e3, fun z => by omega⟩
theorem c_Law_does {K : Int} {μ : Int → Int → Int} {m : Int → Int} {H : Int → Int → Int} (h : GV K μ m H) (hK : K + 40000 ≤ 500000000) (v : Int) : DoR K μ m v (fun r μ' => MetC mi_Law_does [vR 0, vI v] (st μ) (some (vI r)) (st μ')) := by
  obtain ⟨b, hb⟩ := c_Law_owned h.now.ri (shrI v 7)
  by_cases h0 : b < 0
  · obtain ⟨r, μ', m', H', c, q⟩ := do_all h hK v (lowV (shrI v 4) 6) b (lowV (shrI v 4) 6)
    exact ⟨r, μ', m', H', do_pre_n h.now.ri rfl hb h0 c, q⟩
  · obtain ⟨r, μ', m', H', c, q⟩ := do_all h hK v (lowV (shrI v 4) 6) b (blockS m b 2)
    exact ⟨r, μ', m', H', do_pre_s h.now.ri rfl hb (by omega) c, q⟩
