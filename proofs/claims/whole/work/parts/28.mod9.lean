/-! the reference's public acts -/
theorem begOf_so {μ : Int → Int → Int} {m : Int → Int} {b : Int} : MetC mi_Mod_beginOf [vR 219, vI b] (st (setO μ 220 m)) (some (vI (begOf m b))) (st (setO μ 220 m)) := by
  have h := c_Mod_beginOf (μ := setO μ 220 m) (b := b)
  rw [setO_at] at h
  exact h
theorem owned_so {μ : Int → Int → Int} {m : Int → Int} {K : Int} (hW : MW K m) : MetC mi_Mod_owned [vR 219] (st (setO μ 220 m)) (some (vI (owsM m))) (st (setO μ 220 m)) := by
  have h := c_Mod_owned (μ := setO μ 220 m) (K := K) (by rw [setO_at]; exact hW)
  rw [setO_at] at h
  exact h
theorem blks_so {μ : Int → Int → Int} {m : Int → Int} {K t : Int} (hW : MW K m) : MetC mi_Mod_blocksOf [vR 219, vI t] (st (setO μ 220 m)) (some (vI (blksM m t))) (st (setO μ 220 m)) := by
  have h := c_Mod_blocksOf (μ := setO μ 220 m) (K := K) (t := t) (by rw [setO_at]; exact hW)
  rw [setO_at] at h
  exact h
theorem leaks_so {μ : Int → Int → Int} {m : Int → Int} {K t : Int} (hW : MW K m) : MetC mi_Mod_leaks [vR 219, vI t] (st (setO μ 220 m)) (some (vI (lksM m t))) (st (setO μ 220 m)) := by
  have h := c_Mod_leaks (μ := setO μ 220 m) (K := K) (t := t) (by rw [setO_at]; exact hW)
  rw [setO_at] at h
  exact h
theorem why_so {μ : Int → Int → Int} {m : Int → Int} {K t words : Int} (hW : MW K m) (h0 : 0 ≤ t) (h1 : t < 6) : MetC mi_Mod_why [vR 219, vI t, vI words] (st (setO μ 220 m)) (some (vI (whyM m t words))) (st (setO μ 220 m)) := by
  have h := c_Mod_why (μ := setO μ 220 m) (K := K) (t := t) (words := words) (by rw [setO_at]; exact hW) h0 h1
  rw [setO_at] at h
  exact h
theorem askF_so {μ : Int → Int → Int} {m : Int → Int} {K t words : Int} (hW : MW K m) : MetC mi_Mod_askFault [vR 219, vI t, vI words] (st (setO μ 220 m)) (some (vI (askFM m t words))) (st (setO μ 220 m)) := by
  have h := c_Mod_askFault (μ := setO μ 220 m) (K := K) (t := t) (words := words) (by rw [setO_at]; exact hW)
  rw [setO_at] at h
  exact h
theorem bkF_so {μ : Int → Int → Int} {m : Int → Int} {t b : Int} : MetC mi_Mod_backFault [vR 219, vI t, vI b] (st (setO μ 220 m)) (some (vI (bkFM m t b))) (st (setO μ 220 m)) := by
  have h := c_Mod_backFault (μ := setO μ 220 m) (t := t) (b := b)
  rw [setO_at] at h
  exact h
theorem psF_so {μ : Int → Int → Int} {m : Int → Int} {K t : Int} (hW : MW K m) : MetC mi_Mod_passFault [vR 219, vI t] (st (setO μ 220 m)) (some (vI (psFM m t))) (st (setO μ 220 m)) := by
  have h := c_Mod_passFault (μ := setO μ 220 m) (K := K) (ticks := t) (by rw [setO_at]; exact hW)
  rw [setO_at] at h
  exact h
theorem bgn_so {μ : Int → Int → Int} {m : Int → Int} {w : Int} (hz : m 128 ≠ 0) (h0 : 0 ≤ w) (h1 : w < 64) : MetC mi_Mod_beginAt [vR 219, vI w] (st (setO μ 220 m)) (some (vI (bgn m w))) (st (setO μ 220 m)) := by
  have h := c_Mod_beginAt (μ := setO μ 220 m) (word := w) (by rw [setO_at]; exact hz) h0 h1
  rw [setO_at] at h
  exact h
theorem fre_so {μ : Int → Int → Int} {m : Int → Int} {w : Int} (h0 : 0 ≤ w) (h1 : w < 64) : MetC mi_Mod_isFree [vR 219, vI w] (st (setO μ 220 m)) (some (vI (b2 (fre m w)))) (st (setO μ 220 m)) := by
  have h := c_Mod_isFree (μ := setO μ 220 m) h0 h1
  rw [setO_at] at h
  exact h
theorem grd_so {μ : Int → Int → Int} {m : Int → Int} {K w : Int} (hW : MW K m) (h0 : 0 ≤ w) (h1 : w < 64) : MetC mi_Mod_isGuard [vR 219, vI w] (st (setO μ 220 m)) (some (vI (b2 (grdM m w)))) (st (setO μ 220 m)) := by
  have h := c_Mod_isGuard (μ := setO μ 220 m) (K := K) (by rw [setO_at]; exact hW) (by rw [setO_at]; exact hW.2.2.2.2.2.2.2.2.2) h0 h1
  rw [setO_at] at h
  exact h
theorem askFM_c (m : Int → Int) (t words : Int) : askFM m t words = -1 ∨ askFM m t words = -2 ∨ askFM m t words = -3 ∨ askFM m t words = -6 ∨ (askFM m t words = 0 ∧ 0 ≤ t ∧ t < 6 ∧ 1 ≤ words ∧ words ≤ 14 ∧ m 471 ≠ 300 ∧ ¬ 0 < whyM m t words) := by
  unfold askFM
  split
  · exact Or.inl rfl
  · split
    · exact Or.inr (Or.inl rfl)
    · split
      · exact Or.inr (Or.inr (Or.inl rfl))
      · split
        · exact Or.inr (Or.inr (Or.inr (Or.inl rfl)))
        · exact Or.inr (Or.inr (Or.inr (Or.inr ⟨rfl, by omega, by omega, by omega, by omega, by omega, by omega⟩)))
theorem askFM_6 {m : Int → Int} {t words : Int} (h : askFM m t words = -6) : 0 ≤ t ∧ t < 6 ∧ 0 < whyM m t words := by
  unfold askFM at h
  split at h
  · omega
  · split at h
    · omega
    · split at h
      · omega
      · split at h
        · exact ⟨by omega, by omega, by assumption⟩
        · omega
theorem whyM_rg (m : Int → Int) (t words : Int) : whyM m t words = 0 ∨ whyM m t words = 1 ∨ whyM m t words = 2 ∨ whyM m t words = 3 := by
  unfold whyM
  split
  · exact Or.inr (Or.inl rfl)
  · split
    · exact Or.inr (Or.inr (Or.inl rfl))
    · split
      · exact Or.inr (Or.inr (Or.inr rfl))
      · exact Or.inl rfl
theorem bkFM_c (m : Int → Int) (t b : Int) : bkFM m t b = -1 ∨ bkFM m t b = -4 ∨ (bkFM m t b = 0 ∧ 0 ≤ t ∧ t < 6 ∧ begOf m b ≠ -5 ∧ m (256 + begOf m b) = t) := by
  unfold bkFM
  split
  · exact Or.inl rfl
  · split
    · exact Or.inr (Or.inl rfl)
    · exact Or.inr (Or.inr ⟨rfl, by omega, by omega, by omega, by omega⟩)
theorem psFM_c (m : Int → Int) (t : Int) : psFM m t = -2 ∨ psFM m t = -3 ∨ (psFM m t = 0 ∧ 1 ≤ t ∧ t ≤ 500 ∧ m 466 + t ≤ 9999) := by
  unfold psFM
  split
  · exact Or.inl rfl
  · split
    · exact Or.inr (Or.inl rfl)
    · exact Or.inr (Or.inr ⟨rfl, by omega, by omega, by omega⟩)
theorem wr_room {m : Int → Int} {t words : Int} (h : askFM m t words = 0) : whyM m t words = 0 ∧ m 471 ≠ 300 := by
  have h1 := askFM_c m t words
  have h2 := whyM_rg m t words
  omega

theorem c_Mod_ask_e {μ : Int → Int → Int} {m : Int → Int} {K t words : Int} (hW : MW K m) (h : askFM m t words < 0) (h6 : askFM m t words ≠ -6) : MetC mi_Mod_ask [vR 219, vI t, vI words] (st (setO μ 220 m)) (some (vI (askFM m t words))) (st (setO μ 220 m)) := by
  refine met_of ?_ (Nat.le_of_ble_eq_true rfl) (by decide) trivial (by decide) (Nat.le_of_ble_eq_true rfl)
  show SPW mi_Mod_ask 226 0 [some (vR 219), some (vI t), some (vI words), none] [] (st (setO μ 220 m)) (some (vI (askFM m t words))) (st (setO μ 220 m))
  refine r_aloadn dd_Mod_ask_0 rfl ?_
  refine r_iloadn dd_Mod_ask_1 rfl ?_
  refine r_iloadn dd_Mod_ask_2 rfl ?_
  refine r_V2W dd_Mod_ask_3 ml_Mod_87 ok_Mod_askFault vi_Mod_askFault vk_219 (by decide) (clS rfl (Nat.le_refl _) (rmOK_self _ _)) rfl (askF_so hW) ?_
  try simp only [setO_at, setO_ss, upM_on, so_219, so_221, so_222, so_223, so_224, so_225, uo_219, uo_221, uo_222, uo_223, uo_224, uo_225, upM_eq, upM_uu, t221_219, t221_220, t221_222, t221_223, t221_224, t221_225, v221, t222_219, t222_220, t222_221, t222_223, t222_224, t222_225, v222, t223_219, t223_220, t223_221, t223_222, t223_224, t223_225, v223, w_220, w_221, w_222, w_223, w_224, w_225]
  refine r_istoren (L' := [_, _, _, _]) dd_Mod_ask_6 rfl rfl ?_
  refine r_iloadn dd_Mod_ask_7 rfl ?_
  refine r_bip dd_Mod_ask_8 ⟨by decide, by decide⟩ ?_
  refine r_icmp_ne dd_Mod_ask_10 (fun c_10 => ?_) (fun c_10 => ?_)
  · refine r_iloadn dd_Mod_ask_28 rfl ?_
    refine r_if_ge dd_Mod_ask_29 (fun c_29 => ?_) (fun c_29 => ?_)
    · exfalso; omega
    · refine r_iloadn dd_Mod_ask_32 rfl ?_
      exact r_retI dd_Mod_ask_33 (by first | rfl | omega | exact (b2_t (by first | assumption | omega)).symm | exact (b2_f (by first | assumption | omega)).symm) rfl
  · exfalso; omega
theorem c_Mod_ask_r {μ : Int → Int → Int} {m : Int → Int} {K t words : Int} (hW : MW K m) (h : askFM m t words = -6) (hr : 0 ≤ μ 224 (whyM m t words) ∧ μ 224 (whyM m t words) ≤ 1000000) : MetC mi_Mod_ask [vR 219, vI t, vI words] (st (setO μ 220 m)) (some (vI (-6))) (st (setO (upM μ 224 (whyM m t words) (μ 224 (whyM m t words) + 1)) 220 m)) := by
  refine met_of ?_ (Nat.le_of_ble_eq_true rfl) (by decide) trivial (by decide) (Nat.le_of_ble_eq_true rfl)
  show SPW mi_Mod_ask 226 0 [some (vR 219), some (vI t), some (vI words), none] [] (st (setO μ 220 m)) (some (vI (-6))) (st (setO (upM μ 224 (whyM m t words) (μ 224 (whyM m t words) + 1)) 220 m))
  have hq := askFM_6 h
  have hw := whyM_rg m t words
  refine r_aloadn dd_Mod_ask_0 rfl ?_
  refine r_iloadn dd_Mod_ask_1 rfl ?_
  refine r_iloadn dd_Mod_ask_2 rfl ?_
  refine r_V2W dd_Mod_ask_3 ml_Mod_87 ok_Mod_askFault vi_Mod_askFault vk_219 (by decide) (clS rfl (Nat.le_refl _) (rmOK_self _ _)) rfl (askF_so hW) ?_
  try simp only [setO_at, setO_ss, upM_on, so_219, so_221, so_222, so_223, so_224, so_225, uo_219, uo_221, uo_222, uo_223, uo_224, uo_225, upM_eq, upM_uu, t221_219, t221_220, t221_222, t221_223, t221_224, t221_225, v221, t222_219, t222_220, t222_221, t222_223, t222_224, t222_225, v222, t223_219, t223_220, t223_221, t223_222, t223_224, t223_225, v223, w_220, w_221, w_222, w_223, w_224, w_225]
  refine r_istoren (L' := [_, _, _, _]) dd_Mod_ask_6 rfl rfl ?_
  refine r_iloadn dd_Mod_ask_7 rfl ?_
  refine r_bip dd_Mod_ask_8 ⟨by decide, by decide⟩ ?_
  refine r_icmp_ne dd_Mod_ask_10 (fun c_10 => ?_) (fun c_10 => ?_)
  · exfalso; omega
  · refine r_aloadn dd_Mod_ask_13 rfl ?_
    refine r_getR dd_Mod_ask_14 fl_Mod_22 (kI := 6) rfl fr_Mod_6 vk_219 R0_219_6 ?_
    refine r_aloadn dd_Mod_ask_17 rfl ?_
    refine r_iloadn dd_Mod_ask_18 rfl ?_
    refine r_iloadn dd_Mod_ask_19 rfl ?_
    refine r_V2W dd_Mod_ask_20 ml_Mod_74 ok_Mod_why vi_Mod_why vk_219 (by decide) (clS rfl (Nat.le_refl _) (rmOK_self _ _)) rfl (why_so hW hq.1 hq.2.1) ?_
    try simp only [setO_at, setO_ss, upM_on, so_219, so_221, so_222, so_223, so_224, so_225, uo_219, uo_221, uo_222, uo_223, uo_224, uo_225, upM_eq, upM_uu, t221_219, t221_220, t221_222, t221_223, t221_224, t221_225, v221, t222_219, t222_220, t222_221, t222_223, t222_224, t222_225, v222, t223_219, t223_220, t223_221, t223_222, t223_224, t223_225, v223, w_220, w_221, w_222, w_223, w_224, w_225]
    refine r_dup2 dd_Mod_ask_23 ?_
    refine r_iald dd_Mod_ask_24 (q := 14) (by decide) vk_224 (by omega) (by show _ < ((4 : Nat) : Int); omega) ?_
    try simp only [setO_at, setO_ss, upM_on, so_219, so_221, so_222, so_223, so_224, so_225, uo_219, uo_221, uo_222, uo_223, uo_224, uo_225, upM_eq, upM_uu, t221_219, t221_220, t221_222, t221_223, t221_224, t221_225, v221, t222_219, t222_220, t222_221, t222_223, t222_224, t222_225, v222, t223_219, t223_220, t223_221, t223_222, t223_224, t223_225, v223, w_220, w_221, w_222, w_223, w_224, w_225]
    refine r_iconst dd_Mod_ask_25 ⟨by decide, by decide⟩ ?_
    refine r_iadd dd_Mod_ask_26 ⟨by omega, by omega⟩ ?_
    refine r_iast dd_Mod_ask_27 (q := 14) (by decide) vk_224 (by omega) (by show _ < ((4 : Nat) : Int); omega) ?_
    try simp only [setO_at, setO_ss, upM_on, so_219, so_221, so_222, so_223, so_224, so_225, uo_219, uo_221, uo_222, uo_223, uo_224, uo_225, upM_eq, upM_uu, t221_219, t221_220, t221_222, t221_223, t221_224, t221_225, v221, t222_219, t222_220, t222_221, t222_223, t222_224, t222_225, v222, t223_219, t223_220, t223_221, t223_222, t223_224, t223_225, v223, w_220, w_221, w_222, w_223, w_224, w_225]
    refine r_iloadn dd_Mod_ask_28 rfl ?_
    refine r_if_ge dd_Mod_ask_29 (fun c_29 => ?_) (fun c_29 => ?_)
    · exfalso; omega
    · refine r_iloadn dd_Mod_ask_32 rfl ?_
      exact r_retI dd_Mod_ask_33 (by first | rfl | omega | exact (b2_t (by first | assumption | omega)).symm | exact (b2_f (by first | assumption | omega)).symm) rfl
theorem c_Mod_ask_o {μ : Int → Int → Int} {m : Int → Int} {K t words : Int} (hW : MW K m) (h : askFM m t words = 0) (hk : 0 ≤ μ 219 3 ∧ μ 219 3 ≤ 4) : MetC mi_Mod_ask [vR 219, vI t, vI words] (st (setO μ 220 m)) (some (vI (m 471))) (st (setO (knM μ m) 220 (askM m t words))) := by
  refine met_of ?_ (Nat.le_of_ble_eq_true rfl) (by decide) trivial (by decide) (Nat.le_of_ble_eq_true rfl)
  show SPW mi_Mod_ask 226 0 [some (vR 219), some (vI t), some (vI words), none] [] (st (setO μ 220 m)) (some (vI (m 471))) (st (setO (knM μ m) 220 (askM m t words)))
  have hq := wr_room h
  have hg := hW.2.2.2.2.2.2.2.1
  refine r_aloadn dd_Mod_ask_0 rfl ?_
  refine r_iloadn dd_Mod_ask_1 rfl ?_
  refine r_iloadn dd_Mod_ask_2 rfl ?_
  refine r_V2W dd_Mod_ask_3 ml_Mod_87 ok_Mod_askFault vi_Mod_askFault vk_219 (by decide) (clS rfl (Nat.le_refl _) (rmOK_self _ _)) rfl (askF_so hW) ?_
  try simp only [setO_at, setO_ss, upM_on, so_219, so_221, so_222, so_223, so_224, so_225, uo_219, uo_221, uo_222, uo_223, uo_224, uo_225, upM_eq, upM_uu, t221_219, t221_220, t221_222, t221_223, t221_224, t221_225, v221, t222_219, t222_220, t222_221, t222_223, t222_224, t222_225, v222, t223_219, t223_220, t223_221, t223_222, t223_224, t223_225, v223, w_220, w_221, w_222, w_223, w_224, w_225]
  refine r_istoren (L' := [_, _, _, _]) dd_Mod_ask_6 rfl rfl ?_
  refine r_iloadn dd_Mod_ask_7 rfl ?_
  refine r_bip dd_Mod_ask_8 ⟨by decide, by decide⟩ ?_
  refine r_icmp_ne dd_Mod_ask_10 (fun c_10 => ?_) (fun c_10 => ?_)
  · refine r_iloadn dd_Mod_ask_28 rfl ?_
    refine r_if_ge dd_Mod_ask_29 (fun c_29 => ?_) (fun c_29 => ?_)
    · refine r_aloadn dd_Mod_ask_34 rfl ?_
      refine r_V0N dd_Mod_ask_35 ml_Mod_90 ok_Mod_know vi_Mod_know vk_219 (by decide) (clS rfl (Nat.le_refl _) (rmOK_self _ _)) rfl (c_Mod_know hk) ?_
      try simp only [setO_at, setO_ss, upM_on, so_219, so_221, so_222, so_223, so_224, so_225, uo_219, uo_221, uo_222, uo_223, uo_224, uo_225, upM_eq, upM_uu, t221_219, t221_220, t221_222, t221_223, t221_224, t221_225, v221, t222_219, t222_220, t222_221, t222_223, t222_224, t222_225, v222, t223_219, t223_220, t223_221, t223_222, t223_224, t223_225, v223, w_220, w_221, w_222, w_223, w_224, w_225]
      refine r_aloadn dd_Mod_ask_38 rfl ?_
      refine r_iloadn dd_Mod_ask_39 rfl ?_
      refine r_iloadn dd_Mod_ask_40 rfl ?_
      refine r_V2W dd_Mod_ask_41 ml_Mod_93 ok_Mod_asks vi_Mod_asks vk_219 (by decide) (clS rfl (Nat.le_refl _) (rmOK_self _ _)) rfl (c_Mod_asks (μ := knM μ m) hW hq.1 (by omega)) ?_
      try simp only [setO_at, setO_ss, upM_on, so_219, so_221, so_222, so_223, so_224, so_225, uo_219, uo_221, uo_222, uo_223, uo_224, uo_225, upM_eq, upM_uu, t221_219, t221_220, t221_222, t221_223, t221_224, t221_225, v221, t222_219, t222_220, t222_221, t222_223, t222_224, t222_225, v222, t223_219, t223_220, t223_221, t223_222, t223_224, t223_225, v223, w_220, w_221, w_222, w_223, w_224, w_225]
      exact r_retI dd_Mod_ask_44 (by first | rfl | omega | exact (b2_t (by first | assumption | omega)).symm | exact (b2_f (by first | assumption | omega)).symm) rfl
    · exfalso; omega
  · exfalso; omega
theorem c_Mod_giveBack_e {μ : Int → Int → Int} {m : Int → Int} {t b : Int} (h : bkFM m t b < 0) : MetC mi_Mod_giveBack [vR 219, vI t, vI b] (st (setO μ 220 m)) (some (vI (bkFM m t b))) (st (setO μ 220 m)) := by
  refine met_of ?_ (Nat.le_of_ble_eq_true rfl) (by decide) trivial (by decide) (Nat.le_of_ble_eq_true rfl)
  show SPW mi_Mod_giveBack 226 0 [some (vR 219), some (vI t), some (vI b), none] [] (st (setO μ 220 m)) (some (vI (bkFM m t b))) (st (setO μ 220 m))
  refine r_aloadn dd_Mod_giveBack_0 rfl ?_
  refine r_iloadn dd_Mod_giveBack_1 rfl ?_
  refine r_iloadn dd_Mod_giveBack_2 rfl ?_
  refine r_V2W dd_Mod_giveBack_3 ml_Mod_96 ok_Mod_backFault vi_Mod_backFault vk_219 (by decide) (clS rfl (Nat.le_refl _) (rmOK_self _ _)) rfl bkF_so ?_
  try simp only [setO_at, setO_ss, upM_on, so_219, so_221, so_222, so_223, so_224, so_225, uo_219, uo_221, uo_222, uo_223, uo_224, uo_225, upM_eq, upM_uu, t221_219, t221_220, t221_222, t221_223, t221_224, t221_225, v221, t222_219, t222_220, t222_221, t222_223, t222_224, t222_225, v222, t223_219, t223_220, t223_221, t223_222, t223_224, t223_225, v223, w_220, w_221, w_222, w_223, w_224, w_225]
  refine r_istoren (L' := [_, _, _, _]) dd_Mod_giveBack_6 rfl rfl ?_
  refine r_iloadn dd_Mod_giveBack_7 rfl ?_
  refine r_if_ge dd_Mod_giveBack_8 (fun c_8 => ?_) (fun c_8 => ?_)
  · exfalso; omega
  · refine r_iloadn dd_Mod_giveBack_11 rfl ?_
    exact r_retI dd_Mod_giveBack_12 (by first | rfl | omega | exact (b2_t (by first | assumption | omega)).symm | exact (b2_f (by first | assumption | omega)).symm) rfl
theorem c_Mod_giveBack_o {μ : Int → Int → Int} {m : Int → Int} {K t b : Int} (hW : MW K m) (h : bkFM m t b = 0) (hk : 0 ≤ μ 219 3 ∧ μ 219 3 ≤ 4) : MetC mi_Mod_giveBack [vR 219, vI t, vI b] (st (setO μ 220 m)) (some (vI (brkM m (begOf m b)))) (st (setO (knM μ m) 220 (frM m (begOf m b)))) := by
  refine met_of ?_ (Nat.le_of_ble_eq_true rfl) (by decide) trivial (by decide) (Nat.le_of_ble_eq_true rfl)
  show SPW mi_Mod_giveBack 226 0 [some (vR 219), some (vI t), some (vI b), none] [] (st (setO μ 220 m)) (some (vI (brkM m (begOf m b)))) (st (setO (knM μ m) 220 (frM m (begOf m b))))
  have hc := bkFM_c m t b
  have hr := begOf_rg m b
  refine r_aloadn dd_Mod_giveBack_0 rfl ?_
  refine r_iloadn dd_Mod_giveBack_1 rfl ?_
  refine r_iloadn dd_Mod_giveBack_2 rfl ?_
  refine r_V2W dd_Mod_giveBack_3 ml_Mod_96 ok_Mod_backFault vi_Mod_backFault vk_219 (by decide) (clS rfl (Nat.le_refl _) (rmOK_self _ _)) rfl bkF_so ?_
  try simp only [setO_at, setO_ss, upM_on, so_219, so_221, so_222, so_223, so_224, so_225, uo_219, uo_221, uo_222, uo_223, uo_224, uo_225, upM_eq, upM_uu, t221_219, t221_220, t221_222, t221_223, t221_224, t221_225, v221, t222_219, t222_220, t222_221, t222_223, t222_224, t222_225, v222, t223_219, t223_220, t223_221, t223_222, t223_224, t223_225, v223, w_220, w_221, w_222, w_223, w_224, w_225]
  refine r_istoren (L' := [_, _, _, _]) dd_Mod_giveBack_6 rfl rfl ?_
  refine r_iloadn dd_Mod_giveBack_7 rfl ?_
  refine r_if_ge dd_Mod_giveBack_8 (fun c_8 => ?_) (fun c_8 => ?_)
  · refine r_aloadn dd_Mod_giveBack_13 rfl ?_
    refine r_V0N dd_Mod_giveBack_14 ml_Mod_90 ok_Mod_know vi_Mod_know vk_219 (by decide) (clS rfl (Nat.le_refl _) (rmOK_self _ _)) rfl (c_Mod_know hk) ?_
    try simp only [setO_at, setO_ss, upM_on, so_219, so_221, so_222, so_223, so_224, so_225, uo_219, uo_221, uo_222, uo_223, uo_224, uo_225, upM_eq, upM_uu, t221_219, t221_220, t221_222, t221_223, t221_224, t221_225, v221, t222_219, t222_220, t222_221, t222_223, t222_224, t222_225, v222, t223_219, t223_220, t223_221, t223_222, t223_224, t223_225, v223, w_220, w_221, w_222, w_223, w_224, w_225]
    refine r_aloadn dd_Mod_giveBack_17 rfl ?_
    refine r_aloadn dd_Mod_giveBack_18 rfl ?_
    refine r_iloadn dd_Mod_giveBack_19 rfl ?_
    refine r_V1W dd_Mod_giveBack_20 ml_Mod_78 ok_Mod_beginOf vi_Mod_beginOf vk_219 (by decide) (clS rfl (Nat.le_refl _) (rmOK_self _ _)) rfl begOf_so ?_
    try simp only [setO_at, setO_ss, upM_on, so_219, so_221, so_222, so_223, so_224, so_225, uo_219, uo_221, uo_222, uo_223, uo_224, uo_225, upM_eq, upM_uu, t221_219, t221_220, t221_222, t221_223, t221_224, t221_225, v221, t222_219, t222_220, t222_221, t222_223, t222_224, t222_225, v222, t223_219, t223_220, t223_221, t223_222, t223_224, t223_225, v223, w_220, w_221, w_222, w_223, w_224, w_225]
    refine r_V1W dd_Mod_giveBack_23 ml_Mod_84 ok_Mod_frees vi_Mod_frees vk_219 (by decide) (clS rfl (Nat.le_refl _) (rmOK_self _ _)) rfl (c_Mod_frees (μ := knM μ m) hW (by omega) (by omega) (by omega)) ?_
    try simp only [setO_at, setO_ss, upM_on, so_219, so_221, so_222, so_223, so_224, so_225, uo_219, uo_221, uo_222, uo_223, uo_224, uo_225, upM_eq, upM_uu, t221_219, t221_220, t221_222, t221_223, t221_224, t221_225, v221, t222_219, t222_220, t222_221, t222_223, t222_224, t222_225, v222, t223_219, t223_220, t223_221, t223_222, t223_224, t223_225, v223, w_220, w_221, w_222, w_223, w_224, w_225]
    exact r_retI dd_Mod_giveBack_26 (by first | rfl | omega | exact (b2_t (by first | assumption | omega)).symm | exact (b2_f (by first | assumption | omega)).symm) rfl
  · exfalso; omega
theorem c_Mod_pass_e {μ : Int → Int → Int} {m : Int → Int} {K t : Int} (hW : MW K m) (h : psFM m t < 0) : MetC mi_Mod_pass [vR 219, vI t] (st (setO μ 220 m)) (some (vI (psFM m t))) (st (setO μ 220 m)) := by
  refine met_of ?_ (Nat.le_of_ble_eq_true rfl) (by decide) trivial (by decide) (Nat.le_of_ble_eq_true rfl)
  show SPW mi_Mod_pass 226 0 [some (vR 219), some (vI t), none] [] (st (setO μ 220 m)) (some (vI (psFM m t))) (st (setO μ 220 m))
  refine r_aloadn dd_Mod_pass_0 rfl ?_
  refine r_iloadn dd_Mod_pass_1 rfl ?_
  refine r_V1W dd_Mod_pass_2 ml_Mod_108 ok_Mod_passFault vi_Mod_passFault vk_219 (by decide) (clS rfl (Nat.le_refl _) (rmOK_self _ _)) rfl (psF_so hW) ?_
  try simp only [setO_at, setO_ss, upM_on, so_219, so_221, so_222, so_223, so_224, so_225, uo_219, uo_221, uo_222, uo_223, uo_224, uo_225, upM_eq, upM_uu, t221_219, t221_220, t221_222, t221_223, t221_224, t221_225, v221, t222_219, t222_220, t222_221, t222_223, t222_224, t222_225, v222, t223_219, t223_220, t223_221, t223_222, t223_224, t223_225, v223, w_220, w_221, w_222, w_223, w_224, w_225]
  refine r_istoren (L' := [_, _, _]) dd_Mod_pass_5 rfl rfl ?_
  refine r_iloadn dd_Mod_pass_6 rfl ?_
  refine r_if_ge dd_Mod_pass_7 (fun c_7 => ?_) (fun c_7 => ?_)
  · exfalso; omega
  · refine r_iloadn dd_Mod_pass_10 rfl ?_
    exact r_retI dd_Mod_pass_11 (by first | rfl | omega | exact (b2_t (by first | assumption | omega)).symm | exact (b2_f (by first | assumption | omega)).symm) rfl
theorem c_Mod_pass_o {μ : Int → Int → Int} {m : Int → Int} {K t : Int} (hW : MW K m) (h : psFM m t = 0) (hk : 0 ≤ μ 219 3 ∧ μ 219 3 ≤ 4) : MetC mi_Mod_pass [vR 219, vI t] (st (setO μ 220 m)) (some (vI (lksM (psM m t) 6 - lksM m 6))) (st (setO (knM μ m) 220 (psM m t))) := by
  refine met_of ?_ (Nat.le_of_ble_eq_true rfl) (by decide) trivial (by decide) (Nat.le_of_ble_eq_true rfl)
  show SPW mi_Mod_pass 226 0 [some (vR 219), some (vI t), none] [] (st (setO μ 220 m)) (some (vI (lksM (psM m t) 6 - lksM m 6))) (st (setO (knM μ m) 220 (psM m t)))
  have hc := psFM_c m t
  refine r_aloadn dd_Mod_pass_0 rfl ?_
  refine r_iloadn dd_Mod_pass_1 rfl ?_
  refine r_V1W dd_Mod_pass_2 ml_Mod_108 ok_Mod_passFault vi_Mod_passFault vk_219 (by decide) (clS rfl (Nat.le_refl _) (rmOK_self _ _)) rfl (psF_so hW) ?_
  try simp only [setO_at, setO_ss, upM_on, so_219, so_221, so_222, so_223, so_224, so_225, uo_219, uo_221, uo_222, uo_223, uo_224, uo_225, upM_eq, upM_uu, t221_219, t221_220, t221_222, t221_223, t221_224, t221_225, v221, t222_219, t222_220, t222_221, t222_223, t222_224, t222_225, v222, t223_219, t223_220, t223_221, t223_222, t223_224, t223_225, v223, w_220, w_221, w_222, w_223, w_224, w_225]
  refine r_istoren (L' := [_, _, _]) dd_Mod_pass_5 rfl rfl ?_
  refine r_iloadn dd_Mod_pass_6 rfl ?_
  refine r_if_ge dd_Mod_pass_7 (fun c_7 => ?_) (fun c_7 => ?_)
  · refine r_aloadn dd_Mod_pass_12 rfl ?_
    refine r_V0N dd_Mod_pass_13 ml_Mod_90 ok_Mod_know vi_Mod_know vk_219 (by decide) (clS rfl (Nat.le_refl _) (rmOK_self _ _)) rfl (c_Mod_know hk) ?_
    try simp only [setO_at, setO_ss, upM_on, so_219, so_221, so_222, so_223, so_224, so_225, uo_219, uo_221, uo_222, uo_223, uo_224, uo_225, upM_eq, upM_uu, t221_219, t221_220, t221_222, t221_223, t221_224, t221_225, v221, t222_219, t222_220, t222_221, t222_223, t222_224, t222_225, v222, t223_219, t223_220, t223_221, t223_222, t223_224, t223_225, v223, w_220, w_221, w_222, w_223, w_224, w_225]
    refine r_aloadn dd_Mod_pass_16 rfl ?_
    refine r_iloadn dd_Mod_pass_17 rfl ?_
    refine r_V1W dd_Mod_pass_18 ml_Mod_111 ok_Mod_passes vi_Mod_passes vk_219 (by decide) (clS rfl (Nat.le_refl _) (rmOK_self _ _)) rfl (c_Mod_passes (μ := knM μ m) hW (by omega) (by omega)) ?_
    try simp only [setO_at, setO_ss, upM_on, so_219, so_221, so_222, so_223, so_224, so_225, uo_219, uo_221, uo_222, uo_223, uo_224, uo_225, upM_eq, upM_uu, t221_219, t221_220, t221_222, t221_223, t221_224, t221_225, v221, t222_219, t222_220, t222_221, t222_223, t222_224, t222_225, v222, t223_219, t223_220, t223_221, t223_222, t223_224, t223_225, v223, w_220, w_221, w_222, w_223, w_224, w_225]
    exact r_retI dd_Mod_pass_21 (by first | rfl | omega | exact (b2_t (by first | assumption | omega)).symm | exact (b2_f (by first | assumption | omega)).symm) rfl
  · exfalso; omega
theorem c_Mod_sweep_e {μ : Int → Int → Int} {m : Int → Int} {K : Int} (hW : MW K m) (h : lksM m 6 = 0) : MetC mi_Mod_sweep [vR 219] (st (setO μ 220 m)) (some (vI (-5))) (st (setO μ 220 m)) := by
  refine met_of ?_ (Nat.le_of_ble_eq_true rfl) (by decide) trivial (by decide) (Nat.le_of_ble_eq_true rfl)
  show SPW mi_Mod_sweep 226 0 [some (vR 219)] [] (st (setO μ 220 m)) (some (vI (-5))) (st (setO μ 220 m))
  refine r_aloadn dd_Mod_sweep_0 rfl ?_
  refine r_bip dd_Mod_sweep_1 ⟨by decide, by decide⟩ ?_
  refine r_V1W dd_Mod_sweep_3 ml_Mod_81 ok_Mod_leaks vi_Mod_leaks vk_219 (by decide) (clS rfl (Nat.le_refl _) (rmOK_self _ _)) rfl (leaks_so hW) ?_
  try simp only [setO_at, setO_ss, upM_on, so_219, so_221, so_222, so_223, so_224, so_225, uo_219, uo_221, uo_222, uo_223, uo_224, uo_225, upM_eq, upM_uu, t221_219, t221_220, t221_222, t221_223, t221_224, t221_225, v221, t222_219, t222_220, t222_221, t222_223, t222_224, t222_225, v222, t223_219, t223_220, t223_221, t223_222, t223_224, t223_225, v223, w_220, w_221, w_222, w_223, w_224, w_225]
  refine r_if_ne dd_Mod_sweep_6 (fun c_6 => ?_) (fun c_6 => ?_)
  · exfalso; omega
  · refine r_bip dd_Mod_sweep_9 ⟨by decide, by decide⟩ ?_
    exact r_retI dd_Mod_sweep_11 (by first | rfl | omega | exact (b2_t (by first | assumption | omega)).symm | exact (b2_f (by first | assumption | omega)).symm) rfl
theorem c_Mod_sweep_o {μ : Int → Int → Int} {m : Int → Int} {K : Int} (hW : MW K m) (hK : K + 1216 ≤ 500000000) (h : lksM m 6 ≠ 0) (hk : 0 ≤ μ 219 3 ∧ μ 219 3 ≤ 4) : MetC mi_Mod_sweep [vR 219] (st (setO μ 220 m)) (some (vI (swN 64 0 m))) (st (setO (knM μ m) 220 (swM 64 0 m))) := by
  refine met_of ?_ (Nat.le_of_ble_eq_true rfl) (by decide) trivial (by decide) (Nat.le_of_ble_eq_true rfl)
  show SPW mi_Mod_sweep 226 0 [some (vR 219)] [] (st (setO μ 220 m)) (some (vI (swN 64 0 m))) (st (setO (knM μ m) 220 (swM 64 0 m)))
  refine r_aloadn dd_Mod_sweep_0 rfl ?_
  refine r_bip dd_Mod_sweep_1 ⟨by decide, by decide⟩ ?_
  refine r_V1W dd_Mod_sweep_3 ml_Mod_81 ok_Mod_leaks vi_Mod_leaks vk_219 (by decide) (clS rfl (Nat.le_refl _) (rmOK_self _ _)) rfl (leaks_so hW) ?_
  try simp only [setO_at, setO_ss, upM_on, so_219, so_221, so_222, so_223, so_224, so_225, uo_219, uo_221, uo_222, uo_223, uo_224, uo_225, upM_eq, upM_uu, t221_219, t221_220, t221_222, t221_223, t221_224, t221_225, v221, t222_219, t222_220, t222_221, t222_223, t222_224, t222_225, v222, t223_219, t223_220, t223_221, t223_222, t223_224, t223_225, v223, w_220, w_221, w_222, w_223, w_224, w_225]
  refine r_if_ne dd_Mod_sweep_6 (fun c_6 => ?_) (fun c_6 => ?_)
  · refine r_aloadn dd_Mod_sweep_12 rfl ?_
    refine r_V0N dd_Mod_sweep_13 ml_Mod_90 ok_Mod_know vi_Mod_know vk_219 (by decide) (clS rfl (Nat.le_refl _) (rmOK_self _ _)) rfl (c_Mod_know hk) ?_
    try simp only [setO_at, setO_ss, upM_on, so_219, so_221, so_222, so_223, so_224, so_225, uo_219, uo_221, uo_222, uo_223, uo_224, uo_225, upM_eq, upM_uu, t221_219, t221_220, t221_222, t221_223, t221_224, t221_225, v221, t222_219, t222_220, t222_221, t222_223, t222_224, t222_225, v222, t223_219, t223_220, t223_221, t223_222, t223_224, t223_225, v223, w_220, w_221, w_222, w_223, w_224, w_225]
    refine r_aloadn dd_Mod_sweep_16 rfl ?_
    refine r_V0W dd_Mod_sweep_17 ml_Mod_114 ok_Mod_sweeps vi_Mod_sweeps vk_219 (by decide) (clS rfl (Nat.le_refl _) (rmOK_self _ _)) rfl (c_Mod_sweeps (μ := knM μ m) hW hK) ?_
    try simp only [setO_at, setO_ss, upM_on, so_219, so_221, so_222, so_223, so_224, so_225, uo_219, uo_221, uo_222, uo_223, uo_224, uo_225, upM_eq, upM_uu, t221_219, t221_220, t221_222, t221_223, t221_224, t221_225, v221, t222_219, t222_220, t222_221, t222_223, t222_224, t222_225, v222, t223_219, t223_220, t223_221, t223_222, t223_224, t223_225, v223, w_220, w_221, w_222, w_223, w_224, w_225]
    exact r_retI dd_Mod_sweep_20 (by first | rfl | omega | exact (b2_t (by first | assumption | omega)).symm | exact (b2_f (by first | assumption | omega)).symm) rfl
  · exfalso; omega
theorem c_Mod_setPatience_e {μ : Int → Int → Int} {m : Int → Int} {t : Int} (h : t < 1 ∨ 500 < t) : MetC mi_Mod_setPatience [vR 219, vI t] (st (setO μ 220 m)) (some (vI (-2))) (st (setO μ 220 m)) := by
  refine met_of ?_ (Nat.le_of_ble_eq_true rfl) (by decide) trivial (by decide) (Nat.le_of_ble_eq_true rfl)
  show SPW mi_Mod_setPatience 226 0 [some (vR 219), some (vI t)] [] (st (setO μ 220 m)) (some (vI (-2))) (st (setO μ 220 m))
  refine r_iloadn dd_Mod_setPatience_0 rfl ?_
  refine r_iconst dd_Mod_setPatience_1 ⟨by decide, by decide⟩ ?_
  refine r_sip dd_Mod_setPatience_2 ⟨by decide, by decide⟩ ?_
  refine r_S3W dd_Mod_setPatience_5 ml_Mod_35 ok_Mod_in st_Mod_in (clS rfl (Nat.le_refl _) (rmOK_self _ _)) rfl c_Mod_in ?_
  try simp only [setO_at, setO_ss, upM_on, so_219, so_221, so_222, so_223, so_224, so_225, uo_219, uo_221, uo_222, uo_223, uo_224, uo_225, upM_eq, upM_uu, t221_219, t221_220, t221_222, t221_223, t221_224, t221_225, v221, t222_219, t222_220, t222_221, t222_223, t222_224, t222_225, v222, t223_219, t223_220, t223_221, t223_222, t223_224, t223_225, v223, w_220, w_221, w_222, w_223, w_224, w_225]
  refine r_if_ne_b dd_Mod_setPatience_8 (fun c_8 => ?_) (fun c_8 => ?_)
  · exfalso; omega
  · refine r_bip dd_Mod_setPatience_11 ⟨by decide, by decide⟩ ?_
    exact r_retI dd_Mod_setPatience_13 (by first | rfl | omega | exact (b2_t (by first | assumption | omega)).symm | exact (b2_f (by first | assumption | omega)).symm) rfl
theorem c_Mod_setPatience_n {μ : Int → Int → Int} {m : Int → Int} {t : Int} (h : 1 ≤ t ∧ t ≤ 500) (h2 : m 467 = t) : MetC mi_Mod_setPatience [vR 219, vI t] (st (setO μ 220 m)) (some (vI (-5))) (st (setO μ 220 m)) := by
  refine met_of ?_ (Nat.le_of_ble_eq_true rfl) (by decide) trivial (by decide) (Nat.le_of_ble_eq_true rfl)
  show SPW mi_Mod_setPatience 226 0 [some (vR 219), some (vI t)] [] (st (setO μ 220 m)) (some (vI (-5))) (st (setO μ 220 m))
  refine r_iloadn dd_Mod_setPatience_0 rfl ?_
  refine r_iconst dd_Mod_setPatience_1 ⟨by decide, by decide⟩ ?_
  refine r_sip dd_Mod_setPatience_2 ⟨by decide, by decide⟩ ?_
  refine r_S3W dd_Mod_setPatience_5 ml_Mod_35 ok_Mod_in st_Mod_in (clS rfl (Nat.le_refl _) (rmOK_self _ _)) rfl c_Mod_in ?_
  try simp only [setO_at, setO_ss, upM_on, so_219, so_221, so_222, so_223, so_224, so_225, uo_219, uo_221, uo_222, uo_223, uo_224, uo_225, upM_eq, upM_uu, t221_219, t221_220, t221_222, t221_223, t221_224, t221_225, v221, t222_219, t222_220, t222_221, t222_223, t222_224, t222_225, v222, t223_219, t223_220, t223_221, t223_222, t223_224, t223_225, v223, w_220, w_221, w_222, w_223, w_224, w_225]
  refine r_if_ne_b dd_Mod_setPatience_8 (fun c_8 => ?_) (fun c_8 => ?_)
  · refine r_aloadn dd_Mod_setPatience_14 rfl ?_
    refine r_getR dd_Mod_setPatience_15 fl_Mod_7 (kI := 0) rfl fr_Mod_0 vk_219 R0_219_0 ?_
    refine r_sip dd_Mod_setPatience_18 ⟨by decide, by decide⟩ ?_
    refine r_iald dd_Mod_setPatience_21 (q := 12) (by decide) vk_220 (by omega) (by show _ < ((472 : Nat) : Int); omega) ?_
    try simp only [setO_at, setO_ss, upM_on, so_219, so_221, so_222, so_223, so_224, so_225, uo_219, uo_221, uo_222, uo_223, uo_224, uo_225, upM_eq, upM_uu, t221_219, t221_220, t221_222, t221_223, t221_224, t221_225, v221, t222_219, t222_220, t222_221, t222_223, t222_224, t222_225, v222, t223_219, t223_220, t223_221, t223_222, t223_224, t223_225, v223, w_220, w_221, w_222, w_223, w_224, w_225]
    refine r_iloadn dd_Mod_setPatience_22 rfl ?_
    refine r_icmp_ne dd_Mod_setPatience_23 (fun c_23 => ?_) (fun c_23 => ?_)
    · exfalso; omega
    · refine r_bip dd_Mod_setPatience_26 ⟨by decide, by decide⟩ ?_
      exact r_retI dd_Mod_setPatience_28 (by first | rfl | omega | exact (b2_t (by first | assumption | omega)).symm | exact (b2_f (by first | assumption | omega)).symm) rfl
  · exfalso; omega
theorem c_Mod_setPatience_o {μ : Int → Int → Int} {m : Int → Int} {t : Int} (h : 1 ≤ t ∧ t ≤ 500) (h2 : m 467 ≠ t) (hk : 0 ≤ μ 219 3 ∧ μ 219 3 ≤ 4) : MetC mi_Mod_setPatience [vR 219, vI t] (st (setO μ 220 m)) (some (vI (m 467))) (st (setO (knM μ m) 220 (up1 m 467 t))) := by
  refine met_of ?_ (Nat.le_of_ble_eq_true rfl) (by decide) trivial (by decide) (Nat.le_of_ble_eq_true rfl)
  show SPW mi_Mod_setPatience 226 0 [some (vR 219), some (vI t)] [] (st (setO μ 220 m)) (some (vI (m 467))) (st (setO (knM μ m) 220 (up1 m 467 t)))
  refine r_iloadn dd_Mod_setPatience_0 rfl ?_
  refine r_iconst dd_Mod_setPatience_1 ⟨by decide, by decide⟩ ?_
  refine r_sip dd_Mod_setPatience_2 ⟨by decide, by decide⟩ ?_
  refine r_S3W dd_Mod_setPatience_5 ml_Mod_35 ok_Mod_in st_Mod_in (clS rfl (Nat.le_refl _) (rmOK_self _ _)) rfl c_Mod_in ?_
  try simp only [setO_at, setO_ss, upM_on, so_219, so_221, so_222, so_223, so_224, so_225, uo_219, uo_221, uo_222, uo_223, uo_224, uo_225, upM_eq, upM_uu, t221_219, t221_220, t221_222, t221_223, t221_224, t221_225, v221, t222_219, t222_220, t222_221, t222_223, t222_224, t222_225, v222, t223_219, t223_220, t223_221, t223_222, t223_224, t223_225, v223, w_220, w_221, w_222, w_223, w_224, w_225]
  refine r_if_ne_b dd_Mod_setPatience_8 (fun c_8 => ?_) (fun c_8 => ?_)
  · refine r_aloadn dd_Mod_setPatience_14 rfl ?_
    refine r_getR dd_Mod_setPatience_15 fl_Mod_7 (kI := 0) rfl fr_Mod_0 vk_219 R0_219_0 ?_
    refine r_sip dd_Mod_setPatience_18 ⟨by decide, by decide⟩ ?_
    refine r_iald dd_Mod_setPatience_21 (q := 12) (by decide) vk_220 (by omega) (by show _ < ((472 : Nat) : Int); omega) ?_
    try simp only [setO_at, setO_ss, upM_on, so_219, so_221, so_222, so_223, so_224, so_225, uo_219, uo_221, uo_222, uo_223, uo_224, uo_225, upM_eq, upM_uu, t221_219, t221_220, t221_222, t221_223, t221_224, t221_225, v221, t222_219, t222_220, t222_221, t222_223, t222_224, t222_225, v222, t223_219, t223_220, t223_221, t223_222, t223_224, t223_225, v223, w_220, w_221, w_222, w_223, w_224, w_225]
    refine r_iloadn dd_Mod_setPatience_22 rfl ?_
    refine r_icmp_ne dd_Mod_setPatience_23 (fun c_23 => ?_) (fun c_23 => ?_)
    · refine r_aloadn dd_Mod_setPatience_29 rfl ?_
      refine r_V0N dd_Mod_setPatience_30 ml_Mod_90 ok_Mod_know vi_Mod_know vk_219 (by decide) (clS rfl (Nat.le_refl _) (rmOK_self _ _)) rfl (c_Mod_know hk) ?_
      try simp only [setO_at, setO_ss, upM_on, so_219, so_221, so_222, so_223, so_224, so_225, uo_219, uo_221, uo_222, uo_223, uo_224, uo_225, upM_eq, upM_uu, t221_219, t221_220, t221_222, t221_223, t221_224, t221_225, v221, t222_219, t222_220, t222_221, t222_223, t222_224, t222_225, v222, t223_219, t223_220, t223_221, t223_222, t223_224, t223_225, v223, w_220, w_221, w_222, w_223, w_224, w_225]
      refine r_aloadn dd_Mod_setPatience_33 rfl ?_
      refine r_sip dd_Mod_setPatience_34 ⟨by decide, by decide⟩ ?_
      refine r_iloadn dd_Mod_setPatience_37 rfl ?_
      refine r_V2W dd_Mod_setPatience_38 ml_Mod_102 ok_Mod_puts vi_Mod_puts vk_219 (by decide) (clS rfl (Nat.le_refl _) (rmOK_self _ _)) rfl (c_Mod_puts (μ := knM μ m) (by decide) (by decide)) ?_
      try simp only [setO_at, setO_ss, upM_on, so_219, so_221, so_222, so_223, so_224, so_225, uo_219, uo_221, uo_222, uo_223, uo_224, uo_225, upM_eq, upM_uu, t221_219, t221_220, t221_222, t221_223, t221_224, t221_225, v221, t222_219, t222_220, t222_221, t222_223, t222_224, t222_225, v222, t223_219, t223_220, t223_221, t223_222, t223_224, t223_225, v223, w_220, w_221, w_222, w_223, w_224, w_225]
      exact r_retI dd_Mod_setPatience_41 (by first | rfl | omega | exact (b2_t (by first | assumption | omega)).symm | exact (b2_f (by first | assumption | omega)).symm) rfl
    · exfalso; omega
  · exfalso; omega
theorem c_Mod_setLimit_e {μ : Int → Int → Int} {m : Int → Int} {t v : Int} (h : (t < 0 ∨ 5 < t) ∨ v < 0 ∨ 64 < v ∨ m (454 + t) = v) : MetC mi_Mod_setLimit [vR 219, vI t, vI v] (st (setO μ 220 m)) (some (vI (if t < 0 ∨ 5 < t then -1 else if v < 0 ∨ 64 < v then -2 else -5))) (st (setO μ 220 m)) := by
  refine met_of ?_ (Nat.le_of_ble_eq_true rfl) (by decide) trivial (by decide) (Nat.le_of_ble_eq_true rfl)
  show SPW mi_Mod_setLimit 226 0 [some (vR 219), some (vI t), some (vI v)] [] (st (setO μ 220 m)) (some (vI (if t < 0 ∨ 5 < t then -1 else if v < 0 ∨ 64 < v then -2 else -5))) (st (setO μ 220 m))
  refine r_iloadn dd_Mod_setLimit_0 rfl ?_
  refine r_S1W dd_Mod_setLimit_1 ml_Mod_71 ok_Mod_isTask st_Mod_isTask (clS rfl (Nat.le_refl _) (rmOK_self _ _)) rfl c_Mod_isTask ?_
  try simp only [setO_at, setO_ss, upM_on, so_219, so_221, so_222, so_223, so_224, so_225, uo_219, uo_221, uo_222, uo_223, uo_224, uo_225, upM_eq, upM_uu, t221_219, t221_220, t221_222, t221_223, t221_224, t221_225, v221, t222_219, t222_220, t222_221, t222_223, t222_224, t222_225, v222, t223_219, t223_220, t223_221, t223_222, t223_224, t223_225, v223, w_220, w_221, w_222, w_223, w_224, w_225]
  refine r_if_ne_b dd_Mod_setLimit_4 (fun c_4 => ?_) (fun c_4 => ?_)
  · refine r_iloadn dd_Mod_setLimit_9 rfl ?_
    refine r_iconst dd_Mod_setLimit_10 ⟨by decide, by decide⟩ ?_
    refine r_bip dd_Mod_setLimit_11 ⟨by decide, by decide⟩ ?_
    refine r_S3W dd_Mod_setLimit_13 ml_Mod_35 ok_Mod_in st_Mod_in (clS rfl (Nat.le_refl _) (rmOK_self _ _)) rfl c_Mod_in ?_
    try simp only [setO_at, setO_ss, upM_on, so_219, so_221, so_222, so_223, so_224, so_225, uo_219, uo_221, uo_222, uo_223, uo_224, uo_225, upM_eq, upM_uu, t221_219, t221_220, t221_222, t221_223, t221_224, t221_225, v221, t222_219, t222_220, t222_221, t222_223, t222_224, t222_225, v222, t223_219, t223_220, t223_221, t223_222, t223_224, t223_225, v223, w_220, w_221, w_222, w_223, w_224, w_225]
    refine r_if_ne_b dd_Mod_setLimit_16 (fun c_16 => ?_) (fun c_16 => ?_)
    · refine r_aloadn dd_Mod_setLimit_22 rfl ?_
      refine r_getR dd_Mod_setLimit_23 fl_Mod_7 (kI := 0) rfl fr_Mod_0 vk_219 R0_219_0 ?_
      refine r_sip dd_Mod_setLimit_26 ⟨by decide, by decide⟩ ?_
      refine r_iloadn dd_Mod_setLimit_29 rfl ?_
      refine r_iadd dd_Mod_setLimit_30 ⟨by omega, by omega⟩ ?_
      refine r_iald dd_Mod_setLimit_31 (q := 12) (by decide) vk_220 (by omega) (by show _ < ((472 : Nat) : Int); omega) ?_
      try simp only [setO_at, setO_ss, upM_on, so_219, so_221, so_222, so_223, so_224, so_225, uo_219, uo_221, uo_222, uo_223, uo_224, uo_225, upM_eq, upM_uu, t221_219, t221_220, t221_222, t221_223, t221_224, t221_225, v221, t222_219, t222_220, t222_221, t222_223, t222_224, t222_225, v222, t223_219, t223_220, t223_221, t223_222, t223_224, t223_225, v223, w_220, w_221, w_222, w_223, w_224, w_225]
      refine r_iloadn dd_Mod_setLimit_32 rfl ?_
      refine r_icmp_ne dd_Mod_setLimit_33 (fun c_33 => ?_) (fun c_33 => ?_)
      · exfalso; omega
      · refine r_bip dd_Mod_setLimit_36 ⟨by decide, by decide⟩ ?_
        exact r_retI dd_Mod_setLimit_38 (by (repeat (first | rw [if_pos (by omega)] | rw [if_neg (by omega)])); first | done | omega | (congr 1; omega) | exact (b2_t (by first | assumption | omega)).symm | exact (b2_f (by first | assumption | omega)).symm) rfl
    · refine r_bip dd_Mod_setLimit_19 ⟨by decide, by decide⟩ ?_
      exact r_retI dd_Mod_setLimit_21 (by (repeat (first | rw [if_pos (by omega)] | rw [if_neg (by omega)])); first | done | omega | (congr 1; omega) | exact (b2_t (by first | assumption | omega)).symm | exact (b2_f (by first | assumption | omega)).symm) rfl
  · refine r_iconst dd_Mod_setLimit_7 ⟨by decide, by decide⟩ ?_
    exact r_retI dd_Mod_setLimit_8 (by (repeat (first | rw [if_pos (by omega)] | rw [if_neg (by omega)])); first | done | omega | (congr 1; omega) | exact (b2_t (by first | assumption | omega)).symm | exact (b2_f (by first | assumption | omega)).symm) rfl
theorem c_Mod_setLimit_o {μ : Int → Int → Int} {m : Int → Int} {t v : Int} (h : 0 ≤ t ∧ t ≤ 5) (h1 : 0 ≤ v ∧ v ≤ 64) (h2 : m (454 + t) ≠ v) (hk : 0 ≤ μ 219 3 ∧ μ 219 3 ≤ 4) : MetC mi_Mod_setLimit [vR 219, vI t, vI v] (st (setO μ 220 m)) (some (vI (m (454 + t)))) (st (setO (knM μ m) 220 (up1 m (454 + t) v))) := by
  refine met_of ?_ (Nat.le_of_ble_eq_true rfl) (by decide) trivial (by decide) (Nat.le_of_ble_eq_true rfl)
  show SPW mi_Mod_setLimit 226 0 [some (vR 219), some (vI t), some (vI v)] [] (st (setO μ 220 m)) (some (vI (m (454 + t)))) (st (setO (knM μ m) 220 (up1 m (454 + t) v)))
  refine r_iloadn dd_Mod_setLimit_0 rfl ?_
  refine r_S1W dd_Mod_setLimit_1 ml_Mod_71 ok_Mod_isTask st_Mod_isTask (clS rfl (Nat.le_refl _) (rmOK_self _ _)) rfl c_Mod_isTask ?_
  try simp only [setO_at, setO_ss, upM_on, so_219, so_221, so_222, so_223, so_224, so_225, uo_219, uo_221, uo_222, uo_223, uo_224, uo_225, upM_eq, upM_uu, t221_219, t221_220, t221_222, t221_223, t221_224, t221_225, v221, t222_219, t222_220, t222_221, t222_223, t222_224, t222_225, v222, t223_219, t223_220, t223_221, t223_222, t223_224, t223_225, v223, w_220, w_221, w_222, w_223, w_224, w_225]
  refine r_if_ne_b dd_Mod_setLimit_4 (fun c_4 => ?_) (fun c_4 => ?_)
  · refine r_iloadn dd_Mod_setLimit_9 rfl ?_
    refine r_iconst dd_Mod_setLimit_10 ⟨by decide, by decide⟩ ?_
    refine r_bip dd_Mod_setLimit_11 ⟨by decide, by decide⟩ ?_
    refine r_S3W dd_Mod_setLimit_13 ml_Mod_35 ok_Mod_in st_Mod_in (clS rfl (Nat.le_refl _) (rmOK_self _ _)) rfl c_Mod_in ?_
    try simp only [setO_at, setO_ss, upM_on, so_219, so_221, so_222, so_223, so_224, so_225, uo_219, uo_221, uo_222, uo_223, uo_224, uo_225, upM_eq, upM_uu, t221_219, t221_220, t221_222, t221_223, t221_224, t221_225, v221, t222_219, t222_220, t222_221, t222_223, t222_224, t222_225, v222, t223_219, t223_220, t223_221, t223_222, t223_224, t223_225, v223, w_220, w_221, w_222, w_223, w_224, w_225]
    refine r_if_ne_b dd_Mod_setLimit_16 (fun c_16 => ?_) (fun c_16 => ?_)
    · refine r_aloadn dd_Mod_setLimit_22 rfl ?_
      refine r_getR dd_Mod_setLimit_23 fl_Mod_7 (kI := 0) rfl fr_Mod_0 vk_219 R0_219_0 ?_
      refine r_sip dd_Mod_setLimit_26 ⟨by decide, by decide⟩ ?_
      refine r_iloadn dd_Mod_setLimit_29 rfl ?_
      refine r_iadd dd_Mod_setLimit_30 ⟨by omega, by omega⟩ ?_
      refine r_iald dd_Mod_setLimit_31 (q := 12) (by decide) vk_220 (by omega) (by show _ < ((472 : Nat) : Int); omega) ?_
      try simp only [setO_at, setO_ss, upM_on, so_219, so_221, so_222, so_223, so_224, so_225, uo_219, uo_221, uo_222, uo_223, uo_224, uo_225, upM_eq, upM_uu, t221_219, t221_220, t221_222, t221_223, t221_224, t221_225, v221, t222_219, t222_220, t222_221, t222_223, t222_224, t222_225, v222, t223_219, t223_220, t223_221, t223_222, t223_224, t223_225, v223, w_220, w_221, w_222, w_223, w_224, w_225]
      refine r_iloadn dd_Mod_setLimit_32 rfl ?_
      refine r_icmp_ne dd_Mod_setLimit_33 (fun c_33 => ?_) (fun c_33 => ?_)
      · refine r_aloadn dd_Mod_setLimit_39 rfl ?_
        refine r_V0N dd_Mod_setLimit_40 ml_Mod_90 ok_Mod_know vi_Mod_know vk_219 (by decide) (clS rfl (Nat.le_refl _) (rmOK_self _ _)) rfl (c_Mod_know hk) ?_
        try simp only [setO_at, setO_ss, upM_on, so_219, so_221, so_222, so_223, so_224, so_225, uo_219, uo_221, uo_222, uo_223, uo_224, uo_225, upM_eq, upM_uu, t221_219, t221_220, t221_222, t221_223, t221_224, t221_225, v221, t222_219, t222_220, t222_221, t222_223, t222_224, t222_225, v222, t223_219, t223_220, t223_221, t223_222, t223_224, t223_225, v223, w_220, w_221, w_222, w_223, w_224, w_225]
        refine r_aloadn dd_Mod_setLimit_43 rfl ?_
        refine r_sip dd_Mod_setLimit_44 ⟨by decide, by decide⟩ ?_
        refine r_iloadn dd_Mod_setLimit_47 rfl ?_
        refine r_iadd dd_Mod_setLimit_48 ⟨by omega, by omega⟩ ?_
        refine r_iloadn dd_Mod_setLimit_49 rfl ?_
        refine r_V2W dd_Mod_setLimit_50 ml_Mod_102 ok_Mod_puts vi_Mod_puts vk_219 (by decide) (clS rfl (Nat.le_refl _) (rmOK_self _ _)) rfl (c_Mod_puts (μ := knM μ m) (by omega) (by omega)) ?_
        try simp only [setO_at, setO_ss, upM_on, so_219, so_221, so_222, so_223, so_224, so_225, uo_219, uo_221, uo_222, uo_223, uo_224, uo_225, upM_eq, upM_uu, t221_219, t221_220, t221_222, t221_223, t221_224, t221_225, v221, t222_219, t222_220, t222_221, t222_223, t222_224, t222_225, v222, t223_219, t223_220, t223_221, t223_222, t223_224, t223_225, v223, w_220, w_221, w_222, w_223, w_224, w_225]
        exact r_retI dd_Mod_setLimit_53 (by first | rfl | omega | exact (b2_t (by first | assumption | omega)).symm | exact (b2_f (by first | assumption | omega)).symm) rfl
      · exfalso; omega
    · exfalso; omega
  · exfalso; omega
theorem c_Mod_touch_e {μ : Int → Int → Int} {m : Int → Int} {K b : Int} (hW : MW K m) (h : begOf m b = -5 ∨ m (384 + begOf m b) = m 466) : MetC mi_Mod_touch [vR 219, vI b] (st (setO μ 220 m)) (some (vI (if begOf m b = -5 then -1 else -5))) (st (setO μ 220 m)) := by
  refine met_of ?_ (Nat.le_of_ble_eq_true rfl) (by decide) trivial (by decide) (Nat.le_of_ble_eq_true rfl)
  show SPW mi_Mod_touch 226 0 [some (vR 219), some (vI b), none] [] (st (setO μ 220 m)) (some (vI (if begOf m b = -5 then -1 else -5))) (st (setO μ 220 m))
  have hr := begOf_rg m b
  refine r_aloadn dd_Mod_touch_0 rfl ?_
  refine r_iloadn dd_Mod_touch_1 rfl ?_
  refine r_V1W dd_Mod_touch_2 ml_Mod_78 ok_Mod_beginOf vi_Mod_beginOf vk_219 (by decide) (clS rfl (Nat.le_refl _) (rmOK_self _ _)) rfl begOf_so ?_
  try simp only [setO_at, setO_ss, upM_on, so_219, so_221, so_222, so_223, so_224, so_225, uo_219, uo_221, uo_222, uo_223, uo_224, uo_225, upM_eq, upM_uu, t221_219, t221_220, t221_222, t221_223, t221_224, t221_225, v221, t222_219, t222_220, t222_221, t222_223, t222_224, t222_225, v222, t223_219, t223_220, t223_221, t223_222, t223_224, t223_225, v223, w_220, w_221, w_222, w_223, w_224, w_225]
  refine r_istoren (L' := [_, _, _]) dd_Mod_touch_5 rfl rfl ?_
  refine r_iloadn dd_Mod_touch_6 rfl ?_
  refine r_bip dd_Mod_touch_7 ⟨by decide, by decide⟩ ?_
  refine r_icmp_ne dd_Mod_touch_9 (fun c_9 => ?_) (fun c_9 => ?_)
  · refine r_aloadn dd_Mod_touch_14 rfl ?_
    refine r_getR dd_Mod_touch_15 fl_Mod_7 (kI := 0) rfl fr_Mod_0 vk_219 R0_219_0 ?_
    refine r_sip dd_Mod_touch_18 ⟨by decide, by decide⟩ ?_
    refine r_iloadn dd_Mod_touch_21 rfl ?_
    refine r_iadd dd_Mod_touch_22 ⟨by omega, by omega⟩ ?_
    refine r_iald dd_Mod_touch_23 (q := 12) (by decide) vk_220 (by omega) (by show _ < ((472 : Nat) : Int); omega) ?_
    try simp only [setO_at, setO_ss, upM_on, so_219, so_221, so_222, so_223, so_224, so_225, uo_219, uo_221, uo_222, uo_223, uo_224, uo_225, upM_eq, upM_uu, t221_219, t221_220, t221_222, t221_223, t221_224, t221_225, v221, t222_219, t222_220, t222_221, t222_223, t222_224, t222_225, v222, t223_219, t223_220, t223_221, t223_222, t223_224, t223_225, v223, w_220, w_221, w_222, w_223, w_224, w_225]
    refine r_aloadn dd_Mod_touch_24 rfl ?_
    refine r_getR dd_Mod_touch_25 fl_Mod_7 (kI := 0) rfl fr_Mod_0 vk_219 R0_219_0 ?_
    refine r_sip dd_Mod_touch_28 ⟨by decide, by decide⟩ ?_
    refine r_iald dd_Mod_touch_31 (q := 12) (by decide) vk_220 (by omega) (by show _ < ((472 : Nat) : Int); omega) ?_
    try simp only [setO_at, setO_ss, upM_on, so_219, so_221, so_222, so_223, so_224, so_225, uo_219, uo_221, uo_222, uo_223, uo_224, uo_225, upM_eq, upM_uu, t221_219, t221_220, t221_222, t221_223, t221_224, t221_225, v221, t222_219, t222_220, t222_221, t222_223, t222_224, t222_225, v222, t223_219, t223_220, t223_221, t223_222, t223_224, t223_225, v223, w_220, w_221, w_222, w_223, w_224, w_225]
    refine r_icmp_ne dd_Mod_touch_32 (fun c_32 => ?_) (fun c_32 => ?_)
    · exfalso; omega
    · refine r_bip dd_Mod_touch_35 ⟨by decide, by decide⟩ ?_
      exact r_retI dd_Mod_touch_37 (by (repeat (first | rw [if_pos (by omega)] | rw [if_neg (by omega)])); first | done | omega | (congr 1; omega) | exact (b2_t (by first | assumption | omega)).symm | exact (b2_f (by first | assumption | omega)).symm) rfl
  · refine r_iconst dd_Mod_touch_12 ⟨by decide, by decide⟩ ?_
    exact r_retI dd_Mod_touch_13 (by (repeat (first | rw [if_pos (by omega)] | rw [if_neg (by omega)])); first | done | omega | (congr 1; omega) | exact (b2_t (by first | assumption | omega)).symm | exact (b2_f (by first | assumption | omega)).symm) rfl
theorem c_Mod_touch_o {μ : Int → Int → Int} {m : Int → Int} {K b : Int} (hW : MW K m) (h : begOf m b ≠ -5) (h2 : m (384 + begOf m b) ≠ m 466) (hk : 0 ≤ μ 219 3 ∧ μ 219 3 ≤ 4) : MetC mi_Mod_touch [vR 219, vI b] (st (setO μ 220 m)) (some (vI (m 466 - m (384 + begOf m b)))) (st (setO (knM μ m) 220 (up1 m (384 + begOf m b) (m 466)))) := by
  refine met_of ?_ (Nat.le_of_ble_eq_true rfl) (by decide) trivial (by decide) (Nat.le_of_ble_eq_true rfl)
  show SPW mi_Mod_touch 226 0 [some (vR 219), some (vI b), none] [] (st (setO μ 220 m)) (some (vI (m 466 - m (384 + begOf m b)))) (st (setO (knM μ m) 220 (up1 m (384 + begOf m b) (m 466))))
  have hr := begOf_rg m b
  have hb := (hW.1 (begOf m b) (by omega) (by omega)).2.2.2.2.2.1
  have hc := hW.2.2.1
  refine r_aloadn dd_Mod_touch_0 rfl ?_
  refine r_iloadn dd_Mod_touch_1 rfl ?_
  refine r_V1W dd_Mod_touch_2 ml_Mod_78 ok_Mod_beginOf vi_Mod_beginOf vk_219 (by decide) (clS rfl (Nat.le_refl _) (rmOK_self _ _)) rfl begOf_so ?_
  try simp only [setO_at, setO_ss, upM_on, so_219, so_221, so_222, so_223, so_224, so_225, uo_219, uo_221, uo_222, uo_223, uo_224, uo_225, upM_eq, upM_uu, t221_219, t221_220, t221_222, t221_223, t221_224, t221_225, v221, t222_219, t222_220, t222_221, t222_223, t222_224, t222_225, v222, t223_219, t223_220, t223_221, t223_222, t223_224, t223_225, v223, w_220, w_221, w_222, w_223, w_224, w_225]
  refine r_istoren (L' := [_, _, _]) dd_Mod_touch_5 rfl rfl ?_
  refine r_iloadn dd_Mod_touch_6 rfl ?_
  refine r_bip dd_Mod_touch_7 ⟨by decide, by decide⟩ ?_
  refine r_icmp_ne dd_Mod_touch_9 (fun c_9 => ?_) (fun c_9 => ?_)
  · refine r_aloadn dd_Mod_touch_14 rfl ?_
    refine r_getR dd_Mod_touch_15 fl_Mod_7 (kI := 0) rfl fr_Mod_0 vk_219 R0_219_0 ?_
    refine r_sip dd_Mod_touch_18 ⟨by decide, by decide⟩ ?_
    refine r_iloadn dd_Mod_touch_21 rfl ?_
    refine r_iadd dd_Mod_touch_22 ⟨by omega, by omega⟩ ?_
    refine r_iald dd_Mod_touch_23 (q := 12) (by decide) vk_220 (by omega) (by show _ < ((472 : Nat) : Int); omega) ?_
    try simp only [setO_at, setO_ss, upM_on, so_219, so_221, so_222, so_223, so_224, so_225, uo_219, uo_221, uo_222, uo_223, uo_224, uo_225, upM_eq, upM_uu, t221_219, t221_220, t221_222, t221_223, t221_224, t221_225, v221, t222_219, t222_220, t222_221, t222_223, t222_224, t222_225, v222, t223_219, t223_220, t223_221, t223_222, t223_224, t223_225, v223, w_220, w_221, w_222, w_223, w_224, w_225]
    refine r_aloadn dd_Mod_touch_24 rfl ?_
    refine r_getR dd_Mod_touch_25 fl_Mod_7 (kI := 0) rfl fr_Mod_0 vk_219 R0_219_0 ?_
    refine r_sip dd_Mod_touch_28 ⟨by decide, by decide⟩ ?_
    refine r_iald dd_Mod_touch_31 (q := 12) (by decide) vk_220 (by omega) (by show _ < ((472 : Nat) : Int); omega) ?_
    try simp only [setO_at, setO_ss, upM_on, so_219, so_221, so_222, so_223, so_224, so_225, uo_219, uo_221, uo_222, uo_223, uo_224, uo_225, upM_eq, upM_uu, t221_219, t221_220, t221_222, t221_223, t221_224, t221_225, v221, t222_219, t222_220, t222_221, t222_223, t222_224, t222_225, v222, t223_219, t223_220, t223_221, t223_222, t223_224, t223_225, v223, w_220, w_221, w_222, w_223, w_224, w_225]
    refine r_icmp_ne dd_Mod_touch_32 (fun c_32 => ?_) (fun c_32 => ?_)
    · refine r_aloadn dd_Mod_touch_38 rfl ?_
      refine r_V0N dd_Mod_touch_39 ml_Mod_90 ok_Mod_know vi_Mod_know vk_219 (by decide) (clS rfl (Nat.le_refl _) (rmOK_self _ _)) rfl (c_Mod_know hk) ?_
      try simp only [setO_at, setO_ss, upM_on, so_219, so_221, so_222, so_223, so_224, so_225, uo_219, uo_221, uo_222, uo_223, uo_224, uo_225, upM_eq, upM_uu, t221_219, t221_220, t221_222, t221_223, t221_224, t221_225, v221, t222_219, t222_220, t222_221, t222_223, t222_224, t222_225, v222, t223_219, t223_220, t223_221, t223_222, t223_224, t223_225, v223, w_220, w_221, w_222, w_223, w_224, w_225]
      refine r_aloadn dd_Mod_touch_42 rfl ?_
      refine r_getR dd_Mod_touch_43 fl_Mod_7 (kI := 0) rfl fr_Mod_0 vk_219 R0_219_0 ?_
      refine r_sip dd_Mod_touch_46 ⟨by decide, by decide⟩ ?_
      refine r_iald dd_Mod_touch_49 (q := 12) (by decide) vk_220 (by omega) (by show _ < ((472 : Nat) : Int); omega) ?_
      try simp only [setO_at, setO_ss, upM_on, so_219, so_221, so_222, so_223, so_224, so_225, uo_219, uo_221, uo_222, uo_223, uo_224, uo_225, upM_eq, upM_uu, t221_219, t221_220, t221_222, t221_223, t221_224, t221_225, v221, t222_219, t222_220, t222_221, t222_223, t222_224, t222_225, v222, t223_219, t223_220, t223_221, t223_222, t223_224, t223_225, v223, w_220, w_221, w_222, w_223, w_224, w_225]
      refine r_aloadn dd_Mod_touch_50 rfl ?_
      refine r_sip dd_Mod_touch_51 ⟨by decide, by decide⟩ ?_
      refine r_iloadn dd_Mod_touch_54 rfl ?_
      refine r_iadd dd_Mod_touch_55 ⟨by omega, by omega⟩ ?_
      refine r_aloadn dd_Mod_touch_56 rfl ?_
      refine r_getR dd_Mod_touch_57 fl_Mod_7 (kI := 0) rfl fr_Mod_0 vk_219 R0_219_0 ?_
      refine r_sip dd_Mod_touch_60 ⟨by decide, by decide⟩ ?_
      refine r_iald dd_Mod_touch_63 (q := 12) (by decide) vk_220 (by omega) (by show _ < ((472 : Nat) : Int); omega) ?_
      try simp only [setO_at, setO_ss, upM_on, so_219, so_221, so_222, so_223, so_224, so_225, uo_219, uo_221, uo_222, uo_223, uo_224, uo_225, upM_eq, upM_uu, t221_219, t221_220, t221_222, t221_223, t221_224, t221_225, v221, t222_219, t222_220, t222_221, t222_223, t222_224, t222_225, v222, t223_219, t223_220, t223_221, t223_222, t223_224, t223_225, v223, w_220, w_221, w_222, w_223, w_224, w_225]
      refine r_V2W dd_Mod_touch_64 ml_Mod_102 ok_Mod_puts vi_Mod_puts vk_219 (by decide) (clS rfl (Nat.le_refl _) (rmOK_self _ _)) rfl (c_Mod_puts (μ := knM μ m) (by omega) (by omega)) ?_
      try simp only [setO_at, setO_ss, upM_on, so_219, so_221, so_222, so_223, so_224, so_225, uo_219, uo_221, uo_222, uo_223, uo_224, uo_225, upM_eq, upM_uu, t221_219, t221_220, t221_222, t221_223, t221_224, t221_225, v221, t222_219, t222_220, t222_221, t222_223, t222_224, t222_225, v222, t223_219, t223_220, t223_221, t223_222, t223_224, t223_225, v223, w_220, w_221, w_222, w_223, w_224, w_225]
      refine r_isub dd_Mod_touch_67 ⟨by omega, by omega⟩ ?_
      exact r_retI dd_Mod_touch_68 (by first | rfl | omega | exact (b2_t (by first | assumption | omega)).symm | exact (b2_f (by first | assumption | omega)).symm) rfl
    · exfalso; omega
  · exfalso; omega
