/-! the reference: live, write, the text, the history, the snapshot -/
theorem x224_219 {μ : Int → Int → Int} {k v : Int} : upM μ 224 k v 219 = μ 219 := by
  rw [upM_to, setO_ne (by decide)]
theorem x225_219 {μ : Int → Int → Int} {k v : Int} : upM μ 225 k v 219 = μ 219 := by
  rw [upM_to, setO_ne (by decide)]
theorem kn_220 {μ : Int → Int → Int} {m : Int → Int} : knM μ m 220 = μ 220 := by
  unfold knM
  rw [setO_ne (by decide), upM_to, setO_ne (by decide)]
theorem kn_221 {μ : Int → Int → Int} {m : Int → Int} : knM μ m 221 = μ 221 := by
  unfold knM
  rw [setO_ne (by decide), upM_to, setO_ne (by decide)]
theorem kn_223 {μ : Int → Int → Int} {m : Int → Int} : knM μ m 223 = μ 223 := by
  unfold knM
  rw [setO_ne (by decide), upM_to, setO_ne (by decide)]
theorem kn_224 {μ : Int → Int → Int} {m : Int → Int} : knM μ m 224 = μ 224 := by
  unfold knM
  rw [setO_ne (by decide), upM_to, setO_ne (by decide)]
theorem kn_225 {μ : Int → Int → Int} {m : Int → Int} : knM μ m 225 = μ 225 := by
  unfold knM
  rw [setO_ne (by decide), upM_to, setO_ne (by decide)]
theorem c_Mod_live_e {μ : Int → Int → Int} {m : Int → Int} {K t a : Int} (ha : a = 0 ∨ a = 1) (h : (t < 0 ∨ 5 < t) ∨ (m (448 + t) = 0 ∧ a = 1) ∨ (m (448 + t) ≠ 0 ∧ a = 0)) : MetC mi_Mod_live [vR 219, vI t, vI a] (st (setO μ 220 m)) (some (vI (if t < 0 ∨ 5 < t then -1 else -5))) (st (setO μ 220 m)) := by
  refine met_of ?_ (Nat.le_of_ble_eq_true rfl) (by decide) trivial (by decide) (Nat.le_of_ble_eq_true rfl)
  show SPW mi_Mod_live 226 0 [some (vR 219), some (vI t), some (vI a)] [] (st (setO μ 220 m)) (some (vI (if t < 0 ∨ 5 < t then -1 else -5))) (st (setO μ 220 m))
  refine r_iloadn dd_Mod_live_0 rfl ?_
  refine r_S1W dd_Mod_live_1 ml_Mod_71 ok_Mod_isTask st_Mod_isTask (clS rfl (Nat.le_refl _) (rmOK_self _ _)) rfl c_Mod_isTask ?_
  try simp only [setO_at, setO_ss, upM_on, so_219, so_221, so_222, so_223, so_224, so_225, uo_219, uo_221, uo_222, uo_223, uo_224, uo_225, upM_eq, upM_uu, t221_219, t221_220, t221_222, t221_223, t221_224, t221_225, v221, t222_219, t222_220, t222_221, t222_223, t222_224, t222_225, v222, t223_219, t223_220, t223_221, t223_222, t223_224, t223_225, v223, w_220, w_221, w_222, w_223, w_224, w_225, x224_219, x225_219, kn_220, kn_221, kn_223, kn_224, kn_225]
  refine r_if_ne_b dd_Mod_live_4 (fun c_4 => ?_) (fun c_4 => ?_)
  · refine r_aloadn dd_Mod_live_9 rfl ?_
    refine r_getR dd_Mod_live_10 fl_Mod_7 (kI := 0) rfl fr_Mod_0 vk_219 R0_219_0 ?_
    refine r_sip dd_Mod_live_13 ⟨by decide, by decide⟩ ?_
    refine r_iloadn dd_Mod_live_16 rfl ?_
    refine r_iadd dd_Mod_live_17 ⟨by omega, by omega⟩ ?_
    refine r_iald dd_Mod_live_18 (q := 12) (by decide) vk_220 (by omega) (by show _ < ((472 : Nat) : Int); omega) ?_
    try simp only [setO_at, setO_ss, upM_on, so_219, so_221, so_222, so_223, so_224, so_225, uo_219, uo_221, uo_222, uo_223, uo_224, uo_225, upM_eq, upM_uu, t221_219, t221_220, t221_222, t221_223, t221_224, t221_225, v221, t222_219, t222_220, t222_221, t222_223, t222_224, t222_225, v222, t223_219, t223_220, t223_221, t223_222, t223_224, t223_225, v223, w_220, w_221, w_222, w_223, w_224, w_225, x224_219, x225_219, kn_220, kn_221, kn_223, kn_224, kn_225]
    refine r_if_ne dd_Mod_live_19 (fun c_19 => ?_) (fun c_19 => ?_)
    · refine r_iconst dd_Mod_live_26 ⟨by decide, by decide⟩ ?_
      refine r_iloadn dd_Mod_live_27 rfl ?_
      refine r_icmp_ne dd_Mod_live_28 (fun c_28 => ?_) (fun c_28 => ?_)
      · exfalso; omega
      · refine r_bip dd_Mod_live_31 ⟨by decide, by decide⟩ ?_
        exact r_retI dd_Mod_live_33 (by (repeat (first | rw [if_pos (by omega)] | rw [if_neg (by omega)])); first | done | omega | (congr 1; omega) | exact (b2_t (by first | assumption | omega)).symm | exact (b2_f (by first | assumption | omega)).symm) rfl
    · refine r_iconst dd_Mod_live_22 ⟨by decide, by decide⟩ ?_
      refine r_goto dd_Mod_live_23 ?_
      refine r_iloadn dd_Mod_live_27 rfl ?_
      refine r_icmp_ne dd_Mod_live_28 (fun c_28 => ?_) (fun c_28 => ?_)
      · exfalso; omega
      · refine r_bip dd_Mod_live_31 ⟨by decide, by decide⟩ ?_
        exact r_retI dd_Mod_live_33 (by (repeat (first | rw [if_pos (by omega)] | rw [if_neg (by omega)])); first | done | omega | (congr 1; omega) | exact (b2_t (by first | assumption | omega)).symm | exact (b2_f (by first | assumption | omega)).symm) rfl
  · refine r_iconst dd_Mod_live_7 ⟨by decide, by decide⟩ ?_
    exact r_retI dd_Mod_live_8 (by (repeat (first | rw [if_pos (by omega)] | rw [if_neg (by omega)])); first | done | omega | (congr 1; omega) | exact (b2_t (by first | assumption | omega)).symm | exact (b2_f (by first | assumption | omega)).symm) rfl
theorem c_Mod_live_1 {μ : Int → Int → Int} {m : Int → Int} {K t : Int} (hW : MW K m) (h0 : 0 ≤ t ∧ t ≤ 5) (h : m (448 + t) ≠ 0) (hk : 0 ≤ μ 219 3 ∧ μ 219 3 ≤ 4) : MetC mi_Mod_live [vR 219, vI t, vI 1] (st (setO μ 220 m)) (some (vI (blksM (up1 m (448 + t) 0) t))) (st (setO (knM μ m) 220 (up1 m (448 + t) 0))) := by
  refine met_of ?_ (Nat.le_of_ble_eq_true rfl) (by decide) trivial (by decide) (Nat.le_of_ble_eq_true rfl)
  show SPW mi_Mod_live 226 0 [some (vR 219), some (vI t), some (vI 1)] [] (st (setO μ 220 m)) (some (vI (blksM (up1 m (448 + t) 0) t))) (st (setO (knM μ m) 220 (up1 m (448 + t) 0)))
  refine r_iloadn dd_Mod_live_0 rfl ?_
  refine r_S1W dd_Mod_live_1 ml_Mod_71 ok_Mod_isTask st_Mod_isTask (clS rfl (Nat.le_refl _) (rmOK_self _ _)) rfl c_Mod_isTask ?_
  try simp only [setO_at, setO_ss, upM_on, so_219, so_221, so_222, so_223, so_224, so_225, uo_219, uo_221, uo_222, uo_223, uo_224, uo_225, upM_eq, upM_uu, t221_219, t221_220, t221_222, t221_223, t221_224, t221_225, v221, t222_219, t222_220, t222_221, t222_223, t222_224, t222_225, v222, t223_219, t223_220, t223_221, t223_222, t223_224, t223_225, v223, w_220, w_221, w_222, w_223, w_224, w_225, x224_219, x225_219, kn_220, kn_221, kn_223, kn_224, kn_225]
  refine r_if_ne_b dd_Mod_live_4 (fun c_4 => ?_) (fun c_4 => ?_)
  · refine r_aloadn dd_Mod_live_9 rfl ?_
    refine r_getR dd_Mod_live_10 fl_Mod_7 (kI := 0) rfl fr_Mod_0 vk_219 R0_219_0 ?_
    refine r_sip dd_Mod_live_13 ⟨by decide, by decide⟩ ?_
    refine r_iloadn dd_Mod_live_16 rfl ?_
    refine r_iadd dd_Mod_live_17 ⟨by omega, by omega⟩ ?_
    refine r_iald dd_Mod_live_18 (q := 12) (by decide) vk_220 (by omega) (by show _ < ((472 : Nat) : Int); omega) ?_
    try simp only [setO_at, setO_ss, upM_on, so_219, so_221, so_222, so_223, so_224, so_225, uo_219, uo_221, uo_222, uo_223, uo_224, uo_225, upM_eq, upM_uu, t221_219, t221_220, t221_222, t221_223, t221_224, t221_225, v221, t222_219, t222_220, t222_221, t222_223, t222_224, t222_225, v222, t223_219, t223_220, t223_221, t223_222, t223_224, t223_225, v223, w_220, w_221, w_222, w_223, w_224, w_225, x224_219, x225_219, kn_220, kn_221, kn_223, kn_224, kn_225]
    refine r_if_ne dd_Mod_live_19 (fun c_19 => ?_) (fun c_19 => ?_)
    · refine r_iconst dd_Mod_live_26 ⟨by decide, by decide⟩ ?_
      refine r_iloadn dd_Mod_live_27 rfl ?_
      refine r_icmp_ne dd_Mod_live_28 (fun c_28 => ?_) (fun c_28 => ?_)
      · refine r_aloadn dd_Mod_live_34 rfl ?_
        refine r_V0N dd_Mod_live_35 ml_Mod_90 ok_Mod_know vi_Mod_know vk_219 (by decide) (clS rfl (Nat.le_refl _) (rmOK_self _ _)) rfl (c_Mod_know hk) ?_
        try simp only [setO_at, setO_ss, upM_on, so_219, so_221, so_222, so_223, so_224, so_225, uo_219, uo_221, uo_222, uo_223, uo_224, uo_225, upM_eq, upM_uu, t221_219, t221_220, t221_222, t221_223, t221_224, t221_225, v221, t222_219, t222_220, t222_221, t222_223, t222_224, t222_225, v222, t223_219, t223_220, t223_221, t223_222, t223_224, t223_225, v223, w_220, w_221, w_222, w_223, w_224, w_225, x224_219, x225_219, kn_220, kn_221, kn_223, kn_224, kn_225]
        refine r_aloadn dd_Mod_live_38 rfl ?_
        refine r_getR dd_Mod_live_39 fl_Mod_7 (kI := 0) rfl fr_Mod_0 vk_219 R0_219_0 ?_
        refine r_sip dd_Mod_live_42 ⟨by decide, by decide⟩ ?_
        refine r_iloadn dd_Mod_live_45 rfl ?_
        refine r_iadd dd_Mod_live_46 ⟨by omega, by omega⟩ ?_
        refine r_iloadn dd_Mod_live_47 rfl ?_
        refine r_if_eq dd_Mod_live_48 (fun c_48 => ?_) (fun c_48 => ?_)
        · exfalso; omega
        · refine r_iconst dd_Mod_live_51 ⟨by decide, by decide⟩ ?_
          refine r_goto dd_Mod_live_52 ?_
          refine r_iast dd_Mod_live_56 (q := 12) (by decide) vk_220 (by omega) (by show _ < ((472 : Nat) : Int); omega) ?_
          try simp only [setO_at, setO_ss, upM_on, so_219, so_221, so_222, so_223, so_224, so_225, uo_219, uo_221, uo_222, uo_223, uo_224, uo_225, upM_eq, upM_uu, t221_219, t221_220, t221_222, t221_223, t221_224, t221_225, v221, t222_219, t222_220, t222_221, t222_223, t222_224, t222_225, v222, t223_219, t223_220, t223_221, t223_222, t223_224, t223_225, v223, w_220, w_221, w_222, w_223, w_224, w_225, x224_219, x225_219, kn_220, kn_221, kn_223, kn_224, kn_225]
          refine r_aloadn dd_Mod_live_57 rfl ?_
          refine r_iloadn dd_Mod_live_58 rfl ?_
          refine r_V1W dd_Mod_live_59 ml_Mod_105 ok_Mod_blocksOf vi_Mod_blocksOf vk_219 (by decide) (clS rfl (Nat.le_refl _) (rmOK_self _ _)) rfl (blks_so (m := up1 m (448 + t) 0) (MW_up hW ⟨by omega, by omega, by omega, by omega, by omega, by omega, by omega, by omega, by omega, by omega, by omega, by omega, by omega⟩)) ?_
          try simp only [setO_at, setO_ss, upM_on, so_219, so_221, so_222, so_223, so_224, so_225, uo_219, uo_221, uo_222, uo_223, uo_224, uo_225, upM_eq, upM_uu, t221_219, t221_220, t221_222, t221_223, t221_224, t221_225, v221, t222_219, t222_220, t222_221, t222_223, t222_224, t222_225, v222, t223_219, t223_220, t223_221, t223_222, t223_224, t223_225, v223, w_220, w_221, w_222, w_223, w_224, w_225, x224_219, x225_219, kn_220, kn_221, kn_223, kn_224, kn_225]
          exact r_retI dd_Mod_live_62 (by first | rfl | omega | exact (b2_t (by first | assumption | omega)).symm | exact (b2_f (by first | assumption | omega)).symm) rfl
      · exfalso; omega
    · exfalso; omega
  · exfalso; omega
theorem c_Mod_live_0 {μ : Int → Int → Int} {m : Int → Int} {K t : Int} (hW : MW K m) (h0 : 0 ≤ t ∧ t ≤ 5) (h : m (448 + t) = 0) (hk : 0 ≤ μ 219 3 ∧ μ 219 3 ≤ 4) : MetC mi_Mod_live [vR 219, vI t, vI 0] (st (setO μ 220 m)) (some (vI (blksM (up1 m (448 + t) 1) t))) (st (setO (knM μ m) 220 (up1 m (448 + t) 1))) := by
  refine met_of ?_ (Nat.le_of_ble_eq_true rfl) (by decide) trivial (by decide) (Nat.le_of_ble_eq_true rfl)
  show SPW mi_Mod_live 226 0 [some (vR 219), some (vI t), some (vI 0)] [] (st (setO μ 220 m)) (some (vI (blksM (up1 m (448 + t) 1) t))) (st (setO (knM μ m) 220 (up1 m (448 + t) 1)))
  refine r_iloadn dd_Mod_live_0 rfl ?_
  refine r_S1W dd_Mod_live_1 ml_Mod_71 ok_Mod_isTask st_Mod_isTask (clS rfl (Nat.le_refl _) (rmOK_self _ _)) rfl c_Mod_isTask ?_
  try simp only [setO_at, setO_ss, upM_on, so_219, so_221, so_222, so_223, so_224, so_225, uo_219, uo_221, uo_222, uo_223, uo_224, uo_225, upM_eq, upM_uu, t221_219, t221_220, t221_222, t221_223, t221_224, t221_225, v221, t222_219, t222_220, t222_221, t222_223, t222_224, t222_225, v222, t223_219, t223_220, t223_221, t223_222, t223_224, t223_225, v223, w_220, w_221, w_222, w_223, w_224, w_225, x224_219, x225_219, kn_220, kn_221, kn_223, kn_224, kn_225]
  refine r_if_ne_b dd_Mod_live_4 (fun c_4 => ?_) (fun c_4 => ?_)
  · refine r_aloadn dd_Mod_live_9 rfl ?_
    refine r_getR dd_Mod_live_10 fl_Mod_7 (kI := 0) rfl fr_Mod_0 vk_219 R0_219_0 ?_
    refine r_sip dd_Mod_live_13 ⟨by decide, by decide⟩ ?_
    refine r_iloadn dd_Mod_live_16 rfl ?_
    refine r_iadd dd_Mod_live_17 ⟨by omega, by omega⟩ ?_
    refine r_iald dd_Mod_live_18 (q := 12) (by decide) vk_220 (by omega) (by show _ < ((472 : Nat) : Int); omega) ?_
    try simp only [setO_at, setO_ss, upM_on, so_219, so_221, so_222, so_223, so_224, so_225, uo_219, uo_221, uo_222, uo_223, uo_224, uo_225, upM_eq, upM_uu, t221_219, t221_220, t221_222, t221_223, t221_224, t221_225, v221, t222_219, t222_220, t222_221, t222_223, t222_224, t222_225, v222, t223_219, t223_220, t223_221, t223_222, t223_224, t223_225, v223, w_220, w_221, w_222, w_223, w_224, w_225, x224_219, x225_219, kn_220, kn_221, kn_223, kn_224, kn_225]
    refine r_if_ne dd_Mod_live_19 (fun c_19 => ?_) (fun c_19 => ?_)
    · exfalso; omega
    · refine r_iconst dd_Mod_live_22 ⟨by decide, by decide⟩ ?_
      refine r_goto dd_Mod_live_23 ?_
      refine r_iloadn dd_Mod_live_27 rfl ?_
      refine r_icmp_ne dd_Mod_live_28 (fun c_28 => ?_) (fun c_28 => ?_)
      · refine r_aloadn dd_Mod_live_34 rfl ?_
        refine r_V0N dd_Mod_live_35 ml_Mod_90 ok_Mod_know vi_Mod_know vk_219 (by decide) (clS rfl (Nat.le_refl _) (rmOK_self _ _)) rfl (c_Mod_know hk) ?_
        try simp only [setO_at, setO_ss, upM_on, so_219, so_221, so_222, so_223, so_224, so_225, uo_219, uo_221, uo_222, uo_223, uo_224, uo_225, upM_eq, upM_uu, t221_219, t221_220, t221_222, t221_223, t221_224, t221_225, v221, t222_219, t222_220, t222_221, t222_223, t222_224, t222_225, v222, t223_219, t223_220, t223_221, t223_222, t223_224, t223_225, v223, w_220, w_221, w_222, w_223, w_224, w_225, x224_219, x225_219, kn_220, kn_221, kn_223, kn_224, kn_225]
        refine r_aloadn dd_Mod_live_38 rfl ?_
        refine r_getR dd_Mod_live_39 fl_Mod_7 (kI := 0) rfl fr_Mod_0 vk_219 R0_219_0 ?_
        refine r_sip dd_Mod_live_42 ⟨by decide, by decide⟩ ?_
        refine r_iloadn dd_Mod_live_45 rfl ?_
        refine r_iadd dd_Mod_live_46 ⟨by omega, by omega⟩ ?_
        refine r_iloadn dd_Mod_live_47 rfl ?_
        refine r_if_eq dd_Mod_live_48 (fun c_48 => ?_) (fun c_48 => ?_)
        · refine r_iconst dd_Mod_live_55 ⟨by decide, by decide⟩ ?_
          refine r_iast dd_Mod_live_56 (q := 12) (by decide) vk_220 (by omega) (by show _ < ((472 : Nat) : Int); omega) ?_
          try simp only [setO_at, setO_ss, upM_on, so_219, so_221, so_222, so_223, so_224, so_225, uo_219, uo_221, uo_222, uo_223, uo_224, uo_225, upM_eq, upM_uu, t221_219, t221_220, t221_222, t221_223, t221_224, t221_225, v221, t222_219, t222_220, t222_221, t222_223, t222_224, t222_225, v222, t223_219, t223_220, t223_221, t223_222, t223_224, t223_225, v223, w_220, w_221, w_222, w_223, w_224, w_225, x224_219, x225_219, kn_220, kn_221, kn_223, kn_224, kn_225]
          refine r_aloadn dd_Mod_live_57 rfl ?_
          refine r_iloadn dd_Mod_live_58 rfl ?_
          refine r_V1W dd_Mod_live_59 ml_Mod_105 ok_Mod_blocksOf vi_Mod_blocksOf vk_219 (by decide) (clS rfl (Nat.le_refl _) (rmOK_self _ _)) rfl (blks_so (m := up1 m (448 + t) 1) (MW_up hW ⟨by omega, by omega, by omega, by omega, by omega, by omega, by omega, by omega, by omega, by omega, by omega, by omega, by omega⟩)) ?_
          try simp only [setO_at, setO_ss, upM_on, so_219, so_221, so_222, so_223, so_224, so_225, uo_219, uo_221, uo_222, uo_223, uo_224, uo_225, upM_eq, upM_uu, t221_219, t221_220, t221_222, t221_223, t221_224, t221_225, v221, t222_219, t222_220, t222_221, t222_223, t222_224, t222_225, v222, t223_219, t223_220, t223_221, t223_222, t223_224, t223_225, v223, w_220, w_221, w_222, w_223, w_224, w_225, x224_219, x225_219, kn_220, kn_221, kn_223, kn_224, kn_225]
          exact r_retI dd_Mod_live_62 (by first | rfl | omega | exact (b2_t (by first | assumption | omega)).symm | exact (b2_f (by first | assumption | omega)).symm) rfl
        · exfalso; omega
      · exfalso; omega
  · exfalso; omega
def wrFM (m : Int → Int) (t b i v : Int) : Int :=
  if (t < 0 ∨ 5 < t) ∨ begOf m b = -5 then -1 else if (i < -64 ∨ 64 < i) ∨ (v < 1 ∨ 99 < v) then -2
  else if m (256 + begOf m b) ≠ t ∨ m (448 + t) = 1 ∨ (begOf m b + 1 + i < 0 ∨ 63 < begOf m b + 1 + i) then -4 else 0
theorem wrFM_c (m : Int → Int) (t b i v : Int) : (wrFM m t b i v = -1 ∨ wrFM m t b i v = -2 ∨ wrFM m t b i v = -4) ∨ (wrFM m t b i v = 0 ∧ (0 ≤ t ∧ t ≤ 5) ∧ begOf m b ≠ -5 ∧ (-64 ≤ i ∧ i ≤ 64) ∧ (1 ≤ v ∧ v ≤ 99) ∧ m (256 + begOf m b) = t ∧ m (448 + t) ≠ 1 ∧ 0 ≤ begOf m b + 1 + i ∧ begOf m b + 1 + i ≤ 63) := by
  unfold wrFM
  split
  · exact Or.inl (Or.inl rfl)
  · split
    · exact Or.inl (Or.inr (Or.inl rfl))
    · split
      · exact Or.inl (Or.inr (Or.inr rfl))
      · exact Or.inr ⟨rfl, by omega, by omega, by omega, by omega, by omega, by omega, by omega, by omega⟩
/-- the block is used now -/
def wuM (m : Int → Int) (w : Int) : Int → Int := up1 m (384 + w) (m 466)
/-- and a word written -/
def wvM (m : Int → Int) (w word v : Int) : Int → Int := up1 (wuM m w) (0 + word) v
/-- and a guard broken -/
def wbM (f : Int → Int) (t word : Int) : Int → Int := up1 (up1 f (460 + t) (f (460 + t) + (if f (64 + word) = 1 then 0 else 1))) (64 + word) 1
theorem MW_wu {K : Int} {m : Int → Int} (hW : MW K m) {w : Int} (h0 : 0 ≤ w) (h1 : w < 64) : MW K (wuM m w) := by
  have hc := hW.2.2.1
  exact MW_up hW ⟨by omega, by omega, by omega, by omega, by omega, by omega, by omega, by omega, by omega, by omega, by omega, by omega, by omega⟩
theorem MW_wv {K : Int} {m : Int → Int} (hW : MW K m) {w word v : Int} (h0 : 0 ≤ w) (h1 : w < 64) (h2 : 0 ≤ word) (h3 : word < 64) : MW K (wvM m w word v) :=
  MW_up (MW_wu hW h0 h1) ⟨by omega, by omega, by omega, by omega, by omega, by omega, by omega, by omega, by omega, by omega, by omega, by omega, by omega⟩

theorem c_Mod_write_e {μ : Int → Int → Int} {m : Int → Int} {K t b i v : Int} (hW : MW K m) (h : wrFM m t b i v < 0) : MetC mi_Mod_write [vR 219, vI t, vI b, vI i, vI v] (st (setO μ 220 m)) (some (vI (wrFM m t b i v))) (st (setO μ 220 m)) := by
  refine met_of ?_ (Nat.le_of_ble_eq_true rfl) (by decide) trivial (by decide) (Nat.le_of_ble_eq_true rfl)
  show SPW mi_Mod_write 226 0 [some (vR 219), some (vI t), some (vI b), some (vI i), some (vI v), none, none, none] [] (st (setO μ 220 m)) (some (vI (wrFM m t b i v))) (st (setO μ 220 m))
  have hr := begOf_rg m b
  have hc := wrFM_c m t b i v
  refine r_aloadn dd_Mod_write_0 rfl ?_
  refine r_iloadn dd_Mod_write_1 rfl ?_
  refine r_V1W dd_Mod_write_2 ml_Mod_78 ok_Mod_beginOf vi_Mod_beginOf vk_219 (by decide) (clS rfl (Nat.le_refl _) (rmOK_self _ _)) rfl begOf_so ?_
  try simp only [setO_at, setO_ss, upM_on, so_219, so_221, so_222, so_223, so_224, so_225, uo_219, uo_221, uo_222, uo_223, uo_224, uo_225, upM_eq, upM_uu, t221_219, t221_220, t221_222, t221_223, t221_224, t221_225, v221, t222_219, t222_220, t222_221, t222_223, t222_224, t222_225, v222, t223_219, t223_220, t223_221, t223_222, t223_224, t223_225, v223, w_220, w_221, w_222, w_223, w_224, w_225, x224_219, x225_219, kn_220, kn_221, kn_223, kn_224, kn_225]
  refine r_istore (L' := [_, _, _, _, _, _, _, _]) dd_Mod_write_5 rfl rfl ?_
  refine r_iloadn dd_Mod_write_7 rfl ?_
  refine r_S1W dd_Mod_write_8 ml_Mod_71 ok_Mod_isTask st_Mod_isTask (clS rfl (Nat.le_refl _) (rmOK_self _ _)) rfl c_Mod_isTask ?_
  try simp only [setO_at, setO_ss, upM_on, so_219, so_221, so_222, so_223, so_224, so_225, uo_219, uo_221, uo_222, uo_223, uo_224, uo_225, upM_eq, upM_uu, t221_219, t221_220, t221_222, t221_223, t221_224, t221_225, v221, t222_219, t222_220, t222_221, t222_223, t222_224, t222_225, v222, t223_219, t223_220, t223_221, t223_222, t223_224, t223_225, v223, w_220, w_221, w_222, w_223, w_224, w_225, x224_219, x225_219, kn_220, kn_221, kn_223, kn_224, kn_225]
  refine r_if_eq_b dd_Mod_write_11 (fun c_11 => ?_) (fun c_11 => ?_)
  · refine r_iconst dd_Mod_write_21 ⟨by decide, by decide⟩ ?_
    exact r_retI dd_Mod_write_22 (by unfold wrFM; (repeat (first | rw [if_pos (by omega)] | rw [if_neg (by omega)])); first | done | omega | (congr 1; omega) | exact (b2_t (by first | assumption | omega)).symm | exact (b2_f (by first | assumption | omega)).symm) rfl
  · refine r_iload dd_Mod_write_14 rfl ?_
    refine r_bip dd_Mod_write_16 ⟨by decide, by decide⟩ ?_
    refine r_icmp_ne dd_Mod_write_18 (fun c_18 => ?_) (fun c_18 => ?_)
    · refine r_iloadn dd_Mod_write_23 rfl ?_
      refine r_bip dd_Mod_write_24 ⟨by decide, by decide⟩ ?_
      refine r_bip dd_Mod_write_26 ⟨by decide, by decide⟩ ?_
      refine r_S3W dd_Mod_write_28 ml_Mod_35 ok_Mod_in st_Mod_in (clS rfl (Nat.le_refl _) (rmOK_self _ _)) rfl c_Mod_in ?_
      try simp only [setO_at, setO_ss, upM_on, so_219, so_221, so_222, so_223, so_224, so_225, uo_219, uo_221, uo_222, uo_223, uo_224, uo_225, upM_eq, upM_uu, t221_219, t221_220, t221_222, t221_223, t221_224, t221_225, v221, t222_219, t222_220, t222_221, t222_223, t222_224, t222_225, v222, t223_219, t223_220, t223_221, t223_222, t223_224, t223_225, v223, w_220, w_221, w_222, w_223, w_224, w_225, x224_219, x225_219, kn_220, kn_221, kn_223, kn_224, kn_225]
      refine r_if_eq_b dd_Mod_write_31 (fun c_31 => ?_) (fun c_31 => ?_)
      · refine r_bip dd_Mod_write_45 ⟨by decide, by decide⟩ ?_
        exact r_retI dd_Mod_write_47 (by unfold wrFM; (repeat (first | rw [if_pos (by omega)] | rw [if_neg (by omega)])); first | done | omega | (congr 1; omega) | exact (b2_t (by first | assumption | omega)).symm | exact (b2_f (by first | assumption | omega)).symm) rfl
      · refine r_iload dd_Mod_write_34 rfl ?_
        refine r_iconst dd_Mod_write_36 ⟨by decide, by decide⟩ ?_
        refine r_bip dd_Mod_write_37 ⟨by decide, by decide⟩ ?_
        refine r_S3W dd_Mod_write_39 ml_Mod_35 ok_Mod_in st_Mod_in (clS rfl (Nat.le_refl _) (rmOK_self _ _)) rfl c_Mod_in ?_
        try simp only [setO_at, setO_ss, upM_on, so_219, so_221, so_222, so_223, so_224, so_225, uo_219, uo_221, uo_222, uo_223, uo_224, uo_225, upM_eq, upM_uu, t221_219, t221_220, t221_222, t221_223, t221_224, t221_225, v221, t222_219, t222_220, t222_221, t222_223, t222_224, t222_225, v222, t223_219, t223_220, t223_221, t223_222, t223_224, t223_225, v223, w_220, w_221, w_222, w_223, w_224, w_225, x224_219, x225_219, kn_220, kn_221, kn_223, kn_224, kn_225]
        refine r_if_ne_b dd_Mod_write_42 (fun c_42 => ?_) (fun c_42 => ?_)
        · refine r_iload dd_Mod_write_48 rfl ?_
          refine r_iconst dd_Mod_write_50 ⟨by decide, by decide⟩ ?_
          refine r_iadd dd_Mod_write_51 ⟨by omega, by omega⟩ ?_
          refine r_iloadn dd_Mod_write_52 rfl ?_
          refine r_iadd dd_Mod_write_53 ⟨by omega, by omega⟩ ?_
          refine r_istore (L' := [_, _, _, _, _, _, _, _]) dd_Mod_write_54 rfl rfl ?_
          refine r_aloadn dd_Mod_write_56 rfl ?_
          refine r_getR dd_Mod_write_57 fl_Mod_7 (kI := 0) rfl fr_Mod_0 vk_219 R0_219_0 ?_
          refine r_sip dd_Mod_write_60 ⟨by decide, by decide⟩ ?_
          refine r_iload dd_Mod_write_63 rfl ?_
          refine r_iadd dd_Mod_write_65 ⟨by omega, by omega⟩ ?_
          refine r_iald dd_Mod_write_66 (q := 12) (by decide) vk_220 (by omega) (by show _ < ((472 : Nat) : Int); omega) ?_
          try simp only [setO_at, setO_ss, upM_on, so_219, so_221, so_222, so_223, so_224, so_225, uo_219, uo_221, uo_222, uo_223, uo_224, uo_225, upM_eq, upM_uu, t221_219, t221_220, t221_222, t221_223, t221_224, t221_225, v221, t222_219, t222_220, t222_221, t222_223, t222_224, t222_225, v222, t223_219, t223_220, t223_221, t223_222, t223_224, t223_225, v223, w_220, w_221, w_222, w_223, w_224, w_225, x224_219, x225_219, kn_220, kn_221, kn_223, kn_224, kn_225]
          refine r_iloadn dd_Mod_write_67 rfl ?_
          refine r_icmp_ne dd_Mod_write_68 (fun c_68 => ?_) (fun c_68 => ?_)
          · refine r_bip dd_Mod_write_96 ⟨by decide, by decide⟩ ?_
            exact r_retI dd_Mod_write_98 (by unfold wrFM; (repeat (first | rw [if_pos (by omega)] | rw [if_neg (by omega)])); first | done | omega | (congr 1; omega) | exact (b2_t (by first | assumption | omega)).symm | exact (b2_f (by first | assumption | omega)).symm) rfl
          · refine r_aloadn dd_Mod_write_71 rfl ?_
            refine r_getR dd_Mod_write_72 fl_Mod_7 (kI := 0) rfl fr_Mod_0 vk_219 R0_219_0 ?_
            refine r_sip dd_Mod_write_75 ⟨by decide, by decide⟩ ?_
            refine r_iloadn dd_Mod_write_78 rfl ?_
            refine r_iadd dd_Mod_write_79 ⟨by omega, by omega⟩ ?_
            refine r_iald dd_Mod_write_80 (q := 12) (by decide) vk_220 (by omega) (by show _ < ((472 : Nat) : Int); omega) ?_
            try simp only [setO_at, setO_ss, upM_on, so_219, so_221, so_222, so_223, so_224, so_225, uo_219, uo_221, uo_222, uo_223, uo_224, uo_225, upM_eq, upM_uu, t221_219, t221_220, t221_222, t221_223, t221_224, t221_225, v221, t222_219, t222_220, t222_221, t222_223, t222_224, t222_225, v222, t223_219, t223_220, t223_221, t223_222, t223_224, t223_225, v223, w_220, w_221, w_222, w_223, w_224, w_225, x224_219, x225_219, kn_220, kn_221, kn_223, kn_224, kn_225]
            refine r_iconst dd_Mod_write_81 ⟨by decide, by decide⟩ ?_
            refine r_icmp_eq dd_Mod_write_82 (fun c_82 => ?_) (fun c_82 => ?_)
            · refine r_bip dd_Mod_write_96 ⟨by decide, by decide⟩ ?_
              exact r_retI dd_Mod_write_98 (by unfold wrFM; (repeat (first | rw [if_pos (by omega)] | rw [if_neg (by omega)])); first | done | omega | (congr 1; omega) | exact (b2_t (by first | assumption | omega)).symm | exact (b2_f (by first | assumption | omega)).symm) rfl
            · refine r_iload dd_Mod_write_85 rfl ?_
              refine r_iconst dd_Mod_write_87 ⟨by decide, by decide⟩ ?_
              refine r_bip dd_Mod_write_88 ⟨by decide, by decide⟩ ?_
              refine r_S3W dd_Mod_write_90 ml_Mod_35 ok_Mod_in st_Mod_in (clS rfl (Nat.le_refl _) (rmOK_self _ _)) rfl c_Mod_in ?_
              try simp only [setO_at, setO_ss, upM_on, so_219, so_221, so_222, so_223, so_224, so_225, uo_219, uo_221, uo_222, uo_223, uo_224, uo_225, upM_eq, upM_uu, t221_219, t221_220, t221_222, t221_223, t221_224, t221_225, v221, t222_219, t222_220, t222_221, t222_223, t222_224, t222_225, v222, t223_219, t223_220, t223_221, t223_222, t223_224, t223_225, v223, w_220, w_221, w_222, w_223, w_224, w_225, x224_219, x225_219, kn_220, kn_221, kn_223, kn_224, kn_225]
              refine r_if_ne_b dd_Mod_write_93 (fun c_93 => ?_) (fun c_93 => ?_)
              · exfalso; unfold wrFM at h; rw [if_neg (by omega), if_neg (by omega), if_neg (by omega)] at h; omega
              · refine r_bip dd_Mod_write_96 ⟨by decide, by decide⟩ ?_
                exact r_retI dd_Mod_write_98 (by unfold wrFM; (repeat (first | rw [if_pos (by omega)] | rw [if_neg (by omega)])); first | done | omega | (congr 1; omega) | exact (b2_t (by first | assumption | omega)).symm | exact (b2_f (by first | assumption | omega)).symm) rfl
        · refine r_bip dd_Mod_write_45 ⟨by decide, by decide⟩ ?_
          exact r_retI dd_Mod_write_47 (by unfold wrFM; (repeat (first | rw [if_pos (by omega)] | rw [if_neg (by omega)])); first | done | omega | (congr 1; omega) | exact (b2_t (by first | assumption | omega)).symm | exact (b2_f (by first | assumption | omega)).symm) rfl
    · refine r_iconst dd_Mod_write_21 ⟨by decide, by decide⟩ ?_
      exact r_retI dd_Mod_write_22 (by unfold wrFM; (repeat (first | rw [if_pos (by omega)] | rw [if_neg (by omega)])); first | done | omega | (congr 1; omega) | exact (b2_t (by first | assumption | omega)).symm | exact (b2_f (by first | assumption | omega)).symm) rfl
theorem c_Mod_write_3 {μ : Int → Int → Int} {m : Int → Int} {K t b i v : Int} (hW : MW K m) (h : wrFM m t b i v = 0) (hk : 0 ≤ μ 219 3 ∧ μ 219 3 ≤ 4) (hf : fre (wuM m (begOf m b)) (bgn m (begOf m b + 1 + i))) : MetC mi_Mod_write [vR 219, vI t, vI b, vI i, vI v] (st (setO μ 220 m)) (some (vI 3)) (st (setO (knM μ m) 220 (wuM m (begOf m b)))) := by
  refine met_of ?_ (Nat.le_of_ble_eq_true rfl) (by decide) trivial (by decide) (Nat.le_of_ble_eq_true rfl)
  show SPW mi_Mod_write 226 0 [some (vR 219), some (vI t), some (vI b), some (vI i), some (vI v), none, none, none] [] (st (setO μ 220 m)) (some (vI 3)) (st (setO (knM μ m) 220 (wuM m (begOf m b))))
  have hr := begOf_rg m b
  have hc := wrFM_c m t b i v
  have hz := hW.2.2.2.2.2.2.2.2.2
  have hcl := hW.2.2.1
  have hg := bgn_rg hz (w := begOf m b + 1 + i) (by omega) (by omega)
  have hlm := hW.2.1 t (by omega) (by omega)
  have hK := hW.2.2.2.2.2.2.2.2.1
  have ha := hW.1 (begOf m b) (by omega) (by omega)
  refine r_aloadn dd_Mod_write_0 rfl ?_
  refine r_iloadn dd_Mod_write_1 rfl ?_
  refine r_V1W dd_Mod_write_2 ml_Mod_78 ok_Mod_beginOf vi_Mod_beginOf vk_219 (by decide) (clS rfl (Nat.le_refl _) (rmOK_self _ _)) rfl begOf_so ?_
  try simp only [setO_at, setO_ss, upM_on, so_219, so_221, so_222, so_223, so_224, so_225, uo_219, uo_221, uo_222, uo_223, uo_224, uo_225, upM_eq, upM_uu, t221_219, t221_220, t221_222, t221_223, t221_224, t221_225, v221, t222_219, t222_220, t222_221, t222_223, t222_224, t222_225, v222, t223_219, t223_220, t223_221, t223_222, t223_224, t223_225, v223, w_220, w_221, w_222, w_223, w_224, w_225, x224_219, x225_219, kn_220, kn_221, kn_223, kn_224, kn_225]
  refine r_istore (L' := [_, _, _, _, _, _, _, _]) dd_Mod_write_5 rfl rfl ?_
  refine r_iloadn dd_Mod_write_7 rfl ?_
  refine r_S1W dd_Mod_write_8 ml_Mod_71 ok_Mod_isTask st_Mod_isTask (clS rfl (Nat.le_refl _) (rmOK_self _ _)) rfl c_Mod_isTask ?_
  try simp only [setO_at, setO_ss, upM_on, so_219, so_221, so_222, so_223, so_224, so_225, uo_219, uo_221, uo_222, uo_223, uo_224, uo_225, upM_eq, upM_uu, t221_219, t221_220, t221_222, t221_223, t221_224, t221_225, v221, t222_219, t222_220, t222_221, t222_223, t222_224, t222_225, v222, t223_219, t223_220, t223_221, t223_222, t223_224, t223_225, v223, w_220, w_221, w_222, w_223, w_224, w_225, x224_219, x225_219, kn_220, kn_221, kn_223, kn_224, kn_225]
  refine r_if_eq_b dd_Mod_write_11 (fun c_11 => ?_) (fun c_11 => ?_)
  · exfalso; omega
  · refine r_iload dd_Mod_write_14 rfl ?_
    refine r_bip dd_Mod_write_16 ⟨by decide, by decide⟩ ?_
    refine r_icmp_ne dd_Mod_write_18 (fun c_18 => ?_) (fun c_18 => ?_)
    · refine r_iloadn dd_Mod_write_23 rfl ?_
      refine r_bip dd_Mod_write_24 ⟨by decide, by decide⟩ ?_
      refine r_bip dd_Mod_write_26 ⟨by decide, by decide⟩ ?_
      refine r_S3W dd_Mod_write_28 ml_Mod_35 ok_Mod_in st_Mod_in (clS rfl (Nat.le_refl _) (rmOK_self _ _)) rfl c_Mod_in ?_
      try simp only [setO_at, setO_ss, upM_on, so_219, so_221, so_222, so_223, so_224, so_225, uo_219, uo_221, uo_222, uo_223, uo_224, uo_225, upM_eq, upM_uu, t221_219, t221_220, t221_222, t221_223, t221_224, t221_225, v221, t222_219, t222_220, t222_221, t222_223, t222_224, t222_225, v222, t223_219, t223_220, t223_221, t223_222, t223_224, t223_225, v223, w_220, w_221, w_222, w_223, w_224, w_225, x224_219, x225_219, kn_220, kn_221, kn_223, kn_224, kn_225]
      refine r_if_eq_b dd_Mod_write_31 (fun c_31 => ?_) (fun c_31 => ?_)
      · exfalso; omega
      · refine r_iload dd_Mod_write_34 rfl ?_
        refine r_iconst dd_Mod_write_36 ⟨by decide, by decide⟩ ?_
        refine r_bip dd_Mod_write_37 ⟨by decide, by decide⟩ ?_
        refine r_S3W dd_Mod_write_39 ml_Mod_35 ok_Mod_in st_Mod_in (clS rfl (Nat.le_refl _) (rmOK_self _ _)) rfl c_Mod_in ?_
        try simp only [setO_at, setO_ss, upM_on, so_219, so_221, so_222, so_223, so_224, so_225, uo_219, uo_221, uo_222, uo_223, uo_224, uo_225, upM_eq, upM_uu, t221_219, t221_220, t221_222, t221_223, t221_224, t221_225, v221, t222_219, t222_220, t222_221, t222_223, t222_224, t222_225, v222, t223_219, t223_220, t223_221, t223_222, t223_224, t223_225, v223, w_220, w_221, w_222, w_223, w_224, w_225, x224_219, x225_219, kn_220, kn_221, kn_223, kn_224, kn_225]
        refine r_if_ne_b dd_Mod_write_42 (fun c_42 => ?_) (fun c_42 => ?_)
        · refine r_iload dd_Mod_write_48 rfl ?_
          refine r_iconst dd_Mod_write_50 ⟨by decide, by decide⟩ ?_
          refine r_iadd dd_Mod_write_51 ⟨by omega, by omega⟩ ?_
          refine r_iloadn dd_Mod_write_52 rfl ?_
          refine r_iadd dd_Mod_write_53 ⟨by omega, by omega⟩ ?_
          refine r_istore (L' := [_, _, _, _, _, _, _, _]) dd_Mod_write_54 rfl rfl ?_
          refine r_aloadn dd_Mod_write_56 rfl ?_
          refine r_getR dd_Mod_write_57 fl_Mod_7 (kI := 0) rfl fr_Mod_0 vk_219 R0_219_0 ?_
          refine r_sip dd_Mod_write_60 ⟨by decide, by decide⟩ ?_
          refine r_iload dd_Mod_write_63 rfl ?_
          refine r_iadd dd_Mod_write_65 ⟨by omega, by omega⟩ ?_
          refine r_iald dd_Mod_write_66 (q := 12) (by decide) vk_220 (by omega) (by show _ < ((472 : Nat) : Int); omega) ?_
          try simp only [setO_at, setO_ss, upM_on, so_219, so_221, so_222, so_223, so_224, so_225, uo_219, uo_221, uo_222, uo_223, uo_224, uo_225, upM_eq, upM_uu, t221_219, t221_220, t221_222, t221_223, t221_224, t221_225, v221, t222_219, t222_220, t222_221, t222_223, t222_224, t222_225, v222, t223_219, t223_220, t223_221, t223_222, t223_224, t223_225, v223, w_220, w_221, w_222, w_223, w_224, w_225, x224_219, x225_219, kn_220, kn_221, kn_223, kn_224, kn_225]
          refine r_iloadn dd_Mod_write_67 rfl ?_
          refine r_icmp_ne dd_Mod_write_68 (fun c_68 => ?_) (fun c_68 => ?_)
          · exfalso; omega
          · refine r_aloadn dd_Mod_write_71 rfl ?_
            refine r_getR dd_Mod_write_72 fl_Mod_7 (kI := 0) rfl fr_Mod_0 vk_219 R0_219_0 ?_
            refine r_sip dd_Mod_write_75 ⟨by decide, by decide⟩ ?_
            refine r_iloadn dd_Mod_write_78 rfl ?_
            refine r_iadd dd_Mod_write_79 ⟨by omega, by omega⟩ ?_
            refine r_iald dd_Mod_write_80 (q := 12) (by decide) vk_220 (by omega) (by show _ < ((472 : Nat) : Int); omega) ?_
            try simp only [setO_at, setO_ss, upM_on, so_219, so_221, so_222, so_223, so_224, so_225, uo_219, uo_221, uo_222, uo_223, uo_224, uo_225, upM_eq, upM_uu, t221_219, t221_220, t221_222, t221_223, t221_224, t221_225, v221, t222_219, t222_220, t222_221, t222_223, t222_224, t222_225, v222, t223_219, t223_220, t223_221, t223_222, t223_224, t223_225, v223, w_220, w_221, w_222, w_223, w_224, w_225, x224_219, x225_219, kn_220, kn_221, kn_223, kn_224, kn_225]
            refine r_iconst dd_Mod_write_81 ⟨by decide, by decide⟩ ?_
            refine r_icmp_eq dd_Mod_write_82 (fun c_82 => ?_) (fun c_82 => ?_)
            · exfalso; omega
            · refine r_iload dd_Mod_write_85 rfl ?_
              refine r_iconst dd_Mod_write_87 ⟨by decide, by decide⟩ ?_
              refine r_bip dd_Mod_write_88 ⟨by decide, by decide⟩ ?_
              refine r_S3W dd_Mod_write_90 ml_Mod_35 ok_Mod_in st_Mod_in (clS rfl (Nat.le_refl _) (rmOK_self _ _)) rfl c_Mod_in ?_
              try simp only [setO_at, setO_ss, upM_on, so_219, so_221, so_222, so_223, so_224, so_225, uo_219, uo_221, uo_222, uo_223, uo_224, uo_225, upM_eq, upM_uu, t221_219, t221_220, t221_222, t221_223, t221_224, t221_225, v221, t222_219, t222_220, t222_221, t222_223, t222_224, t222_225, v222, t223_219, t223_220, t223_221, t223_222, t223_224, t223_225, v223, w_220, w_221, w_222, w_223, w_224, w_225, x224_219, x225_219, kn_220, kn_221, kn_223, kn_224, kn_225]
              refine r_if_ne_b dd_Mod_write_93 (fun c_93 => ?_) (fun c_93 => ?_)
              · refine r_aloadn dd_Mod_write_99 rfl ?_
                refine r_V0N dd_Mod_write_100 ml_Mod_90 ok_Mod_know vi_Mod_know vk_219 (by decide) (clS rfl (Nat.le_refl _) (rmOK_self _ _)) rfl (c_Mod_know hk) ?_
                try simp only [setO_at, setO_ss, upM_on, so_219, so_221, so_222, so_223, so_224, so_225, uo_219, uo_221, uo_222, uo_223, uo_224, uo_225, upM_eq, upM_uu, t221_219, t221_220, t221_222, t221_223, t221_224, t221_225, v221, t222_219, t222_220, t222_221, t222_223, t222_224, t222_225, v222, t223_219, t223_220, t223_221, t223_222, t223_224, t223_225, v223, w_220, w_221, w_222, w_223, w_224, w_225, x224_219, x225_219, kn_220, kn_221, kn_223, kn_224, kn_225]
                refine r_aloadn dd_Mod_write_103 rfl ?_
                refine r_iload dd_Mod_write_104 rfl ?_
                refine r_V1W dd_Mod_write_106 ml_Mod_46 ok_Mod_beginAt vi_Mod_beginAt vk_219 (by decide) (clS rfl (Nat.le_refl _) (rmOK_self _ _)) rfl (bgn_so (μ := knM μ m) hz (by omega) (by omega)) ?_
                try simp only [setO_at, setO_ss, upM_on, so_219, so_221, so_222, so_223, so_224, so_225, uo_219, uo_221, uo_222, uo_223, uo_224, uo_225, upM_eq, upM_uu, t221_219, t221_220, t221_222, t221_223, t221_224, t221_225, v221, t222_219, t222_220, t222_221, t222_223, t222_224, t222_225, v222, t223_219, t223_220, t223_221, t223_222, t223_224, t223_225, v223, w_220, w_221, w_222, w_223, w_224, w_225, x224_219, x225_219, kn_220, kn_221, kn_223, kn_224, kn_225]
                refine r_istore (L' := [_, _, _, _, _, _, _, _]) dd_Mod_write_109 rfl rfl ?_
                refine r_aloadn dd_Mod_write_111 rfl ?_
                refine r_getR dd_Mod_write_112 fl_Mod_7 (kI := 0) rfl fr_Mod_0 vk_219 R0_219_0 ?_
                refine r_sip dd_Mod_write_115 ⟨by decide, by decide⟩ ?_
                refine r_iload dd_Mod_write_118 rfl ?_
                refine r_iadd dd_Mod_write_120 ⟨by omega, by omega⟩ ?_
                refine r_aloadn dd_Mod_write_121 rfl ?_
                refine r_getR dd_Mod_write_122 fl_Mod_7 (kI := 0) rfl fr_Mod_0 vk_219 R0_219_0 ?_
                refine r_sip dd_Mod_write_125 ⟨by decide, by decide⟩ ?_
                refine r_iald dd_Mod_write_128 (q := 12) (by decide) vk_220 (by omega) (by show _ < ((472 : Nat) : Int); omega) ?_
                try simp only [setO_at, setO_ss, upM_on, so_219, so_221, so_222, so_223, so_224, so_225, uo_219, uo_221, uo_222, uo_223, uo_224, uo_225, upM_eq, upM_uu, t221_219, t221_220, t221_222, t221_223, t221_224, t221_225, v221, t222_219, t222_220, t222_221, t222_223, t222_224, t222_225, v222, t223_219, t223_220, t223_221, t223_222, t223_224, t223_225, v223, w_220, w_221, w_222, w_223, w_224, w_225, x224_219, x225_219, kn_220, kn_221, kn_223, kn_224, kn_225]
                refine r_iast dd_Mod_write_129 (q := 12) (by decide) vk_220 (by omega) (by show _ < ((472 : Nat) : Int); omega) ?_
                try simp only [setO_at, setO_ss, upM_on, so_219, so_221, so_222, so_223, so_224, so_225, uo_219, uo_221, uo_222, uo_223, uo_224, uo_225, upM_eq, upM_uu, t221_219, t221_220, t221_222, t221_223, t221_224, t221_225, v221, t222_219, t222_220, t222_221, t222_223, t222_224, t222_225, v222, t223_219, t223_220, t223_221, t223_222, t223_224, t223_225, v223, w_220, w_221, w_222, w_223, w_224, w_225, x224_219, x225_219, kn_220, kn_221, kn_223, kn_224, kn_225]
                rw [show up1 m (384 + begOf m b) (m 466) = wuM m (begOf m b) from rfl]
                refine r_aloadn dd_Mod_write_130 rfl ?_
                refine r_iload dd_Mod_write_131 rfl ?_
                refine r_V1W dd_Mod_write_133 ml_Mod_50 ok_Mod_isFree vi_Mod_isFree vk_219 (by decide) (clS rfl (Nat.le_refl _) (rmOK_self _ _)) rfl (fre_so (m := wuM m (begOf m b)) (by omega) (by omega)) ?_
                try simp only [setO_at, setO_ss, upM_on, so_219, so_221, so_222, so_223, so_224, so_225, uo_219, uo_221, uo_222, uo_223, uo_224, uo_225, upM_eq, upM_uu, t221_219, t221_220, t221_222, t221_223, t221_224, t221_225, v221, t222_219, t222_220, t222_221, t222_223, t222_224, t222_225, v222, t223_219, t223_220, t223_221, t223_222, t223_224, t223_225, v223, w_220, w_221, w_222, w_223, w_224, w_225, x224_219, x225_219, kn_220, kn_221, kn_223, kn_224, kn_225]
                refine r_if_eq_b dd_Mod_write_136 (fun c_136 => ?_) (fun c_136 => ?_)
                · exfalso; omega
                · refine r_iconst dd_Mod_write_139 ⟨by decide, by decide⟩ ?_
                  exact r_retI dd_Mod_write_140 (by first | rfl | omega | exact (b2_t (by first | assumption | omega)).symm | exact (b2_f (by first | assumption | omega)).symm) rfl
              · exfalso; omega
        · exfalso; omega
    · exfalso; omega
theorem c_Mod_write_2 {μ : Int → Int → Int} {m : Int → Int} {K t b i v : Int} (hW : MW K m) (h : wrFM m t b i v = 0) (hk : 0 ≤ μ 219 3 ∧ μ 219 3 ≤ 4) (hf : ¬ fre (wuM m (begOf m b)) (bgn m (begOf m b + 1 + i))) (hgd : grdM (wvM m (begOf m b) (begOf m b + 1 + i) v) (begOf m b + 1 + i)) : MetC mi_Mod_write [vR 219, vI t, vI b, vI i, vI v] (st (setO μ 220 m)) (some (vI 2)) (st (setO (knM μ m) 220 (wbM (wvM m (begOf m b) (begOf m b + 1 + i) v) t (begOf m b + 1 + i)))) := by
  refine met_of ?_ (Nat.le_of_ble_eq_true rfl) (by decide) trivial (by decide) (Nat.le_of_ble_eq_true rfl)
  show SPW mi_Mod_write 226 0 [some (vR 219), some (vI t), some (vI b), some (vI i), some (vI v), none, none, none] [] (st (setO μ 220 m)) (some (vI 2)) (st (setO (knM μ m) 220 (wbM (wvM m (begOf m b) (begOf m b + 1 + i) v) t (begOf m b + 1 + i))))
  have hr := begOf_rg m b
  have hc := wrFM_c m t b i v
  have hz := hW.2.2.2.2.2.2.2.2.2
  have hcl := hW.2.2.1
  have hg := bgn_rg hz (w := begOf m b + 1 + i) (by omega) (by omega)
  have hlm := hW.2.1 t (by omega) (by omega)
  have hK := hW.2.2.2.2.2.2.2.2.1
  have ha := hW.1 (begOf m b) (by omega) (by omega)
  have hlm2 := (MW_wv hW (w := begOf m b) (word := (begOf m b + 1 + i)) (v := v) (by omega) (by omega) (by omega) (by omega)).2.1 t (by omega) (by omega)
  refine r_aloadn dd_Mod_write_0 rfl ?_
  refine r_iloadn dd_Mod_write_1 rfl ?_
  refine r_V1W dd_Mod_write_2 ml_Mod_78 ok_Mod_beginOf vi_Mod_beginOf vk_219 (by decide) (clS rfl (Nat.le_refl _) (rmOK_self _ _)) rfl begOf_so ?_
  try simp only [setO_at, setO_ss, upM_on, so_219, so_221, so_222, so_223, so_224, so_225, uo_219, uo_221, uo_222, uo_223, uo_224, uo_225, upM_eq, upM_uu, t221_219, t221_220, t221_222, t221_223, t221_224, t221_225, v221, t222_219, t222_220, t222_221, t222_223, t222_224, t222_225, v222, t223_219, t223_220, t223_221, t223_222, t223_224, t223_225, v223, w_220, w_221, w_222, w_223, w_224, w_225, x224_219, x225_219, kn_220, kn_221, kn_223, kn_224, kn_225]
  refine r_istore (L' := [_, _, _, _, _, _, _, _]) dd_Mod_write_5 rfl rfl ?_
  refine r_iloadn dd_Mod_write_7 rfl ?_
  refine r_S1W dd_Mod_write_8 ml_Mod_71 ok_Mod_isTask st_Mod_isTask (clS rfl (Nat.le_refl _) (rmOK_self _ _)) rfl c_Mod_isTask ?_
  try simp only [setO_at, setO_ss, upM_on, so_219, so_221, so_222, so_223, so_224, so_225, uo_219, uo_221, uo_222, uo_223, uo_224, uo_225, upM_eq, upM_uu, t221_219, t221_220, t221_222, t221_223, t221_224, t221_225, v221, t222_219, t222_220, t222_221, t222_223, t222_224, t222_225, v222, t223_219, t223_220, t223_221, t223_222, t223_224, t223_225, v223, w_220, w_221, w_222, w_223, w_224, w_225, x224_219, x225_219, kn_220, kn_221, kn_223, kn_224, kn_225]
  refine r_if_eq_b dd_Mod_write_11 (fun c_11 => ?_) (fun c_11 => ?_)
  · exfalso; omega
  · refine r_iload dd_Mod_write_14 rfl ?_
    refine r_bip dd_Mod_write_16 ⟨by decide, by decide⟩ ?_
    refine r_icmp_ne dd_Mod_write_18 (fun c_18 => ?_) (fun c_18 => ?_)
    · refine r_iloadn dd_Mod_write_23 rfl ?_
      refine r_bip dd_Mod_write_24 ⟨by decide, by decide⟩ ?_
      refine r_bip dd_Mod_write_26 ⟨by decide, by decide⟩ ?_
      refine r_S3W dd_Mod_write_28 ml_Mod_35 ok_Mod_in st_Mod_in (clS rfl (Nat.le_refl _) (rmOK_self _ _)) rfl c_Mod_in ?_
      try simp only [setO_at, setO_ss, upM_on, so_219, so_221, so_222, so_223, so_224, so_225, uo_219, uo_221, uo_222, uo_223, uo_224, uo_225, upM_eq, upM_uu, t221_219, t221_220, t221_222, t221_223, t221_224, t221_225, v221, t222_219, t222_220, t222_221, t222_223, t222_224, t222_225, v222, t223_219, t223_220, t223_221, t223_222, t223_224, t223_225, v223, w_220, w_221, w_222, w_223, w_224, w_225, x224_219, x225_219, kn_220, kn_221, kn_223, kn_224, kn_225]
      refine r_if_eq_b dd_Mod_write_31 (fun c_31 => ?_) (fun c_31 => ?_)
      · exfalso; omega
      · refine r_iload dd_Mod_write_34 rfl ?_
        refine r_iconst dd_Mod_write_36 ⟨by decide, by decide⟩ ?_
        refine r_bip dd_Mod_write_37 ⟨by decide, by decide⟩ ?_
        refine r_S3W dd_Mod_write_39 ml_Mod_35 ok_Mod_in st_Mod_in (clS rfl (Nat.le_refl _) (rmOK_self _ _)) rfl c_Mod_in ?_
        try simp only [setO_at, setO_ss, upM_on, so_219, so_221, so_222, so_223, so_224, so_225, uo_219, uo_221, uo_222, uo_223, uo_224, uo_225, upM_eq, upM_uu, t221_219, t221_220, t221_222, t221_223, t221_224, t221_225, v221, t222_219, t222_220, t222_221, t222_223, t222_224, t222_225, v222, t223_219, t223_220, t223_221, t223_222, t223_224, t223_225, v223, w_220, w_221, w_222, w_223, w_224, w_225, x224_219, x225_219, kn_220, kn_221, kn_223, kn_224, kn_225]
        refine r_if_ne_b dd_Mod_write_42 (fun c_42 => ?_) (fun c_42 => ?_)
        · refine r_iload dd_Mod_write_48 rfl ?_
          refine r_iconst dd_Mod_write_50 ⟨by decide, by decide⟩ ?_
          refine r_iadd dd_Mod_write_51 ⟨by omega, by omega⟩ ?_
          refine r_iloadn dd_Mod_write_52 rfl ?_
          refine r_iadd dd_Mod_write_53 ⟨by omega, by omega⟩ ?_
          refine r_istore (L' := [_, _, _, _, _, _, _, _]) dd_Mod_write_54 rfl rfl ?_
          refine r_aloadn dd_Mod_write_56 rfl ?_
          refine r_getR dd_Mod_write_57 fl_Mod_7 (kI := 0) rfl fr_Mod_0 vk_219 R0_219_0 ?_
          refine r_sip dd_Mod_write_60 ⟨by decide, by decide⟩ ?_
          refine r_iload dd_Mod_write_63 rfl ?_
          refine r_iadd dd_Mod_write_65 ⟨by omega, by omega⟩ ?_
          refine r_iald dd_Mod_write_66 (q := 12) (by decide) vk_220 (by omega) (by show _ < ((472 : Nat) : Int); omega) ?_
          try simp only [setO_at, setO_ss, upM_on, so_219, so_221, so_222, so_223, so_224, so_225, uo_219, uo_221, uo_222, uo_223, uo_224, uo_225, upM_eq, upM_uu, t221_219, t221_220, t221_222, t221_223, t221_224, t221_225, v221, t222_219, t222_220, t222_221, t222_223, t222_224, t222_225, v222, t223_219, t223_220, t223_221, t223_222, t223_224, t223_225, v223, w_220, w_221, w_222, w_223, w_224, w_225, x224_219, x225_219, kn_220, kn_221, kn_223, kn_224, kn_225]
          refine r_iloadn dd_Mod_write_67 rfl ?_
          refine r_icmp_ne dd_Mod_write_68 (fun c_68 => ?_) (fun c_68 => ?_)
          · exfalso; omega
          · refine r_aloadn dd_Mod_write_71 rfl ?_
            refine r_getR dd_Mod_write_72 fl_Mod_7 (kI := 0) rfl fr_Mod_0 vk_219 R0_219_0 ?_
            refine r_sip dd_Mod_write_75 ⟨by decide, by decide⟩ ?_
            refine r_iloadn dd_Mod_write_78 rfl ?_
            refine r_iadd dd_Mod_write_79 ⟨by omega, by omega⟩ ?_
            refine r_iald dd_Mod_write_80 (q := 12) (by decide) vk_220 (by omega) (by show _ < ((472 : Nat) : Int); omega) ?_
            try simp only [setO_at, setO_ss, upM_on, so_219, so_221, so_222, so_223, so_224, so_225, uo_219, uo_221, uo_222, uo_223, uo_224, uo_225, upM_eq, upM_uu, t221_219, t221_220, t221_222, t221_223, t221_224, t221_225, v221, t222_219, t222_220, t222_221, t222_223, t222_224, t222_225, v222, t223_219, t223_220, t223_221, t223_222, t223_224, t223_225, v223, w_220, w_221, w_222, w_223, w_224, w_225, x224_219, x225_219, kn_220, kn_221, kn_223, kn_224, kn_225]
            refine r_iconst dd_Mod_write_81 ⟨by decide, by decide⟩ ?_
            refine r_icmp_eq dd_Mod_write_82 (fun c_82 => ?_) (fun c_82 => ?_)
            · exfalso; omega
            · refine r_iload dd_Mod_write_85 rfl ?_
              refine r_iconst dd_Mod_write_87 ⟨by decide, by decide⟩ ?_
              refine r_bip dd_Mod_write_88 ⟨by decide, by decide⟩ ?_
              refine r_S3W dd_Mod_write_90 ml_Mod_35 ok_Mod_in st_Mod_in (clS rfl (Nat.le_refl _) (rmOK_self _ _)) rfl c_Mod_in ?_
              try simp only [setO_at, setO_ss, upM_on, so_219, so_221, so_222, so_223, so_224, so_225, uo_219, uo_221, uo_222, uo_223, uo_224, uo_225, upM_eq, upM_uu, t221_219, t221_220, t221_222, t221_223, t221_224, t221_225, v221, t222_219, t222_220, t222_221, t222_223, t222_224, t222_225, v222, t223_219, t223_220, t223_221, t223_222, t223_224, t223_225, v223, w_220, w_221, w_222, w_223, w_224, w_225, x224_219, x225_219, kn_220, kn_221, kn_223, kn_224, kn_225]
              refine r_if_ne_b dd_Mod_write_93 (fun c_93 => ?_) (fun c_93 => ?_)
              · refine r_aloadn dd_Mod_write_99 rfl ?_
                refine r_V0N dd_Mod_write_100 ml_Mod_90 ok_Mod_know vi_Mod_know vk_219 (by decide) (clS rfl (Nat.le_refl _) (rmOK_self _ _)) rfl (c_Mod_know hk) ?_
                try simp only [setO_at, setO_ss, upM_on, so_219, so_221, so_222, so_223, so_224, so_225, uo_219, uo_221, uo_222, uo_223, uo_224, uo_225, upM_eq, upM_uu, t221_219, t221_220, t221_222, t221_223, t221_224, t221_225, v221, t222_219, t222_220, t222_221, t222_223, t222_224, t222_225, v222, t223_219, t223_220, t223_221, t223_222, t223_224, t223_225, v223, w_220, w_221, w_222, w_223, w_224, w_225, x224_219, x225_219, kn_220, kn_221, kn_223, kn_224, kn_225]
                refine r_aloadn dd_Mod_write_103 rfl ?_
                refine r_iload dd_Mod_write_104 rfl ?_
                refine r_V1W dd_Mod_write_106 ml_Mod_46 ok_Mod_beginAt vi_Mod_beginAt vk_219 (by decide) (clS rfl (Nat.le_refl _) (rmOK_self _ _)) rfl (bgn_so (μ := knM μ m) hz (by omega) (by omega)) ?_
                try simp only [setO_at, setO_ss, upM_on, so_219, so_221, so_222, so_223, so_224, so_225, uo_219, uo_221, uo_222, uo_223, uo_224, uo_225, upM_eq, upM_uu, t221_219, t221_220, t221_222, t221_223, t221_224, t221_225, v221, t222_219, t222_220, t222_221, t222_223, t222_224, t222_225, v222, t223_219, t223_220, t223_221, t223_222, t223_224, t223_225, v223, w_220, w_221, w_222, w_223, w_224, w_225, x224_219, x225_219, kn_220, kn_221, kn_223, kn_224, kn_225]
                refine r_istore (L' := [_, _, _, _, _, _, _, _]) dd_Mod_write_109 rfl rfl ?_
                refine r_aloadn dd_Mod_write_111 rfl ?_
                refine r_getR dd_Mod_write_112 fl_Mod_7 (kI := 0) rfl fr_Mod_0 vk_219 R0_219_0 ?_
                refine r_sip dd_Mod_write_115 ⟨by decide, by decide⟩ ?_
                refine r_iload dd_Mod_write_118 rfl ?_
                refine r_iadd dd_Mod_write_120 ⟨by omega, by omega⟩ ?_
                refine r_aloadn dd_Mod_write_121 rfl ?_
                refine r_getR dd_Mod_write_122 fl_Mod_7 (kI := 0) rfl fr_Mod_0 vk_219 R0_219_0 ?_
                refine r_sip dd_Mod_write_125 ⟨by decide, by decide⟩ ?_
                refine r_iald dd_Mod_write_128 (q := 12) (by decide) vk_220 (by omega) (by show _ < ((472 : Nat) : Int); omega) ?_
                try simp only [setO_at, setO_ss, upM_on, so_219, so_221, so_222, so_223, so_224, so_225, uo_219, uo_221, uo_222, uo_223, uo_224, uo_225, upM_eq, upM_uu, t221_219, t221_220, t221_222, t221_223, t221_224, t221_225, v221, t222_219, t222_220, t222_221, t222_223, t222_224, t222_225, v222, t223_219, t223_220, t223_221, t223_222, t223_224, t223_225, v223, w_220, w_221, w_222, w_223, w_224, w_225, x224_219, x225_219, kn_220, kn_221, kn_223, kn_224, kn_225]
                refine r_iast dd_Mod_write_129 (q := 12) (by decide) vk_220 (by omega) (by show _ < ((472 : Nat) : Int); omega) ?_
                try simp only [setO_at, setO_ss, upM_on, so_219, so_221, so_222, so_223, so_224, so_225, uo_219, uo_221, uo_222, uo_223, uo_224, uo_225, upM_eq, upM_uu, t221_219, t221_220, t221_222, t221_223, t221_224, t221_225, v221, t222_219, t222_220, t222_221, t222_223, t222_224, t222_225, v222, t223_219, t223_220, t223_221, t223_222, t223_224, t223_225, v223, w_220, w_221, w_222, w_223, w_224, w_225, x224_219, x225_219, kn_220, kn_221, kn_223, kn_224, kn_225]
                rw [show up1 m (384 + begOf m b) (m 466) = wuM m (begOf m b) from rfl]
                refine r_aloadn dd_Mod_write_130 rfl ?_
                refine r_iload dd_Mod_write_131 rfl ?_
                refine r_V1W dd_Mod_write_133 ml_Mod_50 ok_Mod_isFree vi_Mod_isFree vk_219 (by decide) (clS rfl (Nat.le_refl _) (rmOK_self _ _)) rfl (fre_so (m := wuM m (begOf m b)) (by omega) (by omega)) ?_
                try simp only [setO_at, setO_ss, upM_on, so_219, so_221, so_222, so_223, so_224, so_225, uo_219, uo_221, uo_222, uo_223, uo_224, uo_225, upM_eq, upM_uu, t221_219, t221_220, t221_222, t221_223, t221_224, t221_225, v221, t222_219, t222_220, t222_221, t222_223, t222_224, t222_225, v222, t223_219, t223_220, t223_221, t223_222, t223_224, t223_225, v223, w_220, w_221, w_222, w_223, w_224, w_225, x224_219, x225_219, kn_220, kn_221, kn_223, kn_224, kn_225]
                refine r_if_eq_b dd_Mod_write_136 (fun c_136 => ?_) (fun c_136 => ?_)
                · refine r_aloadn dd_Mod_write_141 rfl ?_
                  refine r_getR dd_Mod_write_142 fl_Mod_7 (kI := 0) rfl fr_Mod_0 vk_219 R0_219_0 ?_
                  refine r_iconst dd_Mod_write_145 ⟨by decide, by decide⟩ ?_
                  refine r_iload dd_Mod_write_146 rfl ?_
                  refine r_iadd dd_Mod_write_148 ⟨by omega, by omega⟩ ?_
                  refine r_iload dd_Mod_write_149 rfl ?_
                  refine r_iast dd_Mod_write_151 (q := 12) (by decide) vk_220 (by omega) (by show _ < ((472 : Nat) : Int); omega) ?_
                  try simp only [setO_at, setO_ss, upM_on, so_219, so_221, so_222, so_223, so_224, so_225, uo_219, uo_221, uo_222, uo_223, uo_224, uo_225, upM_eq, upM_uu, t221_219, t221_220, t221_222, t221_223, t221_224, t221_225, v221, t222_219, t222_220, t222_221, t222_223, t222_224, t222_225, v222, t223_219, t223_220, t223_221, t223_222, t223_224, t223_225, v223, w_220, w_221, w_222, w_223, w_224, w_225, x224_219, x225_219, kn_220, kn_221, kn_223, kn_224, kn_225]
                  rw [show up1 (wuM m (begOf m b)) (0 + (begOf m b + 1 + i)) v = wvM m (begOf m b) (begOf m b + 1 + i) v from rfl]
                  refine r_aloadn dd_Mod_write_152 rfl ?_
                  refine r_iload dd_Mod_write_153 rfl ?_
                  refine r_V1W dd_Mod_write_155 ml_Mod_99 ok_Mod_isGuard vi_Mod_isGuard vk_219 (by decide) (clS rfl (Nat.le_refl _) (rmOK_self _ _)) rfl (grd_so (m := wvM m (begOf m b) (begOf m b + 1 + i) v) (MW_wv hW (by omega) (by omega) (by omega) (by omega)) (by omega) (by omega)) ?_
                  try simp only [setO_at, setO_ss, upM_on, so_219, so_221, so_222, so_223, so_224, so_225, uo_219, uo_221, uo_222, uo_223, uo_224, uo_225, upM_eq, upM_uu, t221_219, t221_220, t221_222, t221_223, t221_224, t221_225, v221, t222_219, t222_220, t222_221, t222_223, t222_224, t222_225, v222, t223_219, t223_220, t223_221, t223_222, t223_224, t223_225, v223, w_220, w_221, w_222, w_223, w_224, w_225, x224_219, x225_219, kn_220, kn_221, kn_223, kn_224, kn_225]
                  refine r_if_eq_b dd_Mod_write_158 (fun c_158 => ?_) (fun c_158 => ?_)
                  · exfalso; omega
                  · refine r_aloadn dd_Mod_write_161 rfl ?_
                    refine r_getR dd_Mod_write_162 fl_Mod_7 (kI := 0) rfl fr_Mod_0 vk_219 R0_219_0 ?_
                    refine r_sip dd_Mod_write_165 ⟨by decide, by decide⟩ ?_
                    refine r_iloadn dd_Mod_write_168 rfl ?_
                    refine r_iadd dd_Mod_write_169 ⟨by omega, by omega⟩ ?_
                    refine r_dup2 dd_Mod_write_170 ?_
                    refine r_iald dd_Mod_write_171 (q := 12) (by decide) vk_220 (by omega) (by show _ < ((472 : Nat) : Int); omega) ?_
                    try simp only [setO_at, setO_ss, upM_on, so_219, so_221, so_222, so_223, so_224, so_225, uo_219, uo_221, uo_222, uo_223, uo_224, uo_225, upM_eq, upM_uu, t221_219, t221_220, t221_222, t221_223, t221_224, t221_225, v221, t222_219, t222_220, t222_221, t222_223, t222_224, t222_225, v222, t223_219, t223_220, t223_221, t223_222, t223_224, t223_225, v223, w_220, w_221, w_222, w_223, w_224, w_225, x224_219, x225_219, kn_220, kn_221, kn_223, kn_224, kn_225]
                    refine r_aloadn dd_Mod_write_172 rfl ?_
                    refine r_getR dd_Mod_write_173 fl_Mod_7 (kI := 0) rfl fr_Mod_0 vk_219 R0_219_0 ?_
                    refine r_bip dd_Mod_write_176 ⟨by decide, by decide⟩ ?_
                    refine r_iload dd_Mod_write_178 rfl ?_
                    refine r_iadd dd_Mod_write_180 ⟨by omega, by omega⟩ ?_
                    refine r_iald dd_Mod_write_181 (q := 12) (by decide) vk_220 (by omega) (by show _ < ((472 : Nat) : Int); omega) ?_
                    try simp only [setO_at, setO_ss, upM_on, so_219, so_221, so_222, so_223, so_224, so_225, uo_219, uo_221, uo_222, uo_223, uo_224, uo_225, upM_eq, upM_uu, t221_219, t221_220, t221_222, t221_223, t221_224, t221_225, v221, t222_219, t222_220, t222_221, t222_223, t222_224, t222_225, v222, t223_219, t223_220, t223_221, t223_222, t223_224, t223_225, v223, w_220, w_221, w_222, w_223, w_224, w_225, x224_219, x225_219, kn_220, kn_221, kn_223, kn_224, kn_225]
                    refine r_iconst dd_Mod_write_182 ⟨by decide, by decide⟩ ?_
                    refine r_icmp_ne dd_Mod_write_183 (fun c_183 => ?_) (fun c_183 => ?_)
                    · refine r_iconst dd_Mod_write_190 ⟨by decide, by decide⟩ ?_
                      refine r_iadd dd_Mod_write_191 ⟨by omega, by omega⟩ ?_
                      refine r_iast dd_Mod_write_192 (q := 12) (by decide) vk_220 (by omega) (by show _ < ((472 : Nat) : Int); omega) ?_
                      try simp only [setO_at, setO_ss, upM_on, so_219, so_221, so_222, so_223, so_224, so_225, uo_219, uo_221, uo_222, uo_223, uo_224, uo_225, upM_eq, upM_uu, t221_219, t221_220, t221_222, t221_223, t221_224, t221_225, v221, t222_219, t222_220, t222_221, t222_223, t222_224, t222_225, v222, t223_219, t223_220, t223_221, t223_222, t223_224, t223_225, v223, w_220, w_221, w_222, w_223, w_224, w_225, x224_219, x225_219, kn_220, kn_221, kn_223, kn_224, kn_225]
                      refine r_aloadn dd_Mod_write_193 rfl ?_
                      refine r_getR dd_Mod_write_194 fl_Mod_7 (kI := 0) rfl fr_Mod_0 vk_219 R0_219_0 ?_
                      refine r_bip dd_Mod_write_197 ⟨by decide, by decide⟩ ?_
                      refine r_iload dd_Mod_write_199 rfl ?_
                      refine r_iadd dd_Mod_write_201 ⟨by omega, by omega⟩ ?_
                      refine r_iconst dd_Mod_write_202 ⟨by decide, by decide⟩ ?_
                      refine r_iast dd_Mod_write_203 (q := 12) (by decide) vk_220 (by omega) (by show _ < ((472 : Nat) : Int); omega) ?_
                      try simp only [setO_at, setO_ss, upM_on, so_219, so_221, so_222, so_223, so_224, so_225, uo_219, uo_221, uo_222, uo_223, uo_224, uo_225, upM_eq, upM_uu, t221_219, t221_220, t221_222, t221_223, t221_224, t221_225, v221, t222_219, t222_220, t222_221, t222_223, t222_224, t222_225, v222, t223_219, t223_220, t223_221, t223_222, t223_224, t223_225, v223, w_220, w_221, w_222, w_223, w_224, w_225, x224_219, x225_219, kn_220, kn_221, kn_223, kn_224, kn_225]
                      refine r_iconst dd_Mod_write_204 ⟨by decide, by decide⟩ ?_
                      exact r_retI dd_Mod_write_205 (by first | rfl | omega | exact (b2_t (by first | assumption | omega)).symm | exact (b2_f (by first | assumption | omega)).symm) (by unfold wbM; first | rw [if_pos (by omega)] | rw [if_neg (by omega)])
                    · refine r_iconst dd_Mod_write_186 ⟨by decide, by decide⟩ ?_
                      refine r_goto dd_Mod_write_187 ?_
                      refine r_iadd dd_Mod_write_191 ⟨by omega, by omega⟩ ?_
                      refine r_iast dd_Mod_write_192 (q := 12) (by decide) vk_220 (by omega) (by show _ < ((472 : Nat) : Int); omega) ?_
                      try simp only [setO_at, setO_ss, upM_on, so_219, so_221, so_222, so_223, so_224, so_225, uo_219, uo_221, uo_222, uo_223, uo_224, uo_225, upM_eq, upM_uu, t221_219, t221_220, t221_222, t221_223, t221_224, t221_225, v221, t222_219, t222_220, t222_221, t222_223, t222_224, t222_225, v222, t223_219, t223_220, t223_221, t223_222, t223_224, t223_225, v223, w_220, w_221, w_222, w_223, w_224, w_225, x224_219, x225_219, kn_220, kn_221, kn_223, kn_224, kn_225]
                      refine r_aloadn dd_Mod_write_193 rfl ?_
                      refine r_getR dd_Mod_write_194 fl_Mod_7 (kI := 0) rfl fr_Mod_0 vk_219 R0_219_0 ?_
                      refine r_bip dd_Mod_write_197 ⟨by decide, by decide⟩ ?_
                      refine r_iload dd_Mod_write_199 rfl ?_
                      refine r_iadd dd_Mod_write_201 ⟨by omega, by omega⟩ ?_
                      refine r_iconst dd_Mod_write_202 ⟨by decide, by decide⟩ ?_
                      refine r_iast dd_Mod_write_203 (q := 12) (by decide) vk_220 (by omega) (by show _ < ((472 : Nat) : Int); omega) ?_
                      try simp only [setO_at, setO_ss, upM_on, so_219, so_221, so_222, so_223, so_224, so_225, uo_219, uo_221, uo_222, uo_223, uo_224, uo_225, upM_eq, upM_uu, t221_219, t221_220, t221_222, t221_223, t221_224, t221_225, v221, t222_219, t222_220, t222_221, t222_223, t222_224, t222_225, v222, t223_219, t223_220, t223_221, t223_222, t223_224, t223_225, v223, w_220, w_221, w_222, w_223, w_224, w_225, x224_219, x225_219, kn_220, kn_221, kn_223, kn_224, kn_225]
                      refine r_iconst dd_Mod_write_204 ⟨by decide, by decide⟩ ?_
                      exact r_retI dd_Mod_write_205 (by first | rfl | omega | exact (b2_t (by first | assumption | omega)).symm | exact (b2_f (by first | assumption | omega)).symm) (by unfold wbM; first | rw [if_pos (by omega)] | rw [if_neg (by omega)])
                · exfalso; omega
              · exfalso; omega
        · exfalso; omega
    · exfalso; omega
theorem c_Mod_write_1 {μ : Int → Int → Int} {m : Int → Int} {K t b i v : Int} (hW : MW K m) (h : wrFM m t b i v = 0) (hk : 0 ≤ μ 219 3 ∧ μ 219 3 ≤ 4) (hf : ¬ fre (wuM m (begOf m b)) (bgn m (begOf m b + 1 + i))) (hgd : ¬ grdM (wvM m (begOf m b) (begOf m b + 1 + i) v) (begOf m b + 1 + i)) : MetC mi_Mod_write [vR 219, vI t, vI b, vI i, vI v] (st (setO μ 220 m)) (some (vI (if bgn m (begOf m b + 1 + i) ≠ begOf m b then 1 else if 0 ≤ i ∧ i ≤ m (320 + begOf m b) - 1 then 0 else 4))) (st (setO (knM μ m) 220 (wvM m (begOf m b) (begOf m b + 1 + i) v))) := by
  refine met_of ?_ (Nat.le_of_ble_eq_true rfl) (by decide) trivial (by decide) (Nat.le_of_ble_eq_true rfl)
  show SPW mi_Mod_write 226 0 [some (vR 219), some (vI t), some (vI b), some (vI i), some (vI v), none, none, none] [] (st (setO μ 220 m)) (some (vI (if bgn m (begOf m b + 1 + i) ≠ begOf m b then 1 else if 0 ≤ i ∧ i ≤ m (320 + begOf m b) - 1 then 0 else 4))) (st (setO (knM μ m) 220 (wvM m (begOf m b) (begOf m b + 1 + i) v)))
  have hr := begOf_rg m b
  have hc := wrFM_c m t b i v
  have hz := hW.2.2.2.2.2.2.2.2.2
  have hcl := hW.2.2.1
  have hg := bgn_rg hz (w := begOf m b + 1 + i) (by omega) (by omega)
  have hlm := hW.2.1 t (by omega) (by omega)
  have hK := hW.2.2.2.2.2.2.2.2.1
  have ha := hW.1 (begOf m b) (by omega) (by omega)
  have he : wvM m (begOf m b) (begOf m b + 1 + i) v (320 + begOf m b) = m (320 + begOf m b) := by unfold wvM wuM; rw [up1_ne (by omega), up1_ne (by omega)]
  refine r_aloadn dd_Mod_write_0 rfl ?_
  refine r_iloadn dd_Mod_write_1 rfl ?_
  refine r_V1W dd_Mod_write_2 ml_Mod_78 ok_Mod_beginOf vi_Mod_beginOf vk_219 (by decide) (clS rfl (Nat.le_refl _) (rmOK_self _ _)) rfl begOf_so ?_
  try simp only [setO_at, setO_ss, upM_on, so_219, so_221, so_222, so_223, so_224, so_225, uo_219, uo_221, uo_222, uo_223, uo_224, uo_225, upM_eq, upM_uu, t221_219, t221_220, t221_222, t221_223, t221_224, t221_225, v221, t222_219, t222_220, t222_221, t222_223, t222_224, t222_225, v222, t223_219, t223_220, t223_221, t223_222, t223_224, t223_225, v223, w_220, w_221, w_222, w_223, w_224, w_225, x224_219, x225_219, kn_220, kn_221, kn_223, kn_224, kn_225]
  refine r_istore (L' := [_, _, _, _, _, _, _, _]) dd_Mod_write_5 rfl rfl ?_
  refine r_iloadn dd_Mod_write_7 rfl ?_
  refine r_S1W dd_Mod_write_8 ml_Mod_71 ok_Mod_isTask st_Mod_isTask (clS rfl (Nat.le_refl _) (rmOK_self _ _)) rfl c_Mod_isTask ?_
  try simp only [setO_at, setO_ss, upM_on, so_219, so_221, so_222, so_223, so_224, so_225, uo_219, uo_221, uo_222, uo_223, uo_224, uo_225, upM_eq, upM_uu, t221_219, t221_220, t221_222, t221_223, t221_224, t221_225, v221, t222_219, t222_220, t222_221, t222_223, t222_224, t222_225, v222, t223_219, t223_220, t223_221, t223_222, t223_224, t223_225, v223, w_220, w_221, w_222, w_223, w_224, w_225, x224_219, x225_219, kn_220, kn_221, kn_223, kn_224, kn_225]
  refine r_if_eq_b dd_Mod_write_11 (fun c_11 => ?_) (fun c_11 => ?_)
  · exfalso; omega
  · refine r_iload dd_Mod_write_14 rfl ?_
    refine r_bip dd_Mod_write_16 ⟨by decide, by decide⟩ ?_
    refine r_icmp_ne dd_Mod_write_18 (fun c_18 => ?_) (fun c_18 => ?_)
    · refine r_iloadn dd_Mod_write_23 rfl ?_
      refine r_bip dd_Mod_write_24 ⟨by decide, by decide⟩ ?_
      refine r_bip dd_Mod_write_26 ⟨by decide, by decide⟩ ?_
      refine r_S3W dd_Mod_write_28 ml_Mod_35 ok_Mod_in st_Mod_in (clS rfl (Nat.le_refl _) (rmOK_self _ _)) rfl c_Mod_in ?_
      try simp only [setO_at, setO_ss, upM_on, so_219, so_221, so_222, so_223, so_224, so_225, uo_219, uo_221, uo_222, uo_223, uo_224, uo_225, upM_eq, upM_uu, t221_219, t221_220, t221_222, t221_223, t221_224, t221_225, v221, t222_219, t222_220, t222_221, t222_223, t222_224, t222_225, v222, t223_219, t223_220, t223_221, t223_222, t223_224, t223_225, v223, w_220, w_221, w_222, w_223, w_224, w_225, x224_219, x225_219, kn_220, kn_221, kn_223, kn_224, kn_225]
      refine r_if_eq_b dd_Mod_write_31 (fun c_31 => ?_) (fun c_31 => ?_)
      · exfalso; omega
      · refine r_iload dd_Mod_write_34 rfl ?_
        refine r_iconst dd_Mod_write_36 ⟨by decide, by decide⟩ ?_
        refine r_bip dd_Mod_write_37 ⟨by decide, by decide⟩ ?_
        refine r_S3W dd_Mod_write_39 ml_Mod_35 ok_Mod_in st_Mod_in (clS rfl (Nat.le_refl _) (rmOK_self _ _)) rfl c_Mod_in ?_
        try simp only [setO_at, setO_ss, upM_on, so_219, so_221, so_222, so_223, so_224, so_225, uo_219, uo_221, uo_222, uo_223, uo_224, uo_225, upM_eq, upM_uu, t221_219, t221_220, t221_222, t221_223, t221_224, t221_225, v221, t222_219, t222_220, t222_221, t222_223, t222_224, t222_225, v222, t223_219, t223_220, t223_221, t223_222, t223_224, t223_225, v223, w_220, w_221, w_222, w_223, w_224, w_225, x224_219, x225_219, kn_220, kn_221, kn_223, kn_224, kn_225]
        refine r_if_ne_b dd_Mod_write_42 (fun c_42 => ?_) (fun c_42 => ?_)
        · refine r_iload dd_Mod_write_48 rfl ?_
          refine r_iconst dd_Mod_write_50 ⟨by decide, by decide⟩ ?_
          refine r_iadd dd_Mod_write_51 ⟨by omega, by omega⟩ ?_
          refine r_iloadn dd_Mod_write_52 rfl ?_
          refine r_iadd dd_Mod_write_53 ⟨by omega, by omega⟩ ?_
          refine r_istore (L' := [_, _, _, _, _, _, _, _]) dd_Mod_write_54 rfl rfl ?_
          refine r_aloadn dd_Mod_write_56 rfl ?_
          refine r_getR dd_Mod_write_57 fl_Mod_7 (kI := 0) rfl fr_Mod_0 vk_219 R0_219_0 ?_
          refine r_sip dd_Mod_write_60 ⟨by decide, by decide⟩ ?_
          refine r_iload dd_Mod_write_63 rfl ?_
          refine r_iadd dd_Mod_write_65 ⟨by omega, by omega⟩ ?_
          refine r_iald dd_Mod_write_66 (q := 12) (by decide) vk_220 (by omega) (by show _ < ((472 : Nat) : Int); omega) ?_
          try simp only [setO_at, setO_ss, upM_on, so_219, so_221, so_222, so_223, so_224, so_225, uo_219, uo_221, uo_222, uo_223, uo_224, uo_225, upM_eq, upM_uu, t221_219, t221_220, t221_222, t221_223, t221_224, t221_225, v221, t222_219, t222_220, t222_221, t222_223, t222_224, t222_225, v222, t223_219, t223_220, t223_221, t223_222, t223_224, t223_225, v223, w_220, w_221, w_222, w_223, w_224, w_225, x224_219, x225_219, kn_220, kn_221, kn_223, kn_224, kn_225]
          refine r_iloadn dd_Mod_write_67 rfl ?_
          refine r_icmp_ne dd_Mod_write_68 (fun c_68 => ?_) (fun c_68 => ?_)
          · exfalso; omega
          · refine r_aloadn dd_Mod_write_71 rfl ?_
            refine r_getR dd_Mod_write_72 fl_Mod_7 (kI := 0) rfl fr_Mod_0 vk_219 R0_219_0 ?_
            refine r_sip dd_Mod_write_75 ⟨by decide, by decide⟩ ?_
            refine r_iloadn dd_Mod_write_78 rfl ?_
            refine r_iadd dd_Mod_write_79 ⟨by omega, by omega⟩ ?_
            refine r_iald dd_Mod_write_80 (q := 12) (by decide) vk_220 (by omega) (by show _ < ((472 : Nat) : Int); omega) ?_
            try simp only [setO_at, setO_ss, upM_on, so_219, so_221, so_222, so_223, so_224, so_225, uo_219, uo_221, uo_222, uo_223, uo_224, uo_225, upM_eq, upM_uu, t221_219, t221_220, t221_222, t221_223, t221_224, t221_225, v221, t222_219, t222_220, t222_221, t222_223, t222_224, t222_225, v222, t223_219, t223_220, t223_221, t223_222, t223_224, t223_225, v223, w_220, w_221, w_222, w_223, w_224, w_225, x224_219, x225_219, kn_220, kn_221, kn_223, kn_224, kn_225]
            refine r_iconst dd_Mod_write_81 ⟨by decide, by decide⟩ ?_
            refine r_icmp_eq dd_Mod_write_82 (fun c_82 => ?_) (fun c_82 => ?_)
            · exfalso; omega
            · refine r_iload dd_Mod_write_85 rfl ?_
              refine r_iconst dd_Mod_write_87 ⟨by decide, by decide⟩ ?_
              refine r_bip dd_Mod_write_88 ⟨by decide, by decide⟩ ?_
              refine r_S3W dd_Mod_write_90 ml_Mod_35 ok_Mod_in st_Mod_in (clS rfl (Nat.le_refl _) (rmOK_self _ _)) rfl c_Mod_in ?_
              try simp only [setO_at, setO_ss, upM_on, so_219, so_221, so_222, so_223, so_224, so_225, uo_219, uo_221, uo_222, uo_223, uo_224, uo_225, upM_eq, upM_uu, t221_219, t221_220, t221_222, t221_223, t221_224, t221_225, v221, t222_219, t222_220, t222_221, t222_223, t222_224, t222_225, v222, t223_219, t223_220, t223_221, t223_222, t223_224, t223_225, v223, w_220, w_221, w_222, w_223, w_224, w_225, x224_219, x225_219, kn_220, kn_221, kn_223, kn_224, kn_225]
              refine r_if_ne_b dd_Mod_write_93 (fun c_93 => ?_) (fun c_93 => ?_)
              · refine r_aloadn dd_Mod_write_99 rfl ?_
                refine r_V0N dd_Mod_write_100 ml_Mod_90 ok_Mod_know vi_Mod_know vk_219 (by decide) (clS rfl (Nat.le_refl _) (rmOK_self _ _)) rfl (c_Mod_know hk) ?_
                try simp only [setO_at, setO_ss, upM_on, so_219, so_221, so_222, so_223, so_224, so_225, uo_219, uo_221, uo_222, uo_223, uo_224, uo_225, upM_eq, upM_uu, t221_219, t221_220, t221_222, t221_223, t221_224, t221_225, v221, t222_219, t222_220, t222_221, t222_223, t222_224, t222_225, v222, t223_219, t223_220, t223_221, t223_222, t223_224, t223_225, v223, w_220, w_221, w_222, w_223, w_224, w_225, x224_219, x225_219, kn_220, kn_221, kn_223, kn_224, kn_225]
                refine r_aloadn dd_Mod_write_103 rfl ?_
                refine r_iload dd_Mod_write_104 rfl ?_
                refine r_V1W dd_Mod_write_106 ml_Mod_46 ok_Mod_beginAt vi_Mod_beginAt vk_219 (by decide) (clS rfl (Nat.le_refl _) (rmOK_self _ _)) rfl (bgn_so (μ := knM μ m) hz (by omega) (by omega)) ?_
                try simp only [setO_at, setO_ss, upM_on, so_219, so_221, so_222, so_223, so_224, so_225, uo_219, uo_221, uo_222, uo_223, uo_224, uo_225, upM_eq, upM_uu, t221_219, t221_220, t221_222, t221_223, t221_224, t221_225, v221, t222_219, t222_220, t222_221, t222_223, t222_224, t222_225, v222, t223_219, t223_220, t223_221, t223_222, t223_224, t223_225, v223, w_220, w_221, w_222, w_223, w_224, w_225, x224_219, x225_219, kn_220, kn_221, kn_223, kn_224, kn_225]
                refine r_istore (L' := [_, _, _, _, _, _, _, _]) dd_Mod_write_109 rfl rfl ?_
                refine r_aloadn dd_Mod_write_111 rfl ?_
                refine r_getR dd_Mod_write_112 fl_Mod_7 (kI := 0) rfl fr_Mod_0 vk_219 R0_219_0 ?_
                refine r_sip dd_Mod_write_115 ⟨by decide, by decide⟩ ?_
                refine r_iload dd_Mod_write_118 rfl ?_
                refine r_iadd dd_Mod_write_120 ⟨by omega, by omega⟩ ?_
                refine r_aloadn dd_Mod_write_121 rfl ?_
                refine r_getR dd_Mod_write_122 fl_Mod_7 (kI := 0) rfl fr_Mod_0 vk_219 R0_219_0 ?_
                refine r_sip dd_Mod_write_125 ⟨by decide, by decide⟩ ?_
                refine r_iald dd_Mod_write_128 (q := 12) (by decide) vk_220 (by omega) (by show _ < ((472 : Nat) : Int); omega) ?_
                try simp only [setO_at, setO_ss, upM_on, so_219, so_221, so_222, so_223, so_224, so_225, uo_219, uo_221, uo_222, uo_223, uo_224, uo_225, upM_eq, upM_uu, t221_219, t221_220, t221_222, t221_223, t221_224, t221_225, v221, t222_219, t222_220, t222_221, t222_223, t222_224, t222_225, v222, t223_219, t223_220, t223_221, t223_222, t223_224, t223_225, v223, w_220, w_221, w_222, w_223, w_224, w_225, x224_219, x225_219, kn_220, kn_221, kn_223, kn_224, kn_225]
                refine r_iast dd_Mod_write_129 (q := 12) (by decide) vk_220 (by omega) (by show _ < ((472 : Nat) : Int); omega) ?_
                try simp only [setO_at, setO_ss, upM_on, so_219, so_221, so_222, so_223, so_224, so_225, uo_219, uo_221, uo_222, uo_223, uo_224, uo_225, upM_eq, upM_uu, t221_219, t221_220, t221_222, t221_223, t221_224, t221_225, v221, t222_219, t222_220, t222_221, t222_223, t222_224, t222_225, v222, t223_219, t223_220, t223_221, t223_222, t223_224, t223_225, v223, w_220, w_221, w_222, w_223, w_224, w_225, x224_219, x225_219, kn_220, kn_221, kn_223, kn_224, kn_225]
                rw [show up1 m (384 + begOf m b) (m 466) = wuM m (begOf m b) from rfl]
                refine r_aloadn dd_Mod_write_130 rfl ?_
                refine r_iload dd_Mod_write_131 rfl ?_
                refine r_V1W dd_Mod_write_133 ml_Mod_50 ok_Mod_isFree vi_Mod_isFree vk_219 (by decide) (clS rfl (Nat.le_refl _) (rmOK_self _ _)) rfl (fre_so (m := wuM m (begOf m b)) (by omega) (by omega)) ?_
                try simp only [setO_at, setO_ss, upM_on, so_219, so_221, so_222, so_223, so_224, so_225, uo_219, uo_221, uo_222, uo_223, uo_224, uo_225, upM_eq, upM_uu, t221_219, t221_220, t221_222, t221_223, t221_224, t221_225, v221, t222_219, t222_220, t222_221, t222_223, t222_224, t222_225, v222, t223_219, t223_220, t223_221, t223_222, t223_224, t223_225, v223, w_220, w_221, w_222, w_223, w_224, w_225, x224_219, x225_219, kn_220, kn_221, kn_223, kn_224, kn_225]
                refine r_if_eq_b dd_Mod_write_136 (fun c_136 => ?_) (fun c_136 => ?_)
                · refine r_aloadn dd_Mod_write_141 rfl ?_
                  refine r_getR dd_Mod_write_142 fl_Mod_7 (kI := 0) rfl fr_Mod_0 vk_219 R0_219_0 ?_
                  refine r_iconst dd_Mod_write_145 ⟨by decide, by decide⟩ ?_
                  refine r_iload dd_Mod_write_146 rfl ?_
                  refine r_iadd dd_Mod_write_148 ⟨by omega, by omega⟩ ?_
                  refine r_iload dd_Mod_write_149 rfl ?_
                  refine r_iast dd_Mod_write_151 (q := 12) (by decide) vk_220 (by omega) (by show _ < ((472 : Nat) : Int); omega) ?_
                  try simp only [setO_at, setO_ss, upM_on, so_219, so_221, so_222, so_223, so_224, so_225, uo_219, uo_221, uo_222, uo_223, uo_224, uo_225, upM_eq, upM_uu, t221_219, t221_220, t221_222, t221_223, t221_224, t221_225, v221, t222_219, t222_220, t222_221, t222_223, t222_224, t222_225, v222, t223_219, t223_220, t223_221, t223_222, t223_224, t223_225, v223, w_220, w_221, w_222, w_223, w_224, w_225, x224_219, x225_219, kn_220, kn_221, kn_223, kn_224, kn_225]
                  rw [show up1 (wuM m (begOf m b)) (0 + (begOf m b + 1 + i)) v = wvM m (begOf m b) (begOf m b + 1 + i) v from rfl]
                  refine r_aloadn dd_Mod_write_152 rfl ?_
                  refine r_iload dd_Mod_write_153 rfl ?_
                  refine r_V1W dd_Mod_write_155 ml_Mod_99 ok_Mod_isGuard vi_Mod_isGuard vk_219 (by decide) (clS rfl (Nat.le_refl _) (rmOK_self _ _)) rfl (grd_so (m := wvM m (begOf m b) (begOf m b + 1 + i) v) (MW_wv hW (by omega) (by omega) (by omega) (by omega)) (by omega) (by omega)) ?_
                  try simp only [setO_at, setO_ss, upM_on, so_219, so_221, so_222, so_223, so_224, so_225, uo_219, uo_221, uo_222, uo_223, uo_224, uo_225, upM_eq, upM_uu, t221_219, t221_220, t221_222, t221_223, t221_224, t221_225, v221, t222_219, t222_220, t222_221, t222_223, t222_224, t222_225, v222, t223_219, t223_220, t223_221, t223_222, t223_224, t223_225, v223, w_220, w_221, w_222, w_223, w_224, w_225, x224_219, x225_219, kn_220, kn_221, kn_223, kn_224, kn_225]
                  refine r_if_eq_b dd_Mod_write_158 (fun c_158 => ?_) (fun c_158 => ?_)
                  · refine r_iload dd_Mod_write_206 rfl ?_
                    refine r_iload dd_Mod_write_208 rfl ?_
                    refine r_icmp_eq dd_Mod_write_210 (fun c_210 => ?_) (fun c_210 => ?_)
                    · refine r_iloadn dd_Mod_write_217 rfl ?_
                      refine r_iconst dd_Mod_write_218 ⟨by decide, by decide⟩ ?_
                      refine r_aloadn dd_Mod_write_219 rfl ?_
                      refine r_getR dd_Mod_write_220 fl_Mod_7 (kI := 0) rfl fr_Mod_0 vk_219 R0_219_0 ?_
                      refine r_sip dd_Mod_write_223 ⟨by decide, by decide⟩ ?_
                      refine r_iload dd_Mod_write_226 rfl ?_
                      refine r_iadd dd_Mod_write_228 ⟨by omega, by omega⟩ ?_
                      refine r_iald dd_Mod_write_229 (q := 12) (by decide) vk_220 (by omega) (by show _ < ((472 : Nat) : Int); omega) ?_
                      try simp only [setO_at, setO_ss, upM_on, so_219, so_221, so_222, so_223, so_224, so_225, uo_219, uo_221, uo_222, uo_223, uo_224, uo_225, upM_eq, upM_uu, t221_219, t221_220, t221_222, t221_223, t221_224, t221_225, v221, t222_219, t222_220, t222_221, t222_223, t222_224, t222_225, v222, t223_219, t223_220, t223_221, t223_222, t223_224, t223_225, v223, w_220, w_221, w_222, w_223, w_224, w_225, x224_219, x225_219, kn_220, kn_221, kn_223, kn_224, kn_225]
                      rw [he]
                      refine r_iconst dd_Mod_write_230 ⟨by decide, by decide⟩ ?_
                      refine r_isub dd_Mod_write_231 ⟨by omega, by omega⟩ ?_
                      refine r_S3W dd_Mod_write_232 ml_Mod_35 ok_Mod_in st_Mod_in (clS rfl (Nat.le_refl _) (rmOK_self _ _)) rfl c_Mod_in ?_
                      try simp only [setO_at, setO_ss, upM_on, so_219, so_221, so_222, so_223, so_224, so_225, uo_219, uo_221, uo_222, uo_223, uo_224, uo_225, upM_eq, upM_uu, t221_219, t221_220, t221_222, t221_223, t221_224, t221_225, v221, t222_219, t222_220, t222_221, t222_223, t222_224, t222_225, v222, t223_219, t223_220, t223_221, t223_222, t223_224, t223_225, v223, w_220, w_221, w_222, w_223, w_224, w_225, x224_219, x225_219, kn_220, kn_221, kn_223, kn_224, kn_225]
                      refine r_if_eq_b dd_Mod_write_235 (fun c_235 => ?_) (fun c_235 => ?_)
                      · refine r_iconst dd_Mod_write_242 ⟨by decide, by decide⟩ ?_
                        exact r_retI dd_Mod_write_243 (by (repeat (first | rw [if_pos (by omega)] | rw [if_neg (by omega)])); first | done | omega | (congr 1; omega) | exact (b2_t (by first | assumption | omega)).symm | exact (b2_f (by first | assumption | omega)).symm) rfl
                      · refine r_iconst dd_Mod_write_238 ⟨by decide, by decide⟩ ?_
                        refine r_goto dd_Mod_write_239 ?_
                        exact r_retI dd_Mod_write_243 (by (repeat (first | rw [if_pos (by omega)] | rw [if_neg (by omega)])); first | done | omega | (congr 1; omega) | exact (b2_t (by first | assumption | omega)).symm | exact (b2_f (by first | assumption | omega)).symm) rfl
                    · refine r_iconst dd_Mod_write_213 ⟨by decide, by decide⟩ ?_
                      refine r_goto dd_Mod_write_214 ?_
                      exact r_retI dd_Mod_write_243 (by (repeat (first | rw [if_pos (by omega)] | rw [if_neg (by omega)])); first | done | omega | (congr 1; omega) | exact (b2_t (by first | assumption | omega)).symm | exact (b2_f (by first | assumption | omega)).symm) rfl
                  · exfalso; omega
                · exfalso; omega
              · exfalso; omega
        · exfalso; omega
    · exfalso; omega
theorem c_Mod_type_e {μ : Int → Int → Int} {m : Int → Int} {c : Int} (h : μ 219 8 = 60) : MetC mi_Mod_type [vR 219, vI c] (st (setO μ 220 m)) (some (vI (-3))) (st (setO μ 220 m)) := by
  refine met_of ?_ (Nat.le_of_ble_eq_true rfl) (by decide) trivial (by decide) (Nat.le_of_ble_eq_true rfl)
  show SPW mi_Mod_type 226 0 [some (vR 219), some (vI c)] [] (st (setO μ 220 m)) (some (vI (-3))) (st (setO μ 220 m))
  refine r_aloadn dd_Mod_type_0 rfl ?_
  refine r_getI dd_Mod_type_1 fl_Mod_118 (kI := 8) rfl fi_Mod_8 vk_219 ?_
  try simp only [setO_at, setO_ss, upM_on, so_219, so_221, so_222, so_223, so_224, so_225, uo_219, uo_221, uo_222, uo_223, uo_224, uo_225, upM_eq, upM_uu, t221_219, t221_220, t221_222, t221_223, t221_224, t221_225, v221, t222_219, t222_220, t222_221, t222_223, t222_224, t222_225, v222, t223_219, t223_220, t223_221, t223_222, t223_224, t223_225, v223, w_220, w_221, w_222, w_223, w_224, w_225, x224_219, x225_219, kn_220, kn_221, kn_223, kn_224, kn_225]
  refine r_bip dd_Mod_type_4 ⟨by decide, by decide⟩ ?_
  refine r_icmp_ne dd_Mod_type_6 (fun c_6 => ?_) (fun c_6 => ?_)
  · exfalso; omega
  · refine r_bip dd_Mod_type_9 ⟨by decide, by decide⟩ ?_
    exact r_retI dd_Mod_type_11 (by first | rfl | omega | exact (b2_t (by first | assumption | omega)).symm | exact (b2_f (by first | assumption | omega)).symm) rfl
theorem c_Mod_type_o {μ : Int → Int → Int} {m : Int → Int} {c : Int} (h : 0 ≤ μ 219 8 ∧ μ 219 8 < 60) : MetC mi_Mod_type [vR 219, vI c] (st (setO μ 220 m)) (some (vI (μ 219 8 + 1))) (st (setO (upM (upM μ 225 (μ 219 8) c) 219 8 (μ 219 8 + 1)) 220 m)) := by
  refine met_of ?_ (Nat.le_of_ble_eq_true rfl) (by decide) trivial (by decide) (Nat.le_of_ble_eq_true rfl)
  show SPW mi_Mod_type 226 0 [some (vR 219), some (vI c)] [] (st (setO μ 220 m)) (some (vI (μ 219 8 + 1))) (st (setO (upM (upM μ 225 (μ 219 8) c) 219 8 (μ 219 8 + 1)) 220 m))
  refine r_aloadn dd_Mod_type_0 rfl ?_
  refine r_getI dd_Mod_type_1 fl_Mod_118 (kI := 8) rfl fi_Mod_8 vk_219 ?_
  try simp only [setO_at, setO_ss, upM_on, so_219, so_221, so_222, so_223, so_224, so_225, uo_219, uo_221, uo_222, uo_223, uo_224, uo_225, upM_eq, upM_uu, t221_219, t221_220, t221_222, t221_223, t221_224, t221_225, v221, t222_219, t222_220, t222_221, t222_223, t222_224, t222_225, v222, t223_219, t223_220, t223_221, t223_222, t223_224, t223_225, v223, w_220, w_221, w_222, w_223, w_224, w_225, x224_219, x225_219, kn_220, kn_221, kn_223, kn_224, kn_225]
  refine r_bip dd_Mod_type_4 ⟨by decide, by decide⟩ ?_
  refine r_icmp_ne dd_Mod_type_6 (fun c_6 => ?_) (fun c_6 => ?_)
  · refine r_aloadn dd_Mod_type_12 rfl ?_
    refine r_getR dd_Mod_type_13 fl_Mod_25 (kI := 7) rfl fr_Mod_7 vk_219 R0_219_7 ?_
    refine r_aloadn dd_Mod_type_16 rfl ?_
    refine r_getI dd_Mod_type_17 fl_Mod_118 (kI := 8) rfl fi_Mod_8 vk_219 ?_
    try simp only [setO_at, setO_ss, upM_on, so_219, so_221, so_222, so_223, so_224, so_225, uo_219, uo_221, uo_222, uo_223, uo_224, uo_225, upM_eq, upM_uu, t221_219, t221_220, t221_222, t221_223, t221_224, t221_225, v221, t222_219, t222_220, t222_221, t222_223, t222_224, t222_225, v222, t223_219, t223_220, t223_221, t223_222, t223_224, t223_225, v223, w_220, w_221, w_222, w_223, w_224, w_225, x224_219, x225_219, kn_220, kn_221, kn_223, kn_224, kn_225]
    refine r_iloadn dd_Mod_type_20 rfl ?_
    refine r_iast dd_Mod_type_21 (q := 15) (by decide) vk_225 (by omega) (by show _ < ((60 : Nat) : Int); omega) ?_
    try simp only [setO_at, setO_ss, upM_on, so_219, so_221, so_222, so_223, so_224, so_225, uo_219, uo_221, uo_222, uo_223, uo_224, uo_225, upM_eq, upM_uu, t221_219, t221_220, t221_222, t221_223, t221_224, t221_225, v221, t222_219, t222_220, t222_221, t222_223, t222_224, t222_225, v222, t223_219, t223_220, t223_221, t223_222, t223_224, t223_225, v223, w_220, w_221, w_222, w_223, w_224, w_225, x224_219, x225_219, kn_220, kn_221, kn_223, kn_224, kn_225]
    refine r_aloadn dd_Mod_type_22 rfl ?_
    refine r_dup dd_Mod_type_23 ?_
    refine r_getI dd_Mod_type_24 fl_Mod_118 (kI := 8) rfl fi_Mod_8 vk_219 ?_
    try simp only [setO_at, setO_ss, upM_on, so_219, so_221, so_222, so_223, so_224, so_225, uo_219, uo_221, uo_222, uo_223, uo_224, uo_225, upM_eq, upM_uu, t221_219, t221_220, t221_222, t221_223, t221_224, t221_225, v221, t222_219, t222_220, t222_221, t222_223, t222_224, t222_225, v222, t223_219, t223_220, t223_221, t223_222, t223_224, t223_225, v223, w_220, w_221, w_222, w_223, w_224, w_225, x224_219, x225_219, kn_220, kn_221, kn_223, kn_224, kn_225]
    refine r_iconst dd_Mod_type_27 ⟨by decide, by decide⟩ ?_
    refine r_iadd dd_Mod_type_28 ⟨by omega, by omega⟩ ?_
    refine r_putI dd_Mod_type_29 fl_Mod_118 (kI := 8) rfl fc_Mod_8 ff_Mod_8 (pi_Mod_8 _) vk_219 ?_
    try simp only [setO_at, setO_ss, upM_on, so_219, so_221, so_222, so_223, so_224, so_225, uo_219, uo_221, uo_222, uo_223, uo_224, uo_225, upM_eq, upM_uu, t221_219, t221_220, t221_222, t221_223, t221_224, t221_225, v221, t222_219, t222_220, t222_221, t222_223, t222_224, t222_225, v222, t223_219, t223_220, t223_221, t223_222, t223_224, t223_225, v223, w_220, w_221, w_222, w_223, w_224, w_225, x224_219, x225_219, kn_220, kn_221, kn_223, kn_224, kn_225]
    refine r_aloadn dd_Mod_type_32 rfl ?_
    refine r_getI dd_Mod_type_33 fl_Mod_118 (kI := 8) rfl fi_Mod_8 vk_219 ?_
    try simp only [setO_at, setO_ss, upM_on, so_219, so_221, so_222, so_223, so_224, so_225, uo_219, uo_221, uo_222, uo_223, uo_224, uo_225, upM_eq, upM_uu, t221_219, t221_220, t221_222, t221_223, t221_224, t221_225, v221, t222_219, t222_220, t222_221, t222_223, t222_224, t222_225, v222, t223_219, t223_220, t223_221, t223_222, t223_224, t223_225, v223, w_220, w_221, w_222, w_223, w_224, w_225, x224_219, x225_219, kn_220, kn_221, kn_223, kn_224, kn_225]
    exact r_retI dd_Mod_type_36 (by first | rfl | omega | exact (b2_t (by first | assumption | omega)).symm | exact (b2_f (by first | assumption | omega)).symm) rfl
  · exfalso; omega
theorem c_Mod_clearText {μ : Int → Int → Int} {m : Int → Int} : MetC mi_Mod_clearText [vR 219] (st (setO μ 220 m)) (some (vI (μ 219 8))) (st (setO (upM μ 219 8 0) 220 m)) := by
  refine met_of ?_ (Nat.le_of_ble_eq_true rfl) (by decide) trivial (by decide) (Nat.le_of_ble_eq_true rfl)
  show SPW mi_Mod_clearText 226 0 [some (vR 219), none] [] (st (setO μ 220 m)) (some (vI (μ 219 8))) (st (setO (upM μ 219 8 0) 220 m))
  refine r_aloadn dd_Mod_clearText_0 rfl ?_
  refine r_getI dd_Mod_clearText_1 fl_Mod_118 (kI := 8) rfl fi_Mod_8 vk_219 ?_
  try simp only [setO_at, setO_ss, upM_on, so_219, so_221, so_222, so_223, so_224, so_225, uo_219, uo_221, uo_222, uo_223, uo_224, uo_225, upM_eq, upM_uu, t221_219, t221_220, t221_222, t221_223, t221_224, t221_225, v221, t222_219, t222_220, t222_221, t222_223, t222_224, t222_225, v222, t223_219, t223_220, t223_221, t223_222, t223_224, t223_225, v223, w_220, w_221, w_222, w_223, w_224, w_225, x224_219, x225_219, kn_220, kn_221, kn_223, kn_224, kn_225]
  refine r_istoren (L' := [_, _]) dd_Mod_clearText_4 rfl rfl ?_
  refine r_aloadn dd_Mod_clearText_5 rfl ?_
  refine r_iconst dd_Mod_clearText_6 ⟨by decide, by decide⟩ ?_
  refine r_putI dd_Mod_clearText_7 fl_Mod_118 (kI := 8) rfl fc_Mod_8 ff_Mod_8 (pi_Mod_8 _) vk_219 ?_
  try simp only [setO_at, setO_ss, upM_on, so_219, so_221, so_222, so_223, so_224, so_225, uo_219, uo_221, uo_222, uo_223, uo_224, uo_225, upM_eq, upM_uu, t221_219, t221_220, t221_222, t221_223, t221_224, t221_225, v221, t222_219, t222_220, t222_221, t222_223, t222_224, t222_225, v222, t223_219, t223_220, t223_221, t223_222, t223_224, t223_225, v223, w_220, w_221, w_222, w_223, w_224, w_225, x224_219, x225_219, kn_220, kn_221, kn_223, kn_224, kn_225]
  refine r_iloadn dd_Mod_clearText_10 rfl ?_
  exact r_retI dd_Mod_clearText_11 (by first | rfl | omega | exact (b2_t (by first | assumption | omega)).symm | exact (b2_f (by first | assumption | omega)).symm) rfl
theorem l_Mod_undo {μ : Int → Int → Int} {m : Int → Int} (hk : 0 ≤ μ 219 3 ∧ μ 219 3 ≤ 3) : ∀ (n : Nat) (w : Int), (w + n = 472) → (0 ≤ w) → SPW mi_Mod_undo 226 22 [some (vR 219), some (vI w)] [] (st (setO μ 220 (cpy (fun k => μ 222 (472 * μ 219 3 + k)) m 0 w))) (some (vI (μ 219 3))) (st (setO μ 220 (cpy (fun k => μ 222 (472 * μ 219 3 + k)) m 0 472))) := by
  intro n
  induction n with
  | zero =>
    intro w h0 h1
    refine r_iloadn dd_Mod_undo_22 rfl ?_
    refine r_sip dd_Mod_undo_23 ⟨by decide, by decide⟩ ?_
    refine r_icmp_ge dd_Mod_undo_26 (fun c_26 => ?_) (fun c_26 => ?_)
    · refine r_aloadn dd_Mod_undo_56 rfl ?_
      refine r_getI dd_Mod_undo_57 fl_Mod_39 (kI := 3) rfl fi_Mod_3 vk_219 ?_
      try simp only [setO_at, setO_ss, upM_on, so_219, so_221, so_222, so_223, so_224, so_225, uo_219, uo_221, uo_222, uo_223, uo_224, uo_225, upM_eq, upM_uu, t221_219, t221_220, t221_222, t221_223, t221_224, t221_225, v221, t222_219, t222_220, t222_221, t222_223, t222_224, t222_225, v222, t223_219, t223_220, t223_221, t223_222, t223_224, t223_225, v223, w_220, w_221, w_222, w_223, w_224, w_225, x224_219, x225_219, kn_220, kn_221, kn_223, kn_224, kn_225]
      exact r_retI dd_Mod_undo_60 (by first | rfl | omega | exact (b2_t (by first | assumption | omega)).symm | exact (b2_f (by first | assumption | omega)).symm) (by rw [show w = 472 by omega])
    · exfalso; omega
  | succ n ih =>
    intro w h0 h1
    refine r_iloadn dd_Mod_undo_22 rfl ?_
    refine r_sip dd_Mod_undo_23 ⟨by decide, by decide⟩ ?_
    refine r_icmp_ge dd_Mod_undo_26 (fun c_26 => ?_) (fun c_26 => ?_)
    · exfalso; omega
    · refine r_aloadn dd_Mod_undo_29 rfl ?_
      refine r_getR dd_Mod_undo_30 fl_Mod_7 (kI := 0) rfl fr_Mod_0 vk_219 R0_219_0 ?_
      refine r_iloadn dd_Mod_undo_33 rfl ?_
      refine r_aloadn dd_Mod_undo_34 rfl ?_
      refine r_getR dd_Mod_undo_35 fl_Mod_16 (kI := 2) rfl fr_Mod_2 vk_219 R0_219_2 ?_
      refine r_sip dd_Mod_undo_38 ⟨by decide, by decide⟩ ?_
      refine r_aloadn dd_Mod_undo_41 rfl ?_
      refine r_getI dd_Mod_undo_42 fl_Mod_39 (kI := 3) rfl fi_Mod_3 vk_219 ?_
      try simp only [setO_at, setO_ss, upM_on, so_219, so_221, so_222, so_223, so_224, so_225, uo_219, uo_221, uo_222, uo_223, uo_224, uo_225, upM_eq, upM_uu, t221_219, t221_220, t221_222, t221_223, t221_224, t221_225, v221, t222_219, t222_220, t222_221, t222_223, t222_224, t222_225, v222, t223_219, t223_220, t223_221, t223_222, t223_224, t223_225, v223, w_220, w_221, w_222, w_223, w_224, w_225, x224_219, x225_219, kn_220, kn_221, kn_223, kn_224, kn_225]
      refine r_imul dd_Mod_undo_45 ⟨by omega, by omega⟩ ?_
      refine r_iloadn dd_Mod_undo_46 rfl ?_
      refine r_iadd dd_Mod_undo_47 ⟨by omega, by omega⟩ ?_
      refine r_iald dd_Mod_undo_48 (q := 13) (by decide) vk_222 (by omega) (by show _ < ((1888 : Nat) : Int); omega) ?_
      try simp only [setO_at, setO_ss, upM_on, so_219, so_221, so_222, so_223, so_224, so_225, uo_219, uo_221, uo_222, uo_223, uo_224, uo_225, upM_eq, upM_uu, t221_219, t221_220, t221_222, t221_223, t221_224, t221_225, v221, t222_219, t222_220, t222_221, t222_223, t222_224, t222_225, v222, t223_219, t223_220, t223_221, t223_222, t223_224, t223_225, v223, w_220, w_221, w_222, w_223, w_224, w_225, x224_219, x225_219, kn_220, kn_221, kn_223, kn_224, kn_225]
      refine r_iast dd_Mod_undo_49 (q := 12) (by decide) vk_220 (by omega) (by show _ < ((472 : Nat) : Int); omega) ?_
      try simp only [setO_at, setO_ss, upM_on, so_219, so_221, so_222, so_223, so_224, so_225, uo_219, uo_221, uo_222, uo_223, uo_224, uo_225, upM_eq, upM_uu, t221_219, t221_220, t221_222, t221_223, t221_224, t221_225, v221, t222_219, t222_220, t222_221, t222_223, t222_224, t222_225, v222, t223_219, t223_220, t223_221, t223_222, t223_224, t223_225, v223, w_220, w_221, w_222, w_223, w_224, w_225, x224_219, x225_219, kn_220, kn_221, kn_223, kn_224, kn_225]
      refine r_iinc (L' := [_, _]) dd_Mod_undo_50 rfl ⟨by omega, by omega⟩ rfl ?_
      refine r_goto dd_Mod_undo_53 ?_
      refine r_to ?_ (ih (w + 1) (by omega) (by omega))
      rw [cpy_s0 (g := fun k => μ 222 (472 * μ 219 3 + k)) h1]
theorem c_Mod_undo_e {μ : Int → Int → Int} {m : Int → Int} (h : μ 219 3 = 0) : MetC mi_Mod_undo [vR 219] (st (setO μ 220 m)) (some (vI (-5))) (st (setO μ 220 m)) := by
  refine met_of ?_ (Nat.le_of_ble_eq_true rfl) (by decide) trivial (by decide) (Nat.le_of_ble_eq_true rfl)
  show SPW mi_Mod_undo 226 0 [some (vR 219), none] [] (st (setO μ 220 m)) (some (vI (-5))) (st (setO μ 220 m))
  refine r_aloadn dd_Mod_undo_0 rfl ?_
  refine r_getI dd_Mod_undo_1 fl_Mod_39 (kI := 3) rfl fi_Mod_3 vk_219 ?_
  try simp only [setO_at, setO_ss, upM_on, so_219, so_221, so_222, so_223, so_224, so_225, uo_219, uo_221, uo_222, uo_223, uo_224, uo_225, upM_eq, upM_uu, t221_219, t221_220, t221_222, t221_223, t221_224, t221_225, v221, t222_219, t222_220, t222_221, t222_223, t222_224, t222_225, v222, t223_219, t223_220, t223_221, t223_222, t223_224, t223_225, v223, w_220, w_221, w_222, w_223, w_224, w_225, x224_219, x225_219, kn_220, kn_221, kn_223, kn_224, kn_225]
  refine r_if_ne dd_Mod_undo_4 (fun c_4 => ?_) (fun c_4 => ?_)
  · exfalso; omega
  · refine r_bip dd_Mod_undo_7 ⟨by decide, by decide⟩ ?_
    exact r_retI dd_Mod_undo_9 (by first | rfl | omega | exact (b2_t (by first | assumption | omega)).symm | exact (b2_f (by first | assumption | omega)).symm) rfl
theorem c_Mod_undo_o {μ : Int → Int → Int} {m : Int → Int} (h : 1 ≤ μ 219 3 ∧ μ 219 3 ≤ 4) : MetC mi_Mod_undo [vR 219] (st (setO μ 220 m)) (some (vI (μ 219 3 - 1))) (st (setO (upM μ 219 3 (μ 219 3 - 1)) 220 (cpy (fun k => μ 222 (472 * (μ 219 3 - 1) + k)) m 0 472))) := by
  refine met_of ?_ (Nat.le_of_ble_eq_true rfl) (by decide) trivial (by decide) (Nat.le_of_ble_eq_true rfl)
  show SPW mi_Mod_undo 226 0 [some (vR 219), none] [] (st (setO μ 220 m)) (some (vI (μ 219 3 - 1))) (st (setO (upM μ 219 3 (μ 219 3 - 1)) 220 (cpy (fun k => μ 222 (472 * (μ 219 3 - 1) + k)) m 0 472)))
  refine r_aloadn dd_Mod_undo_0 rfl ?_
  refine r_getI dd_Mod_undo_1 fl_Mod_39 (kI := 3) rfl fi_Mod_3 vk_219 ?_
  try simp only [setO_at, setO_ss, upM_on, so_219, so_221, so_222, so_223, so_224, so_225, uo_219, uo_221, uo_222, uo_223, uo_224, uo_225, upM_eq, upM_uu, t221_219, t221_220, t221_222, t221_223, t221_224, t221_225, v221, t222_219, t222_220, t222_221, t222_223, t222_224, t222_225, v222, t223_219, t223_220, t223_221, t223_222, t223_224, t223_225, v223, w_220, w_221, w_222, w_223, w_224, w_225, x224_219, x225_219, kn_220, kn_221, kn_223, kn_224, kn_225]
  refine r_if_ne dd_Mod_undo_4 (fun c_4 => ?_) (fun c_4 => ?_)
  · refine r_aloadn dd_Mod_undo_10 rfl ?_
    refine r_dup dd_Mod_undo_11 ?_
    refine r_getI dd_Mod_undo_12 fl_Mod_39 (kI := 3) rfl fi_Mod_3 vk_219 ?_
    try simp only [setO_at, setO_ss, upM_on, so_219, so_221, so_222, so_223, so_224, so_225, uo_219, uo_221, uo_222, uo_223, uo_224, uo_225, upM_eq, upM_uu, t221_219, t221_220, t221_222, t221_223, t221_224, t221_225, v221, t222_219, t222_220, t222_221, t222_223, t222_224, t222_225, v222, t223_219, t223_220, t223_221, t223_222, t223_224, t223_225, v223, w_220, w_221, w_222, w_223, w_224, w_225, x224_219, x225_219, kn_220, kn_221, kn_223, kn_224, kn_225]
    refine r_iconst dd_Mod_undo_15 ⟨by decide, by decide⟩ ?_
    refine r_isub dd_Mod_undo_16 ⟨by omega, by omega⟩ ?_
    refine r_putI dd_Mod_undo_17 fl_Mod_39 (kI := 3) rfl fc_Mod_3 ff_Mod_3 (pi_Mod_3 _) vk_219 ?_
    try simp only [setO_at, setO_ss, upM_on, so_219, so_221, so_222, so_223, so_224, so_225, uo_219, uo_221, uo_222, uo_223, uo_224, uo_225, upM_eq, upM_uu, t221_219, t221_220, t221_222, t221_223, t221_224, t221_225, v221, t222_219, t222_220, t222_221, t222_223, t222_224, t222_225, v222, t223_219, t223_220, t223_221, t223_222, t223_224, t223_225, v223, w_220, w_221, w_222, w_223, w_224, w_225, x224_219, x225_219, kn_220, kn_221, kn_223, kn_224, kn_225]
    refine r_iconst dd_Mod_undo_20 ⟨by decide, by decide⟩ ?_
    refine r_istoren (L' := [_, _]) dd_Mod_undo_21 rfl rfl ?_
    have k2 := l_Mod_undo (μ := upM μ 219 3 (μ 219 3 - 1)) (m := m) (by rw [upM_eq]; omega) 472 0 (by decide) (by decide)
    rw [upM_eq, cpy_0, w_222] at k2
    exact k2
  · exfalso; omega
theorem l_Mod_keep {μ : Int → Int → Int} {m : Int → Int} {K : Int} (hW : MW K m) : ∀ (n : Nat) (w : Int), (w + n = 472) → (0 ≤ w) → SPW mi_Mod_keep 226 2 [some (vR 219), some (vI w)] [] (st (setO (setO μ 223 (cpy m (μ 223) 0 w)) 220 m)) (some (vI (owsM m))) (st (setO (setO (upM μ 219 5 1) 223 (cpy m (μ 223) 0 472)) 220 m)) := by
  intro n
  induction n with
  | zero =>
    intro w h0 h1
    refine r_iloadn dd_Mod_keep_2 rfl ?_
    refine r_sip dd_Mod_keep_3 ⟨by decide, by decide⟩ ?_
    refine r_icmp_ge dd_Mod_keep_6 (fun c_6 => ?_) (fun c_6 => ?_)
    · refine r_aloadn dd_Mod_keep_27 rfl ?_
      refine r_iconst dd_Mod_keep_28 ⟨by decide, by decide⟩ ?_
      refine r_putI dd_Mod_keep_29 fl_Mod_162 (kI := 5) rfl fc_Mod_5 ff_Mod_5 (pb_Mod_5 (by first | exact b2_01 | omega)) vk_219 ?_
      try simp only [setO_at, setO_ss, upM_on, so_219, so_221, so_222, so_223, so_224, so_225, uo_219, uo_221, uo_222, uo_223, uo_224, uo_225, upM_eq, upM_uu, t221_219, t221_220, t221_222, t221_223, t221_224, t221_225, v221, t222_219, t222_220, t222_221, t222_223, t222_224, t222_225, v222, t223_219, t223_220, t223_221, t223_222, t223_224, t223_225, v223, w_220, w_221, w_222, w_223, w_224, w_225, x224_219, x225_219, kn_220, kn_221, kn_223, kn_224, kn_225]
      refine r_aloadn dd_Mod_keep_32 rfl ?_
      refine r_V0W dd_Mod_keep_33 ml_Mod_165 ok_Mod_owned vi_Mod_owned vk_219 (by decide) (clS rfl (Nat.le_refl _) (rmOK_self _ _)) rfl (owned_so hW) ?_
      try simp only [setO_at, setO_ss, upM_on, so_219, so_221, so_222, so_223, so_224, so_225, uo_219, uo_221, uo_222, uo_223, uo_224, uo_225, upM_eq, upM_uu, t221_219, t221_220, t221_222, t221_223, t221_224, t221_225, v221, t222_219, t222_220, t222_221, t222_223, t222_224, t222_225, v222, t223_219, t223_220, t223_221, t223_222, t223_224, t223_225, v223, w_220, w_221, w_222, w_223, w_224, w_225, x224_219, x225_219, kn_220, kn_221, kn_223, kn_224, kn_225]
      exact r_retI dd_Mod_keep_36 (by first | rfl | omega | exact (b2_t (by first | assumption | omega)).symm | exact (b2_f (by first | assumption | omega)).symm) (by rw [show w = 472 by omega])
    · exfalso; omega
  | succ n ih =>
    intro w h0 h1
    refine r_iloadn dd_Mod_keep_2 rfl ?_
    refine r_sip dd_Mod_keep_3 ⟨by decide, by decide⟩ ?_
    refine r_icmp_ge dd_Mod_keep_6 (fun c_6 => ?_) (fun c_6 => ?_)
    · exfalso; omega
    · refine r_aloadn dd_Mod_keep_9 rfl ?_
      refine r_getR dd_Mod_keep_10 fl_Mod_19 (kI := 4) rfl fr_Mod_4 vk_219 R0_219_4 ?_
      refine r_iloadn dd_Mod_keep_13 rfl ?_
      refine r_aloadn dd_Mod_keep_14 rfl ?_
      refine r_getR dd_Mod_keep_15 fl_Mod_7 (kI := 0) rfl fr_Mod_0 vk_219 R0_219_0 ?_
      refine r_iloadn dd_Mod_keep_18 rfl ?_
      refine r_iald dd_Mod_keep_19 (q := 12) (by decide) vk_220 (by omega) (by show _ < ((472 : Nat) : Int); omega) ?_
      try simp only [setO_at, setO_ss, upM_on, so_219, so_221, so_222, so_223, so_224, so_225, uo_219, uo_221, uo_222, uo_223, uo_224, uo_225, upM_eq, upM_uu, t221_219, t221_220, t221_222, t221_223, t221_224, t221_225, v221, t222_219, t222_220, t222_221, t222_223, t222_224, t222_225, v222, t223_219, t223_220, t223_221, t223_222, t223_224, t223_225, v223, w_220, w_221, w_222, w_223, w_224, w_225, x224_219, x225_219, kn_220, kn_221, kn_223, kn_224, kn_225]
      refine r_iast dd_Mod_keep_20 (q := 12) (by decide) vk_223 (by omega) (by show _ < ((472 : Nat) : Int); omega) ?_
      try simp only [setO_at, setO_ss, upM_on, so_219, so_221, so_222, so_223, so_224, so_225, uo_219, uo_221, uo_222, uo_223, uo_224, uo_225, upM_eq, upM_uu, t221_219, t221_220, t221_222, t221_223, t221_224, t221_225, v221, t222_219, t222_220, t222_221, t222_223, t222_224, t222_225, v222, t223_219, t223_220, t223_221, t223_222, t223_224, t223_225, v223, w_220, w_221, w_222, w_223, w_224, w_225, x224_219, x225_219, kn_220, kn_221, kn_223, kn_224, kn_225]
      refine r_iinc (L' := [_, _]) dd_Mod_keep_21 rfl ⟨by omega, by omega⟩ rfl ?_
      refine r_goto dd_Mod_keep_24 ?_
      refine r_to ?_ (ih (w + 1) (by omega) (by omega))
      rw [cpy_s0 h1]
theorem c_Mod_keep {μ : Int → Int → Int} {m : Int → Int} {K : Int} (hW : MW K m) : MetC mi_Mod_keep [vR 219] (st (setO μ 220 m)) (some (vI (owsM m))) (st (setO (setO (upM μ 219 5 1) 223 (cpy m (μ 223) 0 472)) 220 m)) := by
  refine met_of ?_ (Nat.le_of_ble_eq_true rfl) (by decide) trivial (by decide) (Nat.le_of_ble_eq_true rfl)
  show SPW mi_Mod_keep 226 0 [some (vR 219), none] [] (st (setO μ 220 m)) (some (vI (owsM m))) (st (setO (setO (upM μ 219 5 1) 223 (cpy m (μ 223) 0 472)) 220 m))
  refine r_iconst dd_Mod_keep_0 ⟨by decide, by decide⟩ ?_
  refine r_istoren (L' := [_, _]) dd_Mod_keep_1 rfl rfl ?_
  have k2 := l_Mod_keep (μ := μ) hW 472 0 (by decide) (by decide)
  rw [cpy_0, setO_self] at k2
  exact k2
theorem l_Mod_restore {μ : Int → Int → Int} {m f : Int → Int} {K : Int} (hW : MW K (cpy f m 0 472)) (hf : μ 223 = f) : ∀ (n : Nat) (w : Int), (w + n = 472) → (0 ≤ w) → SPW mi_Mod_restore 226 16 [some (vR 219), some (vI w)] [] (st (setO μ 220 (cpy f m 0 w))) (some (vI (owsM (cpy f m 0 472)))) (st (setO μ 220 (cpy f m 0 472))) := by
  intro n
  induction n with
  | zero =>
    intro w h0 h1
    refine r_iloadn dd_Mod_restore_16 rfl ?_
    refine r_sip dd_Mod_restore_17 ⟨by decide, by decide⟩ ?_
    refine r_icmp_ge dd_Mod_restore_20 (fun c_20 => ?_) (fun c_20 => ?_)
    · rw [show w = 472 by omega]
      refine r_aloadn dd_Mod_restore_41 rfl ?_
      refine r_V0W dd_Mod_restore_42 ml_Mod_165 ok_Mod_owned vi_Mod_owned vk_219 (by decide) (clS rfl (Nat.le_refl _) (rmOK_self _ _)) rfl (owned_so hW) ?_
      try simp only [setO_at, setO_ss, upM_on, so_219, so_221, so_222, so_223, so_224, so_225, uo_219, uo_221, uo_222, uo_223, uo_224, uo_225, upM_eq, upM_uu, t221_219, t221_220, t221_222, t221_223, t221_224, t221_225, v221, t222_219, t222_220, t222_221, t222_223, t222_224, t222_225, v222, t223_219, t223_220, t223_221, t223_222, t223_224, t223_225, v223, w_220, w_221, w_222, w_223, w_224, w_225, x224_219, x225_219, kn_220, kn_221, kn_223, kn_224, kn_225]
      exact r_retI dd_Mod_restore_45 (by first | rfl | omega | exact (b2_t (by first | assumption | omega)).symm | exact (b2_f (by first | assumption | omega)).symm) rfl
    · exfalso; omega
  | succ n ih =>
    intro w h0 h1
    refine r_iloadn dd_Mod_restore_16 rfl ?_
    refine r_sip dd_Mod_restore_17 ⟨by decide, by decide⟩ ?_
    refine r_icmp_ge dd_Mod_restore_20 (fun c_20 => ?_) (fun c_20 => ?_)
    · exfalso; omega
    · refine r_aloadn dd_Mod_restore_23 rfl ?_
      refine r_getR dd_Mod_restore_24 fl_Mod_7 (kI := 0) rfl fr_Mod_0 vk_219 R0_219_0 ?_
      refine r_iloadn dd_Mod_restore_27 rfl ?_
      refine r_aloadn dd_Mod_restore_28 rfl ?_
      refine r_getR dd_Mod_restore_29 fl_Mod_19 (kI := 4) rfl fr_Mod_4 vk_219 R0_219_4 ?_
      refine r_iloadn dd_Mod_restore_32 rfl ?_
      refine r_iald dd_Mod_restore_33 (q := 12) (by decide) vk_223 (by omega) (by show _ < ((472 : Nat) : Int); omega) ?_
      try simp only [setO_at, setO_ss, upM_on, so_219, so_221, so_222, so_223, so_224, so_225, uo_219, uo_221, uo_222, uo_223, uo_224, uo_225, upM_eq, upM_uu, t221_219, t221_220, t221_222, t221_223, t221_224, t221_225, v221, t222_219, t222_220, t222_221, t222_223, t222_224, t222_225, v222, t223_219, t223_220, t223_221, t223_222, t223_224, t223_225, v223, w_220, w_221, w_222, w_223, w_224, w_225, x224_219, x225_219, kn_220, kn_221, kn_223, kn_224, kn_225]
      refine r_iast dd_Mod_restore_34 (q := 12) (by decide) vk_220 (by omega) (by show _ < ((472 : Nat) : Int); omega) ?_
      try simp only [setO_at, setO_ss, upM_on, so_219, so_221, so_222, so_223, so_224, so_225, uo_219, uo_221, uo_222, uo_223, uo_224, uo_225, upM_eq, upM_uu, t221_219, t221_220, t221_222, t221_223, t221_224, t221_225, v221, t222_219, t222_220, t222_221, t222_223, t222_224, t222_225, v222, t223_219, t223_220, t223_221, t223_222, t223_224, t223_225, v223, w_220, w_221, w_222, w_223, w_224, w_225, x224_219, x225_219, kn_220, kn_221, kn_223, kn_224, kn_225]
      refine r_iinc (L' := [_, _]) dd_Mod_restore_35 rfl ⟨by omega, by omega⟩ rfl ?_
      refine r_goto dd_Mod_restore_38 ?_
      refine r_to ?_ (ih (w + 1) (by omega) (by omega))
      rw [hf, cpy_s0 h1]
theorem c_Mod_restore_e {μ : Int → Int → Int} {m : Int → Int} (h : μ 219 5 = 0) : MetC mi_Mod_restore [vR 219] (st (setO μ 220 m)) (some (vI (-5))) (st (setO μ 220 m)) := by
  refine met_of ?_ (Nat.le_of_ble_eq_true rfl) (by decide) trivial (by decide) (Nat.le_of_ble_eq_true rfl)
  show SPW mi_Mod_restore 226 0 [some (vR 219), none] [] (st (setO μ 220 m)) (some (vI (-5))) (st (setO μ 220 m))
  refine r_aloadn dd_Mod_restore_0 rfl ?_
  refine r_getI dd_Mod_restore_1 fl_Mod_162 (kI := 5) rfl fi_Mod_5 vk_219 ?_
  try simp only [setO_at, setO_ss, upM_on, so_219, so_221, so_222, so_223, so_224, so_225, uo_219, uo_221, uo_222, uo_223, uo_224, uo_225, upM_eq, upM_uu, t221_219, t221_220, t221_222, t221_223, t221_224, t221_225, v221, t222_219, t222_220, t222_221, t222_223, t222_224, t222_225, v222, t223_219, t223_220, t223_221, t223_222, t223_224, t223_225, v223, w_220, w_221, w_222, w_223, w_224, w_225, x224_219, x225_219, kn_220, kn_221, kn_223, kn_224, kn_225]
  refine r_if_ne dd_Mod_restore_4 (fun c_4 => ?_) (fun c_4 => ?_)
  · exfalso; omega
  · refine r_bip dd_Mod_restore_7 ⟨by decide, by decide⟩ ?_
    exact r_retI dd_Mod_restore_9 (by first | rfl | omega | exact (b2_t (by first | assumption | omega)).symm | exact (b2_f (by first | assumption | omega)).symm) rfl
theorem c_Mod_restore_o {μ : Int → Int → Int} {m : Int → Int} {K : Int} (h : μ 219 5 ≠ 0) (hW : MW K (cpy (μ 223) m 0 472)) (hk : 0 ≤ μ 219 3 ∧ μ 219 3 ≤ 4) : MetC mi_Mod_restore [vR 219] (st (setO μ 220 m)) (some (vI (owsM (cpy (μ 223) m 0 472)))) (st (setO (knM μ m) 220 (cpy (μ 223) m 0 472))) := by
  refine met_of ?_ (Nat.le_of_ble_eq_true rfl) (by decide) trivial (by decide) (Nat.le_of_ble_eq_true rfl)
  show SPW mi_Mod_restore 226 0 [some (vR 219), none] [] (st (setO μ 220 m)) (some (vI (owsM (cpy (μ 223) m 0 472)))) (st (setO (knM μ m) 220 (cpy (μ 223) m 0 472)))
  refine r_aloadn dd_Mod_restore_0 rfl ?_
  refine r_getI dd_Mod_restore_1 fl_Mod_162 (kI := 5) rfl fi_Mod_5 vk_219 ?_
  try simp only [setO_at, setO_ss, upM_on, so_219, so_221, so_222, so_223, so_224, so_225, uo_219, uo_221, uo_222, uo_223, uo_224, uo_225, upM_eq, upM_uu, t221_219, t221_220, t221_222, t221_223, t221_224, t221_225, v221, t222_219, t222_220, t222_221, t222_223, t222_224, t222_225, v222, t223_219, t223_220, t223_221, t223_222, t223_224, t223_225, v223, w_220, w_221, w_222, w_223, w_224, w_225, x224_219, x225_219, kn_220, kn_221, kn_223, kn_224, kn_225]
  refine r_if_ne dd_Mod_restore_4 (fun c_4 => ?_) (fun c_4 => ?_)
  · refine r_aloadn dd_Mod_restore_10 rfl ?_
    refine r_V0N dd_Mod_restore_11 ml_Mod_90 ok_Mod_know vi_Mod_know vk_219 (by decide) (clS rfl (Nat.le_refl _) (rmOK_self _ _)) rfl (c_Mod_know hk) ?_
    try simp only [setO_at, setO_ss, upM_on, so_219, so_221, so_222, so_223, so_224, so_225, uo_219, uo_221, uo_222, uo_223, uo_224, uo_225, upM_eq, upM_uu, t221_219, t221_220, t221_222, t221_223, t221_224, t221_225, v221, t222_219, t222_220, t222_221, t222_223, t222_224, t222_225, v222, t223_219, t223_220, t223_221, t223_222, t223_224, t223_225, v223, w_220, w_221, w_222, w_223, w_224, w_225, x224_219, x225_219, kn_220, kn_221, kn_223, kn_224, kn_225]
    refine r_iconst dd_Mod_restore_14 ⟨by decide, by decide⟩ ?_
    refine r_istoren (L' := [_, _]) dd_Mod_restore_15 rfl rfl ?_
    have k2 := l_Mod_restore (μ := knM μ m) (m := m) (f := μ 223) hW kn_223 472 0 (by decide) (by decide)
    rw [cpy_0] at k2
    exact k2
  · exfalso; omega
