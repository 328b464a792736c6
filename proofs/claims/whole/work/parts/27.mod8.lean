/-! the reference: frees, passes, sweeps as contracts; the bounds stay -/
theorem MW_clr {K : Int} {m : Int → Int} (hW : MW K m) {b j : Int} (h0 : 0 ≤ b) (h1 : b + j ≤ 64) : MW K (clrM m b j) := by
  obtain ⟨g1, g2, g3, g4, g5, g6, g7, g8, g9, g10⟩ := hW
  have hi : ∀ k, 128 ≤ k → clrM m b j k = m k := fun k hk => clr_ne (by omega)
  refine ⟨fun w w0 w1 => ?_, fun t t0 t1 => ?_, ?_, ?_, ?_, ?_, ?_, ?_, g9, ?_⟩
  · obtain ⟨b1, bb⟩ := g1 w w0 w1
    rw [hi (128 + w) (by omega), hi (192 + w) (by omega), hi (256 + w) (by omega), hi (320 + w) (by omega), hi (384 + w) (by omega)]
    refine ⟨?_, bb⟩
    unfold clrM
    split
    · omega
    · exact b1
  · rw [hi (448 + t) (by omega), hi (454 + t) (by omega), hi (460 + t) (by omega)]
    exact g2 t t0 t1
  · rw [hi 466 (by omega)]; exact g3
  · rw [hi 467 (by omega)]; exact g4
  · rw [hi 468 (by omega)]; exact g5
  · rw [hi 469 (by omega)]; exact g6
  · rw [hi 470 (by omega)]; exact g7
  · rw [hi 471 (by omega)]; exact g8
  · rw [hi 128 (by omega)]; exact g10
theorem MW_js {K : Int} {m : Int → Int} (hW : MW K m) (hK : K + 1 ≤ 500000000) {w z : Int} (h0 : 0 ≤ w) (h1 : w < 64) (hz : z = 4 ∨ z = 8) (hm : m (128 + w) = z) : MW (K + 1) (jsM m w) := by
  have hl := lw_rg h0 h1 hz hm
  have hj := hW.2.2.2.2.2.1
  have h128 : m 469 = m 469 := rfl
  unfold jsM
  rw [hm]
  have hW := MW_mono hW (K' := K + 1) (by omega) hK
  exact MW_up (MW_up (MW_up hW (k := 128 + lwM m w) (v := 2 * z) ⟨by omega, by omega, by omega, by omega, by omega, by omega, by omega, by omega, by omega, by omega, by omega, by omega, by omega⟩)
    (k := 128 + (lwM m w + z)) (v := 0) ⟨by omega, by omega, by omega, by omega, by omega, by omega, by omega, by omega, by omega, by omega, by omega, by omega, by omega⟩)
    (k := 469) (v := m 469 + 1) ⟨by omega, by omega, by omega, by omega, by omega, by omega, by omega, by omega, by omega, by omega, by omega, by omega, by omega⟩
theorem MW_jn {K : Int} {m : Int → Int} (hW : MW K m) (hK : K + 2 ≤ 500000000) {w : Int} (h0 : 0 ≤ w) (h1 : w < 64) : MW (K + 2) (jnM m w) := by
  have h8 : ∀ (K : Int) (m : Int → Int), MW K m → K + 1 ≤ 500000000 → ∀ w, 0 ≤ w → w < 64 → m (128 + w) = 8 → MW (K + 1) (jn8 m w) := by
    intro K m hW hK w h0 h1 hm
    unfold jn8
    split
    · exact MW_js hW hK h0 h1 (Or.inr rfl) hm
    · exact MW_mono hW (by omega) hK
  unfold jnM
  split
  · rename_i hm
    have hl := lw_rg h0 h1 (Or.inl rfl) hm
    unfold jn4
    split
    · have h := h8 (K + 1) (jsM m w) (MW_js hW (by omega) h0 h1 (Or.inl rfl) hm) (by omega) (lwM m w) (by omega) (by omega) (js_lw h0 h1 (Or.inl rfl) hm)
      rw [show K + 1 + 1 = K + 2 by omega] at h
      exact h
    · exact MW_mono hW (by omega) hK
  · split
    · rename_i hm
      exact MW_mono (h8 K m hW (by omega) w h0 h1 hm) (by omega) hK
    · exact MW_mono hW (by omega) hK
theorem brkM_rg {K : Int} {m : Int → Int} (hW : MW K m) {b : Int} (h0 : 0 ≤ b) (h1 : b < 64) : 0 ≤ brkM m b ∧ brkM m b ≤ 17 := by
  have a1 := (hW.1 b h0 h1).1
  have a2 := brk_bd hW h0 h1
  unfold brkM
  omega
theorem MW_fr0 {K : Int} {m : Int → Int} (hW : MW K m) (hK : K + 17 ≤ 500000000) {b : Int} (h0 : 0 ≤ b) (h1 : b < 64) : MW (K + 17) (fr0M m b) := by
  have a := brkM_rg hW h0 h1
  have f := hW.2.2.2.2.2.2.1
  have hb := (hW.1 b h0 h1).2.2.2.2.2.2.2
  have hW := MW_mono hW (K' := K + 17) (by omega) hK
  unfold fr0M
  exact MW_up (MW_clr (MW_up hW (k := 470) (v := m 470 + brkM m b) ⟨by omega, by omega, by omega, by omega, by omega, by omega, by omega, by omega, by omega, by omega, by omega, by omega, by omega⟩) h0 hb)
    (k := 192 + b) (v := -5) ⟨by omega, by omega, by omega, by omega, by omega, by omega, by omega, by omega, by omega, by omega, by omega, by omega, by omega⟩
theorem MW_fr {K : Int} {m : Int → Int} (hW : MW K m) (hK : K + 19 ≤ 500000000) {b : Int} (h0 : 0 ≤ b) (h1 : b < 64) : MW (K + 19) (frM m b) := by
  have h := MW_jn (MW_fr0 hW (by omega) h0 h1) (by omega) h0 h1
  rw [show K + 17 + 2 = K + 19 by omega] at h
  exact h
def swM : Nat → Int → (Int → Int) → Int → Int
  | 0, _, m => m
  | n + 1, w, m => swM n (w + 1) (if lkM m w then frM m w else m)
def swN : Nat → Int → (Int → Int) → Int
  | 0, _, _ => 0
  | n + 1, w, m => (if lkM m w then 1 else 0) + swN n (w + 1) (if lkM m w then frM m w else m)
theorem swM_y {n : Nat} {w : Int} {m : Int → Int} (h : lkM m w) : swM (n + 1) w m = swM n (w + 1) (frM m w) := by
  show swM n (w + 1) (if lkM m w then frM m w else m) = _
  rw [if_pos h]
theorem swM_n {n : Nat} {w : Int} {m : Int → Int} (h : ¬ lkM m w) : swM (n + 1) w m = swM n (w + 1) m := by
  show swM n (w + 1) (if lkM m w then frM m w else m) = _
  rw [if_neg h]
theorem swN_y {n : Nat} {w : Int} {m : Int → Int} (h : lkM m w) : swN (n + 1) w m = 1 + swN n (w + 1) (frM m w) := by
  show (if lkM m w then 1 else 0) + swN n (w + 1) (if lkM m w then frM m w else m) = _
  rw [if_pos h, if_pos h]
theorem swN_n {n : Nat} {w : Int} {m : Int → Int} (h : ¬ lkM m w) : swN (n + 1) w m = swN n (w + 1) m := by
  show (if lkM m w then 1 else 0) + swN n (w + 1) (if lkM m w then frM m w else m) = _
  rw [if_neg h, if_neg h, Int.zero_add]
def psM (m : Int → Int) (ticks : Int) : Int → Int := up1 m 466 (m 466 + ticks)

theorem c_Mod_frees {μ : Int → Int → Int} {m : Int → Int} {K b : Int} (hW : MW K m) (h0 : 0 ≤ b) (h1 : b < 64) (h2 : m (128 + b) ≠ 0) : MetC mi_Mod_frees [vR 219, vI b] (st (setO μ 220 m)) (some (vI (brkM m b))) (st (setO μ 220 (frM m b))) := by
  refine met_of ?_ (Nat.le_of_ble_eq_true rfl) (by decide) trivial (by decide) (Nat.le_of_ble_eq_true rfl)
  show SPW mi_Mod_frees 226 0 [some (vR 219), some (vI b), none, none, none, none, none, none] [] (st (setO μ 220 m)) (some (vI (brkM m b))) (st (setO μ 220 (frM m b)))
  have hb := hW.1 b h0 h1
  have hk := brkM_rg hW h0 h1
  have hf := hW.2.2.2.2.2.2.1
  have hj := hW.2.2.2.2.2.1
  have hK := hW.2.2.2.2.2.2.2.2.1
  refine r_aloadn dd_Mod_frees_0 rfl ?_
  refine r_iloadn dd_Mod_frees_1 rfl ?_
  refine r_V1W dd_Mod_frees_2 ml_Mod_65 ok_Mod_broken vi_Mod_broken vk_219 (by decide) (clS rfl (Nat.le_refl _) (rmOK_self _ _)) rfl (c_Mod_broken (μ := setO μ 220 m) (by rw [setO_at]; exact hW) h0 h1) ?_
  try simp only [setO_at, setO_ss, upM_on, so_219, so_221, so_222, so_223, so_224, so_225, uo_219, uo_221, uo_222, uo_223, uo_224, uo_225, upM_eq, upM_uu, t221_219, t221_220, t221_222, t221_223, t221_224, t221_225, v221, t222_219, t222_220, t222_221, t222_223, t222_224, t222_225, v222, t223_219, t223_220, t223_221, t223_222, t223_224, t223_225, v223, w_220, w_221, w_222, w_223, w_224, w_225]
  refine r_istoren (L' := [_, _, _, _, _, _, _, _]) dd_Mod_frees_5 rfl rfl ?_
  refine r_aloadn dd_Mod_frees_6 rfl ?_
  refine r_getR dd_Mod_frees_7 fl_Mod_7 (kI := 0) rfl fr_Mod_0 vk_219 R0_219_0 ?_
  refine r_sip dd_Mod_frees_10 ⟨by decide, by decide⟩ ?_
  refine r_dup2 dd_Mod_frees_13 ?_
  refine r_iald dd_Mod_frees_14 (q := 12) (by decide) vk_220 (by omega) (by show _ < ((472 : Nat) : Int); omega) ?_
  try simp only [setO_at, setO_ss, upM_on, so_219, so_221, so_222, so_223, so_224, so_225, uo_219, uo_221, uo_222, uo_223, uo_224, uo_225, upM_eq, upM_uu, t221_219, t221_220, t221_222, t221_223, t221_224, t221_225, v221, t222_219, t222_220, t222_221, t222_223, t222_224, t222_225, v222, t223_219, t223_220, t223_221, t223_222, t223_224, t223_225, v223, w_220, w_221, w_222, w_223, w_224, w_225]
  refine r_iloadn dd_Mod_frees_15 rfl ?_
  refine r_iadd dd_Mod_frees_16 ⟨by omega, by omega⟩ ?_
  refine r_iast dd_Mod_frees_17 (q := 12) (by decide) vk_220 (by omega) (by show _ < ((472 : Nat) : Int); omega) ?_
  try simp only [setO_at, setO_ss, upM_on, so_219, so_221, so_222, so_223, so_224, so_225, uo_219, uo_221, uo_222, uo_223, uo_224, uo_225, upM_eq, upM_uu, t221_219, t221_220, t221_222, t221_223, t221_224, t221_225, v221, t222_219, t222_220, t222_221, t222_223, t222_224, t222_225, v222, t223_219, t223_220, t223_221, t223_222, t223_224, t223_225, v223, w_220, w_221, w_222, w_223, w_224, w_225]
  refine r_iloadn dd_Mod_frees_18 rfl ?_
  refine r_istoren (L' := [_, _, _, _, _, _, _, _]) dd_Mod_frees_19 rfl rfl ?_
  have ef : up1 m 470 (m 470 + brkM m b) (128 + b) = m (128 + b) := up1_ne (by omega)
  have k2 := l_Mod_frees (μ := μ) (m := fr0M m b) (f := up1 m 470 (m 470 + brkM m b)) (b := b) (nn := brkM m b) h0 (by omega) (by omega) (fun k => by rw [ef]; rfl) (by rw [up1_ne (by omega)]; omega) (m (128 + b)).toNat 0 (by omega) (Int.le_refl 0)
  rw [clr_0, Int.add_zero] at k2
  exact k2
theorem c_Mod_passes {μ : Int → Int → Int} {m : Int → Int} {K ticks : Int} (hW : MW K m) (h0 : 0 ≤ ticks) (h1 : m 466 + ticks ≤ 9999) : MetC mi_Mod_passes [vR 219, vI ticks] (st (setO μ 220 m)) (some (vI (lksM (psM m ticks) 6 - lksM m 6))) (st (setO μ 220 (psM m ticks))) := by
  refine met_of ?_ (Nat.le_of_ble_eq_true rfl) (by decide) trivial (by decide) (Nat.le_of_ble_eq_true rfl)
  show SPW mi_Mod_passes 226 0 [some (vR 219), some (vI ticks), none] [] (st (setO μ 220 m)) (some (vI (lksM (psM m ticks) 6 - lksM m 6))) (st (setO μ 220 (psM m ticks)))
  have hc := hW.2.2.1
  have hp : MW K (psM m ticks) := MW_up hW ⟨by omega, by omega, by omega, by omega, by omega, by omega, by omega, by omega, by omega, by omega, by omega, by omega, by omega⟩
  have l1 := lksM_bd m 6
  have l2 := lksM_bd (psM m ticks) 6
  refine r_aloadn dd_Mod_passes_0 rfl ?_
  refine r_bip dd_Mod_passes_1 ⟨by decide, by decide⟩ ?_
  refine r_V1W dd_Mod_passes_3 ml_Mod_81 ok_Mod_leaks vi_Mod_leaks vk_219 (by decide) (clS rfl (Nat.le_refl _) (rmOK_self _ _)) rfl (c_Mod_leaks (μ := setO μ 220 m) (by rw [setO_at]; exact hW)) ?_
  try simp only [setO_at, setO_ss, upM_on, so_219, so_221, so_222, so_223, so_224, so_225, uo_219, uo_221, uo_222, uo_223, uo_224, uo_225, upM_eq, upM_uu, t221_219, t221_220, t221_222, t221_223, t221_224, t221_225, v221, t222_219, t222_220, t222_221, t222_223, t222_224, t222_225, v222, t223_219, t223_220, t223_221, t223_222, t223_224, t223_225, v223, w_220, w_221, w_222, w_223, w_224, w_225]
  refine r_istoren (L' := [_, _, _]) dd_Mod_passes_6 rfl rfl ?_
  refine r_aloadn dd_Mod_passes_7 rfl ?_
  refine r_getR dd_Mod_passes_8 fl_Mod_7 (kI := 0) rfl fr_Mod_0 vk_219 R0_219_0 ?_
  refine r_sip dd_Mod_passes_11 ⟨by decide, by decide⟩ ?_
  refine r_dup2 dd_Mod_passes_14 ?_
  refine r_iald dd_Mod_passes_15 (q := 12) (by decide) vk_220 (by omega) (by show _ < ((472 : Nat) : Int); omega) ?_
  try simp only [setO_at, setO_ss, upM_on, so_219, so_221, so_222, so_223, so_224, so_225, uo_219, uo_221, uo_222, uo_223, uo_224, uo_225, upM_eq, upM_uu, t221_219, t221_220, t221_222, t221_223, t221_224, t221_225, v221, t222_219, t222_220, t222_221, t222_223, t222_224, t222_225, v222, t223_219, t223_220, t223_221, t223_222, t223_224, t223_225, v223, w_220, w_221, w_222, w_223, w_224, w_225]
  refine r_iloadn dd_Mod_passes_16 rfl ?_
  refine r_iadd dd_Mod_passes_17 ⟨by omega, by omega⟩ ?_
  refine r_iast dd_Mod_passes_18 (q := 12) (by decide) vk_220 (by omega) (by show _ < ((472 : Nat) : Int); omega) ?_
  try simp only [setO_at, setO_ss, upM_on, so_219, so_221, so_222, so_223, so_224, so_225, uo_219, uo_221, uo_222, uo_223, uo_224, uo_225, upM_eq, upM_uu, t221_219, t221_220, t221_222, t221_223, t221_224, t221_225, v221, t222_219, t222_220, t222_221, t222_223, t222_224, t222_225, v222, t223_219, t223_220, t223_221, t223_222, t223_224, t223_225, v223, w_220, w_221, w_222, w_223, w_224, w_225]
  rw [show up1 m 466 (m 466 + ticks) = psM m ticks from rfl]
  refine r_aloadn dd_Mod_passes_19 rfl ?_
  refine r_bip dd_Mod_passes_20 ⟨by decide, by decide⟩ ?_
  refine r_V1W dd_Mod_passes_22 ml_Mod_81 ok_Mod_leaks vi_Mod_leaks vk_219 (by decide) (clS rfl (Nat.le_refl _) (rmOK_self _ _)) rfl (c_Mod_leaks (μ := setO μ 220 (psM m ticks)) (by rw [setO_at]; exact hp)) ?_
  try simp only [setO_at, setO_ss, upM_on, so_219, so_221, so_222, so_223, so_224, so_225, uo_219, uo_221, uo_222, uo_223, uo_224, uo_225, upM_eq, upM_uu, t221_219, t221_220, t221_222, t221_223, t221_224, t221_225, v221, t222_219, t222_220, t222_221, t222_223, t222_224, t222_225, v222, t223_219, t223_220, t223_221, t223_222, t223_224, t223_225, v223, w_220, w_221, w_222, w_223, w_224, w_225]
  refine r_iloadn dd_Mod_passes_25 rfl ?_
  refine r_isub dd_Mod_passes_26 ⟨by omega, by omega⟩ ?_
  exact r_retI dd_Mod_passes_27 (by first | rfl | omega | exact (b2_t (by first | assumption | omega)).symm | exact (b2_f (by first | assumption | omega)).symm) rfl
theorem l_Mod_sweeps {μ : Int → Int → Int} {K : Int} (hK : K + 19 * 64 ≤ 500000000) : ∀ (n : Nat) (w a : Int) (m : Int → Int), (w + n = 64) → (0 ≤ w) → (0 ≤ a ∧ a ≤ w) → (MW (K + 19 * w) m) → SPW mi_Mod_sweeps 226 4 [some (vR 219), some (vI a), some (vI w), none] [] (st (setO μ 220 m)) (some (vI (a + swN (n) w m))) (st (setO μ 220 (swM (n) w m))) := by
  intro n
  induction n with
  | zero =>
    intro w a m h0 h1 h2 hW
    refine r_iloadn dd_Mod_sweeps_4 rfl ?_
    refine r_bip dd_Mod_sweeps_5 ⟨by decide, by decide⟩ ?_
    refine r_icmp_ge dd_Mod_sweeps_7 (fun c_7 => ?_) (fun c_7 => ?_)
    · refine r_iloadn dd_Mod_sweeps_33 rfl ?_
      exact r_retI dd_Mod_sweeps_34 (by unfold swN; omega) rfl
    · exfalso; omega
  | succ n ih =>
    intro w a m h0 h1 h2 hW
    refine r_iloadn dd_Mod_sweeps_4 rfl ?_
    refine r_bip dd_Mod_sweeps_5 ⟨by decide, by decide⟩ ?_
    refine r_icmp_ge dd_Mod_sweeps_7 (fun c_7 => ?_) (fun c_7 => ?_)
    · exfalso; omega
    · refine r_aloadn dd_Mod_sweeps_10 rfl ?_
      refine r_iloadn dd_Mod_sweeps_11 rfl ?_
      refine r_V1W dd_Mod_sweeps_12 ml_Mod_68 ok_Mod_isLeak vi_Mod_isLeak vk_219 (by decide) (clS rfl (Nat.le_refl _) (rmOK_self _ _)) rfl (c_Mod_isLeak (μ := setO μ 220 m) (by rw [setO_at]; exact hW) (by omega) (by omega)) ?_
      try simp only [setO_at, setO_ss, upM_on, so_219, so_221, so_222, so_223, so_224, so_225, uo_219, uo_221, uo_222, uo_223, uo_224, uo_225, upM_eq, upM_uu, t221_219, t221_220, t221_222, t221_223, t221_224, t221_225, v221, t222_219, t222_220, t222_221, t222_223, t222_224, t222_225, v222, t223_219, t223_220, t223_221, t223_222, t223_224, t223_225, v223, w_220, w_221, w_222, w_223, w_224, w_225]
      refine r_if_eq_b dd_Mod_sweeps_15 (fun c_15 => ?_) (fun c_15 => ?_)
      · refine r_iinc (L' := [_, _, _, _]) dd_Mod_sweeps_27 rfl ⟨by omega, by omega⟩ rfl ?_
        refine r_goto dd_Mod_sweeps_30 ?_
        first
        | (rw [swN_n (show ¬ lkM m w from c_15), swM_n (show ¬ lkM m w from c_15)]; exact ih (w + 1) a m (by omega) (by omega) ⟨by omega, by omega⟩ (MW_mono hW (by omega) (by omega)))
        | (rw [swN_y (show lkM m w from c_15), swM_y (show lkM m w from c_15)]; refine r_drop 3 (r_eqr (by omega) (ih (w + 1) (a + 1) (frM m w) (by omega) (by omega) ⟨by omega, by omega⟩ (by have h := MW_fr hW (by omega) h1 (by omega); rw [show K + 19 * w + 19 = K + 19 * (w + 1) by omega] at h; exact h))))
      · refine r_aloadn dd_Mod_sweeps_18 rfl ?_
        refine r_iloadn dd_Mod_sweeps_19 rfl ?_
        refine r_V1W dd_Mod_sweeps_20 ml_Mod_84 ok_Mod_frees vi_Mod_frees vk_219 (by decide) (clS rfl (Nat.le_refl _) (rmOK_self _ _)) rfl (c_Mod_frees hW (by omega) (by omega) (by have := c_15.1; omega)) ?_
        try simp only [setO_at, setO_ss, upM_on, so_219, so_221, so_222, so_223, so_224, so_225, uo_219, uo_221, uo_222, uo_223, uo_224, uo_225, upM_eq, upM_uu, t221_219, t221_220, t221_222, t221_223, t221_224, t221_225, v221, t222_219, t222_220, t222_221, t222_223, t222_224, t222_225, v222, t223_219, t223_220, t223_221, t223_222, t223_224, t223_225, v223, w_220, w_221, w_222, w_223, w_224, w_225]
        refine r_istoren (L' := [_, _, _, _]) dd_Mod_sweeps_23 rfl rfl ?_
        refine r_iinc (L' := [_, _, _, _]) dd_Mod_sweeps_24 rfl ⟨by omega, by omega⟩ rfl ?_
        refine r_iinc (L' := [_, _, _, _]) dd_Mod_sweeps_27 rfl ⟨by omega, by omega⟩ rfl ?_
        refine r_goto dd_Mod_sweeps_30 ?_
        first
        | (rw [swN_n (show ¬ lkM m w from c_15), swM_n (show ¬ lkM m w from c_15)]; exact ih (w + 1) a m (by omega) (by omega) ⟨by omega, by omega⟩ (MW_mono hW (by omega) (by omega)))
        | (rw [swN_y (show lkM m w from c_15), swM_y (show lkM m w from c_15)]; refine r_drop 3 (r_eqr (by omega) (ih (w + 1) (a + 1) (frM m w) (by omega) (by omega) ⟨by omega, by omega⟩ (by have h := MW_fr hW (by omega) h1 (by omega); rw [show K + 19 * w + 19 = K + 19 * (w + 1) by omega] at h; exact h))))
theorem c_Mod_sweeps {μ : Int → Int → Int} {m : Int → Int} {K : Int} (hW : MW K m) (hK : K + 1216 ≤ 500000000) : MetC mi_Mod_sweeps [vR 219] (st (setO μ 220 m)) (some (vI (swN 64 0 m))) (st (setO μ 220 (swM 64 0 m))) := by
  refine met_of ?_ (Nat.le_of_ble_eq_true rfl) (by decide) trivial (by decide) (Nat.le_of_ble_eq_true rfl)
  show SPW mi_Mod_sweeps 226 0 [some (vR 219), none, none, none] [] (st (setO μ 220 m)) (some (vI (swN 64 0 m))) (st (setO μ 220 (swM 64 0 m)))
  refine r_iconst dd_Mod_sweeps_0 ⟨by decide, by decide⟩ ?_
  refine r_istoren (L' := [_, _, _, _]) dd_Mod_sweeps_1 rfl rfl ?_
  refine r_iconst dd_Mod_sweeps_2 ⟨by decide, by decide⟩ ?_
  refine r_istoren (L' := [_, _, _, _]) dd_Mod_sweeps_3 rfl rfl ?_
  exact r_eqr (Int.zero_add _) (l_Mod_sweeps (K := K) (by omega) 64 0 0 m (by decide) (by decide) ⟨by decide, by decide⟩ (by rw [Int.mul_zero, Int.add_zero]; exact hW))
