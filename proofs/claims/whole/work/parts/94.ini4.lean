/-! the constructor of the reference -/
theorem rmM {t : Nat} (h : t ≤ 226) : rmOK mi_Mod_init 220 t := rmOK_mono (t := 226) ⟨by decide +kernel, by decide +kernel⟩ h
theorem l_Mod_i1 {ρ : Int → Int → Option Int} (hr : ρ 219 0 = some 220) : ∀ (n : Nat) (w : Int) (μ : Int → Int → Int), w + n = 64 → 0 ≤ w → ∃ μ', (∀ (r : Option Vv) (Mf : Mm), SPW mi_Mod_init 220 116 [some (vR 219), none] [] (ρ, 226, μ') r Mf → SPW mi_Mod_init 220 69 [some (vR 219), some (vI w)] [] (ρ, 226, μ) r Mf) ∧ (∀ o k, (o ≠ 220 ∨ k < 128 + w ∨ (192 ≤ k ∧ k < 192 + w) ∨ 256 ≤ k) → μ' o k = μ o k) ∧ (∀ j, w ≤ j → j < 64 → μ' 220 (192 + j) = -5 ∧ μ' 220 (128 + j) = if j % 16 = 0 then 16 else 0) := by
  intro n
  induction n with
  | zero =>
    intro w μ hi i0
    refine ⟨μ, fun r Mf kk => ?_, fun o k a => rfl, fun j a c => by omega⟩
    refine r_iloadn dd_Mod_init_69 rfl ?_
    refine r_bip dd_Mod_init_70 ⟨by decide, by decide⟩ ?_
    refine r_icmp_ge dd_Mod_init_72 (fun c_72 => ?_) (fun c_72 => ?_)
    · exact r_drop 1 kk
    · exfalso; omega
  | succ n ih =>
    intro w μ hi i0
    by_cases h4 : w % 16 = 0
    · obtain ⟨μ', g1, g3, g5⟩ := ih (w + 1) (upM (upM μ 220 (192 + w) (-5)) 220 (128 + w) 16) (by omega) (by omega)
      refine ⟨μ', fun r Mf kk => ?_, fun o k a => ?_, fun j a c => ?_⟩
      · skip
        refine r_iloadn dd_Mod_init_69 rfl ?_
        refine r_bip dd_Mod_init_70 ⟨by decide, by decide⟩ ?_
        refine r_icmp_ge dd_Mod_init_72 (fun c_72 => ?_) (fun c_72 => ?_)
        · exfalso; omega
        · refine r_aloadn dd_Mod_init_75 rfl ?_
          refine r_getR dd_Mod_init_76 fl_Mod_7 (kI := 0) rfl fr_Mod_0 vk_219 hr ?_
          refine r_sip dd_Mod_init_79 ⟨by decide, by decide⟩ ?_
          refine r_iloadn dd_Mod_init_82 rfl ?_
          refine r_iadd dd_Mod_init_83 ⟨by omega, by omega⟩ ?_
          refine r_bip dd_Mod_init_84 ⟨by decide, by decide⟩ ?_
          refine r_iast dd_Mod_init_86 (q := 12) (by decide) vk_220 (by omega) (by show _ < ((472 : Nat) : Int); omega) ?_
          refine r_aloadn dd_Mod_init_87 rfl ?_
          refine r_getR dd_Mod_init_88 fl_Mod_7 (kI := 0) rfl fr_Mod_0 vk_219 hr ?_
          refine r_sip dd_Mod_init_91 ⟨by decide, by decide⟩ ?_
          refine r_iloadn dd_Mod_init_94 rfl ?_
          refine r_iadd dd_Mod_init_95 ⟨by omega, by omega⟩ ?_
          refine r_iloadn dd_Mod_init_96 rfl ?_
          refine r_bip dd_Mod_init_97 ⟨by decide, by decide⟩ ?_
          refine r_irem dd_Mod_init_99 (by omega) (by omega) ?_
          refine r_if_ne dd_Mod_init_100 (fun c_100 => ?_) (fun c_100 => ?_)
          · exfalso; omega
          · refine r_bip dd_Mod_init_103 ⟨by decide, by decide⟩ ?_
            refine r_goto dd_Mod_init_105 ?_
            refine r_iast dd_Mod_init_109 (q := 12) (by decide) vk_220 (by omega) (by show _ < ((472 : Nat) : Int); omega) ?_
            refine r_iinc (L' := [_, _]) dd_Mod_init_110 rfl ⟨by omega, by omega⟩ rfl ?_
            refine r_goto dd_Mod_init_113 ?_
            exact g1 r Mf kk
      · rw [g3 o k (by omega), upM_ne (by omega), upM_ne (by omega)]
      · by_cases e : j = w
        · subst e
          refine ⟨by rw [g3 220 (192 + j) (by omega), upM_ne (Or.inr (by omega)), upM_eq], by rw [g3 220 (128 + j) (by omega), upM_eq, if_pos h4]⟩
        · exact g5 j (by omega) c
    · obtain ⟨μ', g1, g3, g5⟩ := ih (w + 1) (upM (upM μ 220 (192 + w) (-5)) 220 (128 + w) 0) (by omega) (by omega)
      refine ⟨μ', fun r Mf kk => ?_, fun o k a => ?_, fun j a c => ?_⟩
      · skip
        refine r_iloadn dd_Mod_init_69 rfl ?_
        refine r_bip dd_Mod_init_70 ⟨by decide, by decide⟩ ?_
        refine r_icmp_ge dd_Mod_init_72 (fun c_72 => ?_) (fun c_72 => ?_)
        · exfalso; omega
        · refine r_aloadn dd_Mod_init_75 rfl ?_
          refine r_getR dd_Mod_init_76 fl_Mod_7 (kI := 0) rfl fr_Mod_0 vk_219 hr ?_
          refine r_sip dd_Mod_init_79 ⟨by decide, by decide⟩ ?_
          refine r_iloadn dd_Mod_init_82 rfl ?_
          refine r_iadd dd_Mod_init_83 ⟨by omega, by omega⟩ ?_
          refine r_bip dd_Mod_init_84 ⟨by decide, by decide⟩ ?_
          refine r_iast dd_Mod_init_86 (q := 12) (by decide) vk_220 (by omega) (by show _ < ((472 : Nat) : Int); omega) ?_
          refine r_aloadn dd_Mod_init_87 rfl ?_
          refine r_getR dd_Mod_init_88 fl_Mod_7 (kI := 0) rfl fr_Mod_0 vk_219 hr ?_
          refine r_sip dd_Mod_init_91 ⟨by decide, by decide⟩ ?_
          refine r_iloadn dd_Mod_init_94 rfl ?_
          refine r_iadd dd_Mod_init_95 ⟨by omega, by omega⟩ ?_
          refine r_iloadn dd_Mod_init_96 rfl ?_
          refine r_bip dd_Mod_init_97 ⟨by decide, by decide⟩ ?_
          refine r_irem dd_Mod_init_99 (by omega) (by omega) ?_
          refine r_if_ne dd_Mod_init_100 (fun c_100 => ?_) (fun c_100 => ?_)
          · refine r_iconst dd_Mod_init_108 ⟨by decide, by decide⟩ ?_
            refine r_iast dd_Mod_init_109 (q := 12) (by decide) vk_220 (by omega) (by show _ < ((472 : Nat) : Int); omega) ?_
            refine r_iinc (L' := [_, _]) dd_Mod_init_110 rfl ⟨by omega, by omega⟩ rfl ?_
            refine r_goto dd_Mod_init_113 ?_
            exact g1 r Mf kk
          · exfalso; omega
      · rw [g3 o k (by omega), upM_ne (by omega), upM_ne (by omega)]
      · by_cases e : j = w
        · subst e
          refine ⟨by rw [g3 220 (192 + j) (by omega), upM_ne (Or.inr (by omega)), upM_eq], by rw [g3 220 (128 + j) (by omega), upM_eq, if_neg h4]⟩
        · exact g5 j (by omega) c
theorem l_Mod_i2 {ρ : Int → Int → Option Int} (hr : ρ 219 0 = some 220) : ∀ (n : Nat) (w : Int) (μ : Int → Int → Int), w + n = 6 → 0 ≤ w → ∃ μ', (∀ (r : Option Vv) (Mf : Mm), SPW mi_Mod_init 220 142 [some (vR 219), none] [] (ρ, 226, μ') r Mf → SPW mi_Mod_init 220 118 [some (vR 219), some (vI w)] [] (ρ, 226, μ) r Mf) ∧ (∀ o k, (o ≠ 220 ∨ k < 454 + w ∨ 460 ≤ k) → μ' o k = μ o k) ∧ (∀ j, w ≤ j → j < 6 → μ' 220 (454 + j) = 32) := by
  intro n
  induction n with
  | zero =>
    intro w μ hi i0
    refine ⟨μ, fun r Mf kk => ?_, fun o k a => rfl, fun j a c => by omega⟩
    refine r_iloadn dd_Mod_init_118 rfl ?_
    refine r_bip dd_Mod_init_119 ⟨by decide, by decide⟩ ?_
    refine r_icmp_ge dd_Mod_init_121 (fun c_121 => ?_) (fun c_121 => ?_)
    · exact r_drop 1 kk
    · exfalso; omega
  | succ n ih =>
    intro w μ hi i0
    obtain ⟨μ', g1, g3, g5⟩ := ih (w + 1) (upM μ 220 (454 + w) 32) (by omega) (by omega)
    refine ⟨μ', fun r Mf kk => ?_, fun o k a => ?_, fun j a c => ?_⟩
    · skip
      refine r_iloadn dd_Mod_init_118 rfl ?_
      refine r_bip dd_Mod_init_119 ⟨by decide, by decide⟩ ?_
      refine r_icmp_ge dd_Mod_init_121 (fun c_121 => ?_) (fun c_121 => ?_)
      · exfalso; omega
      · refine r_aloadn dd_Mod_init_124 rfl ?_
        refine r_getR dd_Mod_init_125 fl_Mod_7 (kI := 0) rfl fr_Mod_0 vk_219 hr ?_
        refine r_sip dd_Mod_init_128 ⟨by decide, by decide⟩ ?_
        refine r_iloadn dd_Mod_init_131 rfl ?_
        refine r_iadd dd_Mod_init_132 ⟨by omega, by omega⟩ ?_
        refine r_bip dd_Mod_init_133 ⟨by decide, by decide⟩ ?_
        refine r_iast dd_Mod_init_135 (q := 12) (by decide) vk_220 (by omega) (by show _ < ((472 : Nat) : Int); omega) ?_
        refine r_iinc (L' := [_, _]) dd_Mod_init_136 rfl ⟨by omega, by omega⟩ rfl ?_
        refine r_goto dd_Mod_init_139 ?_
        exact g1 r Mf kk
    · rw [g3 o k (by omega), upM_ne (by omega)]
    · by_cases e : j = w
      · subst e
        rw [g3 220 (454 + j) (by omega), upM_eq]
      · exact g5 j (by omega) c
/-- the row as it was made -/
def rwI (m : Int → Int) : Prop := (∀ j, 0 ≤ j → j < 64 → m (192 + j) = -5 ∧ m (128 + j) = if j % 16 = 0 then 16 else 0) ∧ (∀ j, 0 ≤ j → j < 6 → m (454 + j) = 32) ∧ m 467 = 50 ∧ (∀ k, (k < 128 ∨ (256 ≤ k ∧ k < 454) ∨ (460 ≤ k ∧ k ≠ 467)) → m k = 0)
theorem c_Mod_init {ρ : Int → Int → Option Int} {μ : Int → Int → Int} (hF : FZ ρ μ 219) : ∃ ρ' μ', MetC mi_Mod_init [vR 219] (ρ, 220, μ) none (ρ', 226, μ') ∧ (∀ o k, o < 219 → ρ' o k = ρ o k ∧ μ' o k = μ o k) ∧ (ρ' 219 0 = some 220 ∧ ρ' 219 1 = some 221 ∧ ρ' 219 2 = some 222 ∧ ρ' 219 4 = some 223 ∧ ρ' 219 6 = some 224 ∧ ρ' 219 7 = some 225) ∧ (∀ o k, 221 ≤ o → μ' o k = 0) ∧ (∀ k, k ≠ 9 → k ≠ 10 → μ' 219 k = 0) ∧ μ' 219 9 = -5 ∧ μ' 219 10 = -5 ∧ rwI (μ' 220) := by
  have hr : (upR (upR (upR (upR (upR (upR (ρ) 219 0 (some 220)) 219 1 (some 221)) 219 2 (some 222)) 219 4 (some 223)) 219 6 (some 224)) 219 7 (some 225)) 219 0 = some 220 := by rw [upR_ne (Or.inr (by decide)), upR_ne (Or.inr (by decide)), upR_ne (Or.inr (by decide)), upR_ne (Or.inr (by decide)), upR_ne (Or.inr (by decide)), upR_eq]
  obtain ⟨μ1, a1, a2, a3⟩ := l_Mod_i1 hr 64 0 (upM (upM μ 219 9 (-5)) 219 10 (-5)) (by decide) (Int.le_refl _)
  obtain ⟨μ2, d1, d2, d3⟩ := l_Mod_i2 hr 6 0 μ1 (by decide) (Int.le_refl _)
  have z : ∀ o k, 219 ≤ o → μ o k = 0 := fun o k a => (hF o k a).1
  refine ⟨_, upM μ2 220 467 50, ?_, fun o k a => ⟨?_, ?_⟩, ⟨hr, ?_, ?_, ?_, ?_, ?_⟩, fun o k a => ?_, fun k a c => ?_, ?_, ?_, fun j j0 j1 => ⟨?_, ?_⟩, fun j j0 j1 => ?_, upM_eq, fun k a => ?_⟩
  · refine met_of ?_ (Nat.le_of_ble_eq_true rfl) (by decide) trivial (by decide) (show 0 < 220 by decide)
    show SPW mi_Mod_init 220 0 [some (vR 219), none] [] (ρ, 220, μ) none (_, 226, upM μ2 220 467 50)
    refine r_aloadn dd_Mod_init_0 rfl ?_
    refine r_obj dd_Mod_init_1 ml_Mod_1 ⟨Nat.le_of_ble_eq_true rfl, Nat.le_of_ble_eq_true rfl⟩ ?_
    refine r_aloadn dd_Mod_init_4 rfl ?_
    refine r_sip dd_Mod_init_5 ⟨by decide, by decide⟩ ?_
    refine r_nwA dd_Mod_init_8 ac_int (q := 12) ⟨rfl, Or.inl ⟨rfl, rfl⟩⟩ (by decide) (o := 220) (by decide) (by decide) ⟨by decide, by decide⟩ rfl (by decide) (hF.mono (t' := 220) (by decide)) (rmM (by decide)) ?_
    refine r_putRF dd_Mod_init_10 fl_Mod_7 (kI := 0) rfl fr_Mod_0 ff_Mod_0 rfl rfl pr_Mod_0 ⟨by decide, by decide, by decide⟩ ?_
    refine r_aloadn dd_Mod_init_13 rfl ?_
    refine r_sip dd_Mod_init_14 ⟨by decide, by decide⟩ ?_
    refine r_nwA dd_Mod_init_17 ac_int (q := 12) ⟨rfl, Or.inl ⟨rfl, rfl⟩⟩ (by decide) (o := 221) (by decide) (by decide) ⟨by decide, by decide⟩ rfl (by decide) (FZ.upR (hF.mono (t' := 221) (by decide)) (by decide)) (rmM (by decide)) ?_
    refine r_putRF dd_Mod_init_19 fl_Mod_13 (kI := 1) rfl fr_Mod_1 ff_Mod_1 rfl rfl pr_Mod_1 ⟨by decide, by decide, by decide⟩ ?_
    refine r_aloadn dd_Mod_init_22 rfl ?_
    refine r_sip dd_Mod_init_23 ⟨by decide, by decide⟩ ?_
    refine r_nwA dd_Mod_init_26 ac_int (q := 13) ⟨rfl, Or.inl ⟨rfl, rfl⟩⟩ (by decide) (o := 222) (by decide) (by decide) ⟨by decide, by decide⟩ rfl (by decide) (FZ.upR (FZ.upR (hF.mono (t' := 222) (by decide)) (by decide)) (by decide)) (rmM (by decide)) ?_
    refine r_putRF dd_Mod_init_28 fl_Mod_16 (kI := 2) rfl fr_Mod_2 ff_Mod_2 rfl rfl pr_Mod_2 ⟨by decide, by decide, by decide⟩ ?_
    refine r_aloadn dd_Mod_init_31 rfl ?_
    refine r_sip dd_Mod_init_32 ⟨by decide, by decide⟩ ?_
    refine r_nwA dd_Mod_init_35 ac_int (q := 12) ⟨rfl, Or.inl ⟨rfl, rfl⟩⟩ (by decide) (o := 223) (by decide) (by decide) ⟨by decide, by decide⟩ rfl (by decide) (FZ.upR (FZ.upR (FZ.upR (hF.mono (t' := 223) (by decide)) (by decide)) (by decide)) (by decide)) (rmM (by decide)) ?_
    refine r_putRF dd_Mod_init_37 fl_Mod_19 (kI := 4) rfl fr_Mod_4 ff_Mod_4 rfl rfl pr_Mod_4 ⟨by decide, by decide, by decide⟩ ?_
    refine r_aloadn dd_Mod_init_40 rfl ?_
    refine r_iconst dd_Mod_init_41 ⟨by decide, by decide⟩ ?_
    refine r_nwA dd_Mod_init_42 ac_int (q := 14) ⟨rfl, Or.inl ⟨rfl, rfl⟩⟩ (by decide) (o := 224) (by decide) (by decide) ⟨by decide, by decide⟩ rfl (by decide) (FZ.upR (FZ.upR (FZ.upR (FZ.upR (hF.mono (t' := 224) (by decide)) (by decide)) (by decide)) (by decide)) (by decide)) (rmM (by decide)) ?_
    refine r_putRF dd_Mod_init_44 fl_Mod_22 (kI := 6) rfl fr_Mod_6 ff_Mod_6 rfl rfl pr_Mod_6 ⟨by decide, by decide, by decide⟩ ?_
    refine r_aloadn dd_Mod_init_47 rfl ?_
    refine r_bip dd_Mod_init_48 ⟨by decide, by decide⟩ ?_
    refine r_nwA dd_Mod_init_50 ac_int (q := 15) ⟨rfl, Or.inl ⟨rfl, rfl⟩⟩ (by decide) (o := 225) (by decide) (by decide) ⟨by decide, by decide⟩ rfl (by decide) (FZ.upR (FZ.upR (FZ.upR (FZ.upR (FZ.upR (hF.mono (t' := 225) (by decide)) (by decide)) (by decide)) (by decide)) (by decide)) (by decide)) (rmM (by decide)) ?_
    refine r_putRF dd_Mod_init_52 fl_Mod_25 (kI := 7) rfl fr_Mod_7 ff_Mod_7 rfl rfl pr_Mod_7 ⟨by decide, by decide, by decide⟩ ?_
    refine r_aloadn dd_Mod_init_55 rfl ?_
    refine r_bip dd_Mod_init_56 ⟨by decide, by decide⟩ ?_
    refine r_putI dd_Mod_init_58 fl_Mod_28 (kI := 9) rfl fc_Mod_9 ff_Mod_9 (pi_Mod_9 _) ⟨by decide, by decide, by decide⟩ ?_
    refine r_aloadn dd_Mod_init_61 rfl ?_
    refine r_bip dd_Mod_init_62 ⟨by decide, by decide⟩ ?_
    refine r_putI dd_Mod_init_64 fl_Mod_32 (kI := 10) rfl fc_Mod_10 ff_Mod_10 (pi_Mod_10 _) ⟨by decide, by decide, by decide⟩ ?_
    refine r_iconst dd_Mod_init_67 ⟨by decide, by decide⟩ ?_
    refine r_istoren (L' := [_, _]) dd_Mod_init_68 rfl rfl ?_
    refine a1 _ _ ?_
    refine r_iconst dd_Mod_init_116 ⟨by decide, by decide⟩ ?_
    refine r_istoren (L' := [_, _]) dd_Mod_init_117 rfl rfl ?_
    refine d1 _ _ ?_
    refine r_aloadn dd_Mod_init_142 rfl ?_
    refine r_getR dd_Mod_init_143 fl_Mod_7 (kI := 0) rfl fr_Mod_0 vk_219 hr ?_
    refine r_sip dd_Mod_init_146 ⟨by decide, by decide⟩ ?_
    refine r_bip dd_Mod_init_149 ⟨by decide, by decide⟩ ?_
    refine r_iast dd_Mod_init_151 (q := 12) (by decide) vk_220 (by omega) (by show _ < ((472 : Nat) : Int); omega) ?_
    exact r_retV dd_Mod_init_152 rfl
  · rw [upR_ne (Or.inl (by omega)), upR_ne (Or.inl (by omega)), upR_ne (Or.inl (by omega)), upR_ne (Or.inl (by omega)), upR_ne (Or.inl (by omega)), upR_ne (Or.inl (by omega))]
  · rw [upM_ne (Or.inl (by omega)), d2 o k (Or.inl (by omega)), a2 o k (Or.inl (by omega)), upM_ne (Or.inl (by omega)), upM_ne (Or.inl (by omega))]
  · rw [upR_ne (Or.inr (by decide)), upR_ne (Or.inr (by decide)), upR_ne (Or.inr (by decide)), upR_ne (Or.inr (by decide)), upR_eq]
  · rw [upR_ne (Or.inr (by decide)), upR_ne (Or.inr (by decide)), upR_ne (Or.inr (by decide)), upR_eq]
  · rw [upR_ne (Or.inr (by decide)), upR_ne (Or.inr (by decide)), upR_eq]
  · rw [upR_ne (Or.inr (by decide)), upR_eq]
  · rw [upR_eq]
  · rw [upM_ne (Or.inl (by omega)), d2 o k (Or.inl (by omega)), a2 o k (Or.inl (by omega)), upM_ne (Or.inl (by omega)), upM_ne (Or.inl (by omega))]
    exact z o k (by omega)
  · rw [upM_ne (Or.inl (by decide)), d2 219 k (Or.inl (by decide)), a2 219 k (Or.inl (by decide)), upM_ne (Or.inr c), upM_ne (Or.inr a)]
    exact z 219 k (by decide)
  · rw [upM_ne (Or.inl (by decide)), d2 219 9 (Or.inl (by decide)), a2 219 9 (Or.inl (by decide)), upM_ne (Or.inr (by decide)), upM_eq]
  · rw [upM_ne (Or.inl (by decide)), d2 219 10 (Or.inl (by decide)), a2 219 10 (Or.inl (by decide)), upM_eq]
  · rw [upM_ne (Or.inr (by omega)), d2 220 (192 + j) (by omega)]
    exact (a3 j j0 j1).1
  · rw [upM_ne (Or.inr (by omega)), d2 220 (128 + j) (by omega)]
    exact (a3 j j0 j1).2
  · rw [upM_ne (Or.inr (by omega))]
    exact d3 j j0 j1
  · rw [upM_ne (Or.inr (by omega)), d2 220 k (by omega), a2 220 k (by omega), upM_ne (Or.inl (by decide)), upM_ne (Or.inl (by decide))]
    exact z 220 k (by decide)
