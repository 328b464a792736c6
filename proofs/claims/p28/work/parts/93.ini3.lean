/-! the constructors of History and Text -/
theorem rfS_fr {ρ ρ' : Int → Int → Option Int} {b : Int} (h : rfS ρ b) (e : ∀ o k, b ≤ o → o < b + 26 → ρ' o k = ρ o k) : rfS ρ' b := by
  obtain ⟨h1, h2, h3, h4, h5⟩ := h
  exact ⟨(e _ _ (by omega) (by omega)).trans h1, (e _ _ (by omega) (by omega)).trans h2, (e _ _ (by omega) (by omega)).trans h3, fun i a c => (e _ _ (by omega) (by omega)).trans (h4 i a c), fun i a c => (e _ _ (by omega) (by omega)).trans (h5 i a c)⟩
theorem stI_fr {μ μ' : Int → Int → Int} {b : Int} (h : stI μ b) (e : ∀ o k, b ≤ o → o < b + 26 → μ' o k = μ o k) : stI μ' b := by
  obtain ⟨h1, h2, h3, h4, h5, h6, h7, h8, h9⟩ := h
  refine ⟨fun i a c => ?_, fun w => (e _ _ (by omega) (by omega)).trans (h2 w), fun i a c => ?_, (e _ _ (by omega) (by omega)).trans h4, (e _ _ (by omega) (by omega)).trans h5, (e _ _ (by omega) (by omega)).trans h6, (e _ _ (by omega) (by omega)).trans h7, (e _ _ (by omega) (by omega)).trans h8, (e _ _ (by omega) (by omega)).trans h9⟩
  · have q := h1 i a c
    unfold bkI at q ⊢
    rw [e _ 0 (by omega) (by omega), e _ 1 (by omega) (by omega), e _ 2 (by omega) (by omega), e _ 3 (by omega) (by omega), e _ 4 (by omega) (by omega), e _ 5 (by omega) (by omega)]
    exact q
  · have q := h3 i a c
    unfold tkI at q ⊢
    rw [e _ 0 (by omega) (by omega), e _ 1 (by omega) (by omega), e _ 2 (by omega) (by omega)]
    exact q
theorem rmH {t : Nat} (h : t ≤ 185) : rmOK mi_His_init 80 t := rmOK_mono (t := 185) ⟨by decide +kernel, by decide +kernel⟩ h
theorem rmT {t : Nat} (h : t ≤ 218) : rmOK mi_Txt_init 186 t := rmOK_mono (t := 218) ⟨by decide +kernel, by decide +kernel⟩ h
theorem l_His_i : ∀ (n : Nat) (i : Int) (t : Nat) (ρ : Int → Int → Option Int) (μ : Int → Int → Int), i + n = 4 → 0 ≤ i → (t : Int) = 81 + 26 * i → FZ ρ μ (81 + 26 * i) → ρ 79 0 = some 80 → ∃ ρ' μ', (∀ (r : Option Vv) (Mf : Mm), SPW mi_His_init 80 38 [some (vR 79), none] [] (ρ', 185, μ') r Mf → SPW mi_His_init 80 14 [some (vR 79), some (vI i)] [] (ρ, t, μ) r Mf) ∧ FZ ρ' μ' 185 ∧ (∀ o k, (o < 80 ∨ (80 < o ∧ o < 81 + 26 * i)) → ρ' o k = ρ o k ∧ μ' o k = μ o k) ∧ (∀ k, k < i → ρ' 80 k = ρ 80 k) ∧ (∀ j, i ≤ j → j < 4 → ρ' 80 j = some (81 + 26 * j) ∧ rfS ρ' (81 + 26 * j) ∧ stI μ' (81 + 26 * j)) := by
  intro n
  induction n with
  | zero =>
    intro i t ρ μ hi i0 ht hF hr
    have e : t = 185 := by omega
    subst e
    refine ⟨ρ, μ, fun r Mf kk => ?_, hF.mono (by omega), fun o k a => ⟨rfl, rfl⟩, fun k a => rfl, fun j a c => by omega⟩
    refine r_iloadn dd_His_init_14 rfl ?_
    refine r_iconst dd_His_init_15 ⟨by decide, by decide⟩ ?_
    refine r_icmp_ge dd_His_init_16 (fun c_16 => ?_) (fun c_16 => ?_)
    · exact r_drop 1 kk
    · exfalso; omega
  | succ n ih =>
    intro i t ρ μ hi i0 ht hF hr
    have hb : stB (81 + 26 * i) := stB_h i0 (by omega)
    have e1 : ((t + 1 : Nat) : Int) = 81 + 26 * i + 1 := by omega
    obtain ⟨ρ1, μ1, c1, z1, f1, r1, s1⟩ := c_Sta_init hb e1 hF
    have hv79 : vk t 79 2 := ⟨by decide, by omega, by decide⟩
    have hv80 : vk (t + 1 + 25) 80 19 := ⟨by decide, by omega, by decide⟩
    have hvo : vk (t + 1 + 25) (81 + 26 * i) 3 := vkSS hb (j := 0) (by omega) (by decide) (by decide) (by omega) rfl
    have hF1 : FZ (upR ρ1 80 i (some (81 + 26 * i))) μ1 (81 + 26 * (i + 1)) := (z1.mono (by omega)).upR (by omega)
    obtain ⟨ρ', μ', g1, g2, g3, g4, g5⟩ := ih (i + 1) (t + 1 + 25) _ _ (by omega) (by omega) (by omega) hF1 (by rw [upR_ne (Or.inl (by omega)), (f1 79 0 (by omega)).1]; exact hr)
    have g6 : ∀ o k, 81 + 26 * i ≤ o → o < 81 + 26 * i + 26 → ρ' o k = ρ1 o k ∧ μ' o k = μ1 o k := fun o k a c => by
      have q := g3 o k (Or.inr ⟨by omega, by omega⟩)
      rw [upR_ne (Or.inl (by omega))] at q
      exact q
    refine ⟨ρ', μ', fun r Mf kk => ?_, g2, fun o k a => ?_, fun k a => ?_, fun j a c => ?_⟩
    refine r_iloadn dd_His_init_14 rfl ?_
    refine r_iconst dd_His_init_15 ⟨by decide, by decide⟩ ?_
    refine r_icmp_ge dd_His_init_16 (fun c_16 => ?_) (fun c_16 => ?_)
    · exfalso; omega
    · refine r_aloadn dd_His_init_19 rfl ?_
      refine r_getR dd_His_init_20 fl_His_11 (kI := 0) rfl fr_His_0 hv79 hr ?_
      refine r_iloadn dd_His_init_23 rfl ?_
      refine r_nwO dd_His_init_24 cl_His_9 is_Sta ini_Sta (by decide) (o := 81 + 26 * i) (by omega) hvo.2.2 ⟨by omega, by omega⟩ hF (rmH (by omega)) ?_
      refine r_dup dd_His_init_27 ?_
      refine r_I0N dd_His_init_28 ml_His_17 ok_Sta_init in_Sta_init ⟨rfl, rfl⟩ (clN rfl (by show 25 = t + 1 + 25 - (t + 1); omega) (rmS_26 hb e1).2.symm (by omega) (by omega) (rmH (by omega))) rfl c1 ?_
      refine r_aast dd_His_init_31 (q := 19) (by decide) hv80 (by omega) (by show _ < ((4 : Nat) : Int); omega) (by decide) hvo rfl ?_
      refine r_iinc (L' := [_, _]) dd_His_init_32 rfl ⟨by omega, by omega⟩ rfl ?_
      refine r_goto dd_His_init_35 ?_
      exact g1 r Mf kk
    · have q := g3 o k (by omega)
      have p := f1 o k (by omega)
      rw [upR_ne (Or.inl (by omega)), p.1, p.2] at q
      exact q
    · rw [g4 k (by omega), upR_ne (Or.inr (by omega)), (f1 80 k (by omega)).1]
    · by_cases e : j = i
      · subst e
        exact ⟨by rw [g4 j (by omega), upR_eq], rfS_fr r1 (fun o k a c => (g6 o k a c).1), stI_fr s1 (fun o k a c => (g6 o k a c).2)⟩
      · exact g5 j (by omega) c
theorem c_His_init {ρ : Int → Int → Option Int} {μ : Int → Int → Int} (hF : FZ ρ μ 79) : ∃ ρ' μ', MetC mi_His_init [vR 79] (ρ, 80, μ) none (ρ', 185, μ') ∧ FZ ρ' μ' 185 ∧ (∀ o k, o < 79 → ρ' o k = ρ o k ∧ μ' o k = μ o k) ∧ ρ' 79 0 = some 80 ∧ (∀ k, μ' 79 k = 0) ∧ (∀ j, 0 ≤ j → j < 4 → ρ' 80 j = some (81 + 26 * j) ∧ rfS ρ' (81 + 26 * j) ∧ stI μ' (81 + 26 * j)) := by
  have hF1 : FZ (upR ρ 79 0 (some 80)) μ (81 + 26 * 0) := (hF.mono (by omega)).upR (by omega)
  obtain ⟨ρ', μ', g1, g2, g3, g4, g5⟩ := l_His_i 4 0 81 _ _ (by decide) (Int.le_refl _) (by decide) hF1 upR_eq
  refine ⟨ρ', μ', ?_, g2, fun o k a => ?_, by rw [(g3 79 0 (by omega)).1, upR_eq], fun k => by rw [(g3 79 k (by omega)).2]; exact (hF 79 k (by omega)).1, fun j a c => g5 j a c⟩
  · refine met_of ?_ (Nat.le_of_ble_eq_true rfl) (by decide) trivial (by decide) (show 0 < 80 by decide)
    show SPW mi_His_init 80 0 [some (vR 79), none] [] (ρ, 80, μ) none (ρ', 185, μ')
    refine r_aloadn dd_His_init_0 rfl ?_
    refine r_obj dd_His_init_1 ml_His_3 ⟨Nat.le_of_ble_eq_true rfl, Nat.le_of_ble_eq_true rfl⟩ ?_
    refine r_aloadn dd_His_init_4 rfl ?_
    refine r_iconst dd_His_init_5 ⟨by decide, by decide⟩ ?_
    refine r_nwR dd_His_init_6 cl_His_9 (ci := 3) (q := 19) (Or.inr (Or.inr (Or.inl rfl))) ⟨rfl, by decide, by decide⟩ (by decide) (o := 80) (by decide) (by decide) ⟨by decide, by decide⟩ rfl (by decide) (hF.mono (by decide)) (rmH (by decide)) ?_
    refine r_putRF dd_His_init_9 fl_His_11 (kI := 0) rfl fr_His_0 ff_His_0 rfl rfl pr_His_0 ⟨by decide, by decide, by decide⟩ ?_
    refine r_iconst dd_His_init_12 ⟨by decide, by decide⟩ ?_
    refine r_istoren (L' := [_, _]) dd_His_init_13 rfl rfl ?_
    refine g1 _ _ ?_
    exact r_retV dd_His_init_38 rfl
  · have q := g3 o k (by omega)
    rw [upR_ne (Or.inl (by omega))] at q
    exact q
theorem l_Txt_i : ∀ (n : Nat) (i : Int) (t : Nat) (ρ : Int → Int → Option Int) (μ : Int → Int → Int), i + n = 30 → 0 ≤ i → (t : Int) = 188 + i → FZ ρ μ (188 + i) → ρ 185 2 = some 187 → ∃ ρ', (∀ (r : Option Vv) (Mf : Mm), SPW mi_Txt_init 186 48 [some (vR 185), none] [] (ρ', 218, μ) r Mf → SPW mi_Txt_init 186 23 [some (vR 185), some (vI i)] [] (ρ, t, μ) r Mf) ∧ FZ ρ' μ 218 ∧ (∀ o k, o ≠ 187 → ρ' o k = ρ o k) ∧ (∀ k, k < i → ρ' 187 k = ρ 187 k) ∧ (∀ j, i ≤ j → j < 30 → ρ' 187 j = some (188 + j)) := by
  intro n
  induction n with
  | zero =>
    intro i t ρ μ hi i0 ht hF hr
    have e : t = 218 := by omega
    subst e
    refine ⟨ρ, fun r Mf kk => ?_, hF.mono (by omega), fun o k a => rfl, fun k a => rfl, fun j a c => by omega⟩
    refine r_iloadn dd_Txt_init_23 rfl ?_
    refine r_bip dd_Txt_init_24 ⟨by decide, by decide⟩ ?_
    refine r_icmp_ge dd_Txt_init_26 (fun c_26 => ?_) (fun c_26 => ?_)
    · exact r_drop 1 kk
    · exfalso; omega
  | succ n ih =>
    intro i t ρ μ hi i0 ht hF hr
    have hv185 : vk t 185 5 := ⟨by decide, by omega, by decide⟩
    have hv187 : vk (t + 1) 187 20 := ⟨by decide, by omega, by decide⟩
    have hvo : vk (t + 1) (188 + i) 1 := ⟨by omega, by omega, (vk_cmd i0 (by omega)).2.2⟩
    have hF1 : FZ (upR ρ 187 i (some (188 + i))) μ (188 + (i + 1)) := (hF.mono (by omega)).upR (by omega)
    obtain ⟨ρ', g1, g2, g3, g4, g5⟩ := ih (i + 1) (t + 1) _ _ (by omega) (by omega) (by omega) hF1 (by rw [upR_ne (Or.inl (by omega))]; exact hr)
    refine ⟨ρ', fun r Mf kk => ?_, g2, fun o k a => ?_, fun k a => ?_, fun j a c => ?_⟩
    refine r_iloadn dd_Txt_init_23 rfl ?_
    refine r_bip dd_Txt_init_24 ⟨by decide, by decide⟩ ?_
    refine r_icmp_ge dd_Txt_init_26 (fun c_26 => ?_) (fun c_26 => ?_)
    · exfalso; omega
    · refine r_aloadn dd_Txt_init_29 rfl ?_
      refine r_getR dd_Txt_init_30 fl_Txt_17 (kI := 2) rfl fr_Txt_2 hv185 hr ?_
      refine r_iloadn dd_Txt_init_33 rfl ?_
      refine r_nwO dd_Txt_init_34 cl_Txt_15 is_Cmd ini_Cmd (by decide) (o := 188 + i) (by omega) hvo.2.2 ⟨by omega, by omega⟩ hF (rmT (by omega)) ?_
      refine r_dup dd_Txt_init_37 ?_
      refine r_I0NN dd_Txt_init_38 ml_Txt_21 ok_Cmd_init in_Cmd_init ⟨rfl, rfl⟩ (clN rfl (Nat.sub_self _).symm (Nat.sub_self _).symm (by omega) (Nat.le_refl _) (rmT (by omega))) rfl (c_Cmd_init hvo (by omega)) ?_
      refine r_aast dd_Txt_init_41 (q := 20) (by decide) hv187 (by omega) (by show _ < ((30 : Nat) : Int); omega) (by decide) hvo rfl ?_
      refine r_iinc (L' := [_, _]) dd_Txt_init_42 rfl ⟨by omega, by omega⟩ rfl ?_
      refine r_goto dd_Txt_init_45 ?_
      exact g1 r Mf kk
    · rw [g3 o k a, upR_ne (Or.inl a)]
    · rw [g4 k (by omega), upR_ne (Or.inr (by omega))]
    · by_cases e : j = i
      · subst e
        rw [g4 j (by omega), upR_eq]
      · exact g5 j (by omega) c
theorem c_Txt_init {ρ : Int → Int → Option Int} {μ : Int → Int → Int} (hF : FZ ρ μ 185) : ∃ ρ', MetC mi_Txt_init [vR 185] (ρ, 186, μ) none (ρ', 218, μ) ∧ FZ ρ' μ 218 ∧ (∀ o k, o < 185 → ρ' o k = ρ o k) ∧ ρ' 185 0 = some 186 ∧ ρ' 185 2 = some 187 ∧ (∀ j, 0 ≤ j → j < 30 → ρ' 187 j = some (188 + j)) := by
  have hF1 : FZ (upR (upR ρ 185 0 (some 186)) 185 2 (some 187)) μ (188 + 0) := ((hF.mono (by omega)).upR (by omega)).upR (by omega)
  obtain ⟨ρ', g1, g2, g3, g4, g5⟩ := l_Txt_i 30 0 188 _ _ (by decide) (Int.le_refl _) (by decide) hF1 upR_eq
  refine ⟨ρ', ?_, g2, fun o k a => by rw [g3 o k (by omega), upR_ne (Or.inl (by omega)), upR_ne (Or.inl (by omega))], by rw [g3 185 0 (by decide), upR_ne (Or.inr (by decide)), upR_eq], by rw [g3 185 2 (by decide), upR_eq], fun j a c => g5 j a c⟩
  refine met_of ?_ (Nat.le_of_ble_eq_true rfl) (by decide) trivial (by decide) (show 0 < 186 by decide)
  show SPW mi_Txt_init 186 0 [some (vR 185), none] [] (ρ, 186, μ) none (ρ', 218, μ)
  refine r_aloadn dd_Txt_init_0 rfl ?_
  refine r_obj dd_Txt_init_1 ml_Txt_3 ⟨Nat.le_of_ble_eq_true rfl, Nat.le_of_ble_eq_true rfl⟩ ?_
  refine r_aloadn dd_Txt_init_4 rfl ?_
  refine r_bip dd_Txt_init_5 ⟨by decide, by decide⟩ ?_
  refine r_nwA dd_Txt_init_7 ac_char (q := 16) ⟨rfl, Or.inr ⟨rfl, rfl⟩⟩ (by decide) (o := 186) (by decide) (by decide) ⟨by decide, by decide⟩ rfl (by decide) (hF.mono (by decide)) (rmT (by decide)) ?_
  refine r_putRF dd_Txt_init_9 fl_Txt_9 (kI := 0) rfl fr_Txt_0 ff_Txt_0 rfl rfl pr_Txt_0 ⟨by decide, by decide, by decide⟩ ?_
  refine r_aloadn dd_Txt_init_12 rfl ?_
  refine r_bip dd_Txt_init_13 ⟨by decide, by decide⟩ ?_
  refine r_nwR dd_Txt_init_15 cl_Txt_15 (ci := 1) (q := 20) (Or.inr (Or.inr (Or.inr rfl))) ⟨rfl, by decide, by decide⟩ (by decide) (o := 187) (by decide) (by decide) ⟨by decide, by decide⟩ rfl (by decide) ((hF.mono (by decide)).upR (by decide)) (rmT (by decide)) ?_
  refine r_putRF dd_Txt_init_18 fl_Txt_17 (kI := 2) rfl fr_Txt_2 ff_Txt_2 rfl rfl pr_Txt_2 ⟨by decide, by decide, by decide⟩ ?_
  refine r_iconst dd_Txt_init_21 ⟨by decide, by decide⟩ ?_
  refine r_istoren (L' := [_, _]) dd_Txt_init_22 rfl rfl ?_
  refine g1 _ _ ?_
  exact r_retV dd_Txt_init_48 rfl
