/-! the constructor of the pool -/
theorem rmP {t : Nat} (h : t ≤ 219) : rmOK mi_Poo_init 1 t := rmOK_mono (t := 219) ⟨by decide +kernel, by decide +kernel⟩ h
abbrev poI (ρ : Int → Int → Option Int) (μ : Int → Int → Int) : Prop :=
  (ρ 0 0 = some 1 ∧ ρ 0 1 = some 27 ∧ ρ 0 2 = some 53 ∧ ρ 0 4 = some 79 ∧ ρ 0 5 = some 185 ∧ ρ 0 6 = some 218) ∧ (rfS ρ 1 ∧ rfS ρ 27 ∧ rfS ρ 53) ∧ (stI μ 1 ∧ stI μ 27 ∧ stI μ 53) ∧ ρ 79 0 = some 80 ∧ (∀ j, 0 ≤ j → j < 4 → ρ 80 j = some (81 + 26 * j) ∧ rfS ρ (81 + 26 * j) ∧ stI μ (81 + 26 * j)) ∧ (ρ 185 0 = some 186 ∧ ρ 185 2 = some 187) ∧ (∀ j, 0 ≤ j → j < 30 → ρ 187 j = some (188 + j)) ∧ (∀ k, μ 0 k = 0) ∧ (∀ k, μ 79 k = 0) ∧ (∀ o k, 185 ≤ o → o < 219 → μ o k = 0)
theorem c_Poo_init {ρ : Int → Int → Option Int} {μ : Int → Int → Int} (hF : FZ ρ μ 0) : ∃ ρ' μ', MetC mi_Poo_init [vR 0] (ρ, 1, μ) none (ρ', 219, μ') ∧ FZ ρ' μ' 219 ∧ (∀ o k, o < 0 → μ' o k = μ o k) ∧ poI ρ' μ' := by
  obtain ⟨ρ1, μ1, c1, z1, f1, r1, s1⟩ := c_Sta_init stB_1 (t := 2) (by decide) (hF.mono (by decide))
  obtain ⟨ρ2, μ2, c2, z2, f2, r2, s2⟩ := c_Sta_init stB_27 (t := 28) (ρ := upR ρ1 0 0 (some 1)) (μ := μ1) (by decide) (FZ.upR (z1.mono (by decide)) (by decide))
  obtain ⟨ρ3, μ3, c3, z3, f3, r3, s3⟩ := c_Sta_init stB_53 (t := 54) (ρ := upR ρ2 0 1 (some 27)) (μ := μ2) (by decide) (FZ.upR (z2.mono (by decide)) (by decide))
  obtain ⟨ρ4, μ4, c4, z4, f4, r4, m4, s4⟩ := c_His_init (ρ := upR ρ3 0 2 (some 53)) (μ := μ3) (FZ.upR (z3.mono (by decide)) (by decide))
  obtain ⟨ρ5, c5, z5, f5, q0, q2, s5⟩ := c_Txt_init (ρ := upR ρ4 0 4 (some 79)) (μ := μ4) (FZ.upR (z4.mono (by decide)) (by decide))
  have e_o : ∀ o k, o ≠ 0 → upR (upR ρ5 0 5 (some 185)) 0 6 (some 218) o k = ρ5 o k := fun o k a => by rw [upR_ne (Or.inl a), upR_ne (Or.inl a)]
  have h5 : ∀ o k, o ≠ 0 → o < 185 → ρ5 o k = ρ4 o k := fun o k a c => by rw [f5 o k c, upR_ne (Or.inl a)]
  have h4 : ∀ o k, o ≠ 0 → o < 79 → ρ4 o k = ρ3 o k ∧ μ4 o k = μ3 o k := fun o k a c => ⟨by rw [(f4 o k c).1, upR_ne (Or.inl a)], (f4 o k c).2⟩
  have h3 : ∀ o k, o ≠ 0 → o < 53 → ρ3 o k = ρ2 o k ∧ μ3 o k = μ2 o k := fun o k a c => ⟨by rw [(f3 o k c).1, upR_ne (Or.inl a)], (f3 o k c).2⟩
  have h2 : ∀ o k, o ≠ 0 → o < 27 → ρ2 o k = ρ1 o k ∧ μ2 o k = μ1 o k := fun o k a c => ⟨by rw [(f2 o k c).1, upR_ne (Or.inl a)], (f2 o k c).2⟩
  have k1 : ∀ o k, 1 ≤ o → o < 1 + 26 → upR (upR ρ5 0 5 (some 185)) 0 6 (some 218) o k = ρ1 o k ∧ μ4 o k = μ1 o k := fun o k a c => ⟨by rw [e_o o k (by omega), h5 o k (by omega) (by omega), (h4 o k (by omega) (by omega)).1, (h3 o k (by omega) (by omega)).1, (h2 o k (by omega) (by omega)).1], by rw [(h4 o k (by omega) (by omega)).2, (h3 o k (by omega) (by omega)).2, (h2 o k (by omega) (by omega)).2]⟩
  have k2 : ∀ o k, 27 ≤ o → o < 27 + 26 → upR (upR ρ5 0 5 (some 185)) 0 6 (some 218) o k = ρ2 o k ∧ μ4 o k = μ2 o k := fun o k a c => ⟨by rw [e_o o k (by omega), h5 o k (by omega) (by omega), (h4 o k (by omega) (by omega)).1, (h3 o k (by omega) (by omega)).1], by rw [(h4 o k (by omega) (by omega)).2, (h3 o k (by omega) (by omega)).2]⟩
  have k3 : ∀ o k, 53 ≤ o → o < 53 + 26 → upR (upR ρ5 0 5 (some 185)) 0 6 (some 218) o k = ρ3 o k ∧ μ4 o k = μ3 o k := fun o k a c => ⟨by rw [e_o o k (by omega), h5 o k (by omega) (by omega), (h4 o k (by omega) (by omega)).1], by rw [(h4 o k (by omega) (by omega)).2]⟩
  have k4 : ∀ o k, 1 ≤ o → o < 185 → upR (upR ρ5 0 5 (some 185)) 0 6 (some 218) o k = ρ4 o k := fun o k a c => by rw [e_o o k (by omega), h5 o k (by omega) (by omega)]
  have n : ∀ k v (σ : Int → Int → Option Int) j, j ≠ k → upR σ 0 k v 0 j = σ 0 j := fun k v σ j a => upR_ne (Or.inr a)
  refine ⟨_, μ4, ?_, ((z5.mono (by decide)).upR (by decide)).upR (by decide), fun o k a => ?_, ⟨?_, ?_, ?_, ?_, ?_, upR_eq⟩, ⟨rfS_fr r1 (fun o k a c => (k1 o k a c).1), rfS_fr r2 (fun o k a c => (k2 o k a c).1), rfS_fr r3 (fun o k a c => (k3 o k a c).1)⟩, ⟨stI_fr s1 (fun o k a c => (k1 o k a c).2), stI_fr s2 (fun o k a c => (k2 o k a c).2), stI_fr s3 (fun o k a c => (k3 o k a c).2)⟩, ?_, fun j j0 j1 => ⟨?_, rfS_fr (s4 j j0 j1).2.1 (fun o k a c => k4 o k (by omega) (by omega)), (s4 j j0 j1).2.2⟩, ⟨?_, ?_⟩, fun j j0 j1 => ?_, fun k => ?_, m4, fun o k a c => (z4 o k a).1⟩
  · refine met_of ?_ (Nat.le_of_ble_eq_true rfl) (by decide) trivial (by decide) (show 0 < 1 by decide)
    show SPW mi_Poo_init 1 0 [some (vR 0)] [] (ρ, 1, μ) none (_, 219, μ4)
    refine r_aloadn dd_Poo_init_0 rfl ?_
    refine r_obj dd_Poo_init_1 ml_Poo_1 ⟨Nat.le_of_ble_eq_true rfl, Nat.le_of_ble_eq_true rfl⟩ ?_
    refine r_aloadn dd_Poo_init_4 rfl ?_
    refine r_nwO dd_Poo_init_5 cl_Poo_7 is_Sta ini_Sta (by decide) (o := 1) (by decide) (by decide) ⟨by decide, by decide⟩ (hF.mono (by decide)) (rmP (by decide)) ?_
    refine r_dup dd_Poo_init_8 ?_
    refine r_I0N dd_Poo_init_9 ml_Poo_9 ok_Sta_init in_Sta_init ⟨rfl, rfl⟩ (clN rfl (by decide +kernel) (by decide +kernel) (by decide) (by decide) (rmP (by decide))) rfl c1 ?_
    refine r_putRF dd_Poo_init_12 fl_Poo_10 (kI := 0) rfl fr_Poo_0 ff_Poo_0 rfl rfl pr_Poo_0 ⟨by decide, by decide, by decide⟩ ?_
    refine r_aloadn dd_Poo_init_15 rfl ?_
    refine r_nwO dd_Poo_init_16 cl_Poo_7 is_Sta ini_Sta (by decide) (o := 27) (by decide) (by decide) ⟨by decide, by decide⟩ (FZ.upR (z1.mono (by decide)) (by decide)) (rmP (by decide)) ?_
    refine r_dup dd_Poo_init_19 ?_
    refine r_I0N dd_Poo_init_20 ml_Poo_9 ok_Sta_init in_Sta_init ⟨rfl, rfl⟩ (clN rfl (by decide +kernel) (by decide +kernel) (by decide) (by decide) (rmP (by decide))) rfl c2 ?_
    refine r_putRF dd_Poo_init_23 fl_Poo_16 (kI := 1) rfl fr_Poo_1 ff_Poo_1 rfl rfl pr_Poo_1 ⟨by decide, by decide, by decide⟩ ?_
    refine r_aloadn dd_Poo_init_26 rfl ?_
    refine r_nwO dd_Poo_init_27 cl_Poo_7 is_Sta ini_Sta (by decide) (o := 53) (by decide) (by decide) ⟨by decide, by decide⟩ (FZ.upR (z2.mono (by decide)) (by decide)) (rmP (by decide)) ?_
    refine r_dup dd_Poo_init_30 ?_
    refine r_I0N dd_Poo_init_31 ml_Poo_9 ok_Sta_init in_Sta_init ⟨rfl, rfl⟩ (clN rfl (by decide +kernel) (by decide +kernel) (by decide) (by decide) (rmP (by decide))) rfl c3 ?_
    refine r_putRF dd_Poo_init_34 fl_Poo_19 (kI := 2) rfl fr_Poo_2 ff_Poo_2 rfl rfl pr_Poo_2 ⟨by decide, by decide, by decide⟩ ?_
    refine r_aloadn dd_Poo_init_37 rfl ?_
    refine r_nwO dd_Poo_init_38 cl_Poo_22 is_His ini_His (by decide) (o := 79) (by decide) (by decide) ⟨by decide, by decide⟩ (FZ.upR (z3.mono (by decide)) (by decide)) (rmP (by decide)) ?_
    refine r_dup dd_Poo_init_41 ?_
    refine r_I0N dd_Poo_init_42 ml_Poo_24 ok_His_init in_His_init ⟨rfl, rfl⟩ (clN rfl (by decide +kernel) (by decide +kernel) (by decide) (by decide) (rmP (by decide))) rfl c4 ?_
    refine r_putRF dd_Poo_init_45 fl_Poo_25 (kI := 4) rfl fr_Poo_4 ff_Poo_4 rfl rfl pr_Poo_4 ⟨by decide, by decide, by decide⟩ ?_
    refine r_aloadn dd_Poo_init_48 rfl ?_
    refine r_nwO dd_Poo_init_49 cl_Poo_29 is_Txt ini_Txt (by decide) (o := 185) (by decide) (by decide) ⟨by decide, by decide⟩ (FZ.upR (z4.mono (by decide)) (by decide)) (rmP (by decide)) ?_
    refine r_dup dd_Poo_init_52 ?_
    refine r_I0N dd_Poo_init_53 ml_Poo_31 ok_Txt_init in_Txt_init ⟨rfl, rfl⟩ (clN rfl (by decide +kernel) (by decide +kernel) (by decide) (by decide) (rmP (by decide))) rfl c5 ?_
    refine r_putRF dd_Poo_init_56 fl_Poo_32 (kI := 5) rfl fr_Poo_5 ff_Poo_5 rfl rfl pr_Poo_5 ⟨by decide, by decide, by decide⟩ ?_
    refine r_aloadn dd_Poo_init_59 rfl ?_
    refine r_iconst dd_Poo_init_60 ⟨by decide, by decide⟩ ?_
    refine r_nwA dd_Poo_init_61 ac_int (q := 11) ⟨rfl, Or.inl ⟨rfl, rfl⟩⟩ (by decide) (o := 218) (by decide) (by decide) ⟨by decide, by decide⟩ rfl (by decide) (FZ.upR (z5.mono (by decide)) (by decide)) (rmP (by decide)) ?_
    refine r_putRF dd_Poo_init_63 fl_Poo_36 (kI := 6) rfl fr_Poo_6 ff_Poo_6 rfl rfl pr_Poo_6 ⟨by decide, by decide, by decide⟩ ?_
    exact r_retV dd_Poo_init_66 rfl
  · rw [(f4 o k (by omega)).2, (f3 o k (by omega)).2, (f2 o k (by omega)).2, (f1 o k (by omega)).2]
  · rw [n _ _ _ _ (by decide), n _ _ _ _ (by decide), f5 0 0 (by decide), n _ _ _ _ (by decide), (f4 0 0 (by decide)).1, n _ _ _ _ (by decide), (f3 0 0 (by decide)).1, n _ _ _ _ (by decide), (f2 0 0 (by decide)).1, upR_eq]
  · rw [n _ _ _ _ (by decide), n _ _ _ _ (by decide), f5 0 1 (by decide), n _ _ _ _ (by decide), (f4 0 1 (by decide)).1, n _ _ _ _ (by decide), (f3 0 1 (by decide)).1, upR_eq]
  · rw [n _ _ _ _ (by decide), n _ _ _ _ (by decide), f5 0 2 (by decide), n _ _ _ _ (by decide), (f4 0 2 (by decide)).1, upR_eq]
  · rw [n _ _ _ _ (by decide), n _ _ _ _ (by decide), f5 0 4 (by decide), upR_eq]
  · rw [n _ _ _ _ (by decide), upR_eq]
  · rw [k4 79 0 (by decide) (by decide)]
    exact r4
  · rw [k4 80 j (by decide) (by decide)]
    exact (s4 j j0 j1).1
  · rw [e_o 185 0 (by decide)]
    exact q0
  · rw [e_o 185 2 (by decide)]
    exact q2
  · rw [e_o 187 j (by decide)]
    exact s5 j j0 j1
  · rw [(f4 0 k (by decide)).2, (f3 0 k (by decide)).2, (f2 0 k (by decide)).2, (f1 0 k (by decide)).2]
    exact (hF 0 k (by decide)).1
