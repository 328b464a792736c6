/-! the constructor of a State -/
def bkI (μ : Int → Int → Int) (o j : Int) : Prop := μ o 0 = 4 * j ∧ μ o 1 = (if (4 * j) % 16 = 0 then 2 else -1) ∧ μ o 2 = -1 ∧ μ o 3 = 0 ∧ μ o 4 = 0 ∧ μ o 5 = 0
def tkI (μ : Int → Int → Int) (o : Int) : Prop := μ o 0 = 1 ∧ μ o 1 = 32 ∧ μ o 2 = 0
theorem stB_rg {b : Int} (hb : stB b) : 1 ≤ b ∧ b ≤ 159 := by
  unfold stB at hb
  omega
theorem vkSS {b o j : Int} {t q : Nat} (hb : stB b) (ho : o = b + j) (h0 : 0 ≤ j) (h1 : j < 26) (ht : o < t) (hq : kS j = q) : vk t o q := by
  have := stB_rg hb
  exact ⟨by omega, ht, by rw [ho]; exact (kd_st hb h0 h1).trans hq⟩
theorem rmS_26 {t : Nat} {b : Int} (hb : stB b) (ht : (t : Int) = b + 1) : rmOK mi_Sta_init t (t + 25) ∧ slt (t + 25) - slt t = 200 := by
  unfold stB at hb
  rcases (show t = 2 ∨ t = 28 ∨ t = 54 ∨ t = 82 ∨ t = 108 ∨ t = 134 ∨ t = 160 by omega) with rfl | rfl | rfl | rfl | rfl | rfl | rfl <;> exact ⟨⟨by decide +kernel, by decide +kernel⟩, by decide +kernel⟩
theorem rmS {t t' : Nat} {b : Int} (hb : stB b) (ht : (t : Int) = b + 1) (h : t' ≤ t + 25) : rmOK mi_Sta_init t t' := rmOK_mono (rmS_26 hb ht).1 h
theorem l_Sta_ib {b : Int} (hb : stB b) {t0 : Nat} (ht0 : (t0 : Int) = b + 1) : ∀ (n : Nat) (i : Int) (t : Nat) (ρ : Int → Int → Option Int) (μ : Int → Int → Int), i + n = 16 → 0 ≤ i → (t : Int) = b + 2 + i → FZ ρ μ (b + 2 + i) → ρ b 0 = some (b + 1) → ∃ ρ' μ', (∀ (r : Option Vv) (Mf : Mm), SPW mi_Sta_init t0 57 [some (vR b), none, none] [] (ρ', t + n, μ') r Mf → SPW mi_Sta_init t0 15 [some (vR b), some (vI i), none] [] (ρ, t, μ) r Mf) ∧ FZ ρ' μ' (b + 2 + 16) ∧ (∀ o k, (o < b + 1 ∨ (b + 1 < o ∧ o < b + 2 + i)) → ρ' o k = ρ o k ∧ μ' o k = μ o k) ∧ (∀ k, k < i → ρ' (b + 1) k = ρ (b + 1) k) ∧ (∀ j, i ≤ j → j < 16 → ρ' (b + 1) j = some (b + 2 + j) ∧ bkI μ' (b + 2 + j) j) := by
  have hb0 := stB_rg hb
  intro n
  induction n with
  | zero =>
    intro i t ρ μ hi i0 ht hF hr
    refine ⟨ρ, μ, fun r Mf kk => ?_, hF.mono (by omega), fun o k a => ⟨rfl, rfl⟩, fun k a => rfl, fun j a c => by omega⟩
    refine r_iloadn dd_Sta_init_15 rfl ?_
    refine r_bip dd_Sta_init_16 ⟨by decide, by decide⟩ ?_
    refine r_icmp_ge dd_Sta_init_18 (fun c_18 => ?_) (fun c_18 => ?_)
    · exact r_drop 1 kk
    · exfalso; omega
  | succ n ih =>
    intro i t ρ μ hi i0 ht hF hr
    have hvs : vk t b 3 := vkSS hb (j := 0) (by omega) (by decide) (by decide) (by omega) rfl
    have hva : vk (t + 1) (b + 1) 17 := vkSS hb (j := 1) (by omega) (by omega) (by omega) (by omega) rfl
    have hvs1 : vk (t + 1) b 3 := vkSS hb (j := 0) (by omega) (by decide) (by decide) (by omega) rfl
    have hvo : vk (t + 1) (b + 2 + i) 0 := vkSS hb (j := 2 + i) (by omega) (by omega) (by omega) (by omega) (kS_blk (by omega) (by omega))
    by_cases h4 : (i * 4) % 16 = 0
    · have _z := 0
      have hF1 : FZ (upR ρ (b + 1) i (some (b + 2 + i))) (upM (upM (upM μ (b + 2 + i) 0 (i * 4)) (b + 2 + i) 1 2) (b + 2 + i) 2 (-1)) (b + 2 + (i + 1)) := by
        have hF0 := hF.mono (t' := b + 2 + (i + 1)) (by omega)
        exact (((hF0.upM (by omega)).upM (by omega)).upM (by omega)).upR (by omega)
      obtain ⟨ρ', μ', g1, g2, g3, g4, g5⟩ := ih (i + 1) (t + 1) _ _ (by omega) (by omega) (by omega) hF1 (by rw [upR_ne (Or.inl (by omega))]; exact hr)
      refine ⟨ρ', μ', fun r Mf kk => ?_, g2, fun o k a => ?_, fun k a => ?_, fun j a c => ?_⟩
      · rw [show t + (n + 1) = t + 1 + n by omega] at kk
        refine r_iloadn dd_Sta_init_15 rfl ?_
        refine r_bip dd_Sta_init_16 ⟨by decide, by decide⟩ ?_
        refine r_icmp_ge dd_Sta_init_18 (fun c_18 => ?_) (fun c_18 => ?_)
        · exfalso; omega
        · refine r_iloadn dd_Sta_init_21 rfl ?_
          refine r_iconst dd_Sta_init_22 ⟨by decide, by decide⟩ ?_
          refine r_imul dd_Sta_init_23 ⟨by omega, by omega⟩ ?_
          refine r_istoren (L' := [_, _, _]) dd_Sta_init_24 rfl rfl ?_
          refine r_aloadn dd_Sta_init_25 rfl ?_
          refine r_getR dd_Sta_init_26 fl_Sta_11 (kI := 0) rfl fr_Sta_0 hvs hr ?_
          refine r_iloadn dd_Sta_init_29 rfl ?_
          refine r_nwO dd_Sta_init_30 cl_Sta_9 is_Blk ini_Blk (by decide) (o := b + 2 + i) (by omega) hvo.2.2 ⟨by omega, by omega⟩ hF (rmS hb ht0 (by omega)) ?_
          refine r_dup dd_Sta_init_33 ?_
          refine r_iloadn dd_Sta_init_34 rfl ?_
          refine r_iloadn dd_Sta_init_35 rfl ?_
          refine r_bip dd_Sta_init_36 ⟨by decide, by decide⟩ ?_
          refine r_irem dd_Sta_init_38 (by omega) (by omega) ?_
          refine r_if_ne dd_Sta_init_39 (fun c_39 => ?_) (fun c_39 => ?_)
          · exfalso; omega
          · refine r_iconst dd_Sta_init_42 ⟨by decide, by decide⟩ ?_
            refine r_goto dd_Sta_init_43 ?_
            refine r_I2N dd_Sta_init_47 ml_Sta_17 ok_Blk_init in_Blk_init ⟨rfl, rfl⟩ (clN rfl (Nat.sub_self _).symm (Nat.sub_self _).symm (by omega) (Nat.le_refl _) (rmS hb ht0 (by omega))) rfl (c_Blk_init hvo (by omega)) ?_
            refine r_aast dd_Sta_init_50 (q := 17) (by decide) hva (by omega) (by show _ < ((16 : Nat) : Int); omega) (by decide) hvo rfl ?_
            refine r_iinc (L' := [_, _, _]) dd_Sta_init_51 rfl ⟨by omega, by omega⟩ rfl ?_
            refine r_goto dd_Sta_init_54 ?_
            exact r_drop 2 (g1 r Mf kk)
      · have q := g3 o k (by omega)
        rw [upR_ne (Or.inl (by omega)), upM_ne (Or.inl (by omega)), upM_ne (Or.inl (by omega)), upM_ne (Or.inl (by omega))] at q
        exact q
      · rw [g4 k (by omega), upR_ne (Or.inr (by omega))]
      · by_cases e : j = i
        · subst e
          refine ⟨by rw [g4 j (by omega), upR_eq], ?_⟩
          have e : ∀ k, μ' (b + 2 + j) k = (upM (upM (upM μ (b + 2 + j) 0 (j * 4)) (b + 2 + j) 1 2) (b + 2 + j) 2 (-1)) (b + 2 + j) k := fun k => (g3 (b + 2 + j) k (by omega)).2
          refine ⟨?_, ?_, ?_, ?_, ?_, ?_⟩
          · rw [e 0, upM_ne (Or.inr (by decide)), upM_ne (Or.inr (by decide)), upM_eq]
            omega
          · rw [e 1, upM_ne (Or.inr (by decide)), upM_eq]
            rw [if_pos (by omega)]
          · rw [e 2, upM_eq]
          · rw [e 3, upM_ne (Or.inr (by decide)), upM_ne (Or.inr (by decide)), upM_ne (Or.inr (by decide))]
            exact (hF _ _ (Int.le_refl _)).1
          · rw [e 4, upM_ne (Or.inr (by decide)), upM_ne (Or.inr (by decide)), upM_ne (Or.inr (by decide))]
            exact (hF _ _ (Int.le_refl _)).1
          · rw [e 5, upM_ne (Or.inr (by decide)), upM_ne (Or.inr (by decide)), upM_ne (Or.inr (by decide))]
            exact (hF _ _ (Int.le_refl _)).1
        · exact g5 j (by omega) c
    · have _z := 0
      have hF1 : FZ (upR ρ (b + 1) i (some (b + 2 + i))) (upM (upM (upM μ (b + 2 + i) 0 (i * 4)) (b + 2 + i) 1 (-1)) (b + 2 + i) 2 (-1)) (b + 2 + (i + 1)) := by
        have hF0 := hF.mono (t' := b + 2 + (i + 1)) (by omega)
        exact (((hF0.upM (by omega)).upM (by omega)).upM (by omega)).upR (by omega)
      obtain ⟨ρ', μ', g1, g2, g3, g4, g5⟩ := ih (i + 1) (t + 1) _ _ (by omega) (by omega) (by omega) hF1 (by rw [upR_ne (Or.inl (by omega))]; exact hr)
      refine ⟨ρ', μ', fun r Mf kk => ?_, g2, fun o k a => ?_, fun k a => ?_, fun j a c => ?_⟩
      · rw [show t + (n + 1) = t + 1 + n by omega] at kk
        refine r_iloadn dd_Sta_init_15 rfl ?_
        refine r_bip dd_Sta_init_16 ⟨by decide, by decide⟩ ?_
        refine r_icmp_ge dd_Sta_init_18 (fun c_18 => ?_) (fun c_18 => ?_)
        · exfalso; omega
        · refine r_iloadn dd_Sta_init_21 rfl ?_
          refine r_iconst dd_Sta_init_22 ⟨by decide, by decide⟩ ?_
          refine r_imul dd_Sta_init_23 ⟨by omega, by omega⟩ ?_
          refine r_istoren (L' := [_, _, _]) dd_Sta_init_24 rfl rfl ?_
          refine r_aloadn dd_Sta_init_25 rfl ?_
          refine r_getR dd_Sta_init_26 fl_Sta_11 (kI := 0) rfl fr_Sta_0 hvs hr ?_
          refine r_iloadn dd_Sta_init_29 rfl ?_
          refine r_nwO dd_Sta_init_30 cl_Sta_9 is_Blk ini_Blk (by decide) (o := b + 2 + i) (by omega) hvo.2.2 ⟨by omega, by omega⟩ hF (rmS hb ht0 (by omega)) ?_
          refine r_dup dd_Sta_init_33 ?_
          refine r_iloadn dd_Sta_init_34 rfl ?_
          refine r_iloadn dd_Sta_init_35 rfl ?_
          refine r_bip dd_Sta_init_36 ⟨by decide, by decide⟩ ?_
          refine r_irem dd_Sta_init_38 (by omega) (by omega) ?_
          refine r_if_ne dd_Sta_init_39 (fun c_39 => ?_) (fun c_39 => ?_)
          · refine r_iconst dd_Sta_init_46 ⟨by decide, by decide⟩ ?_
            refine r_I2N dd_Sta_init_47 ml_Sta_17 ok_Blk_init in_Blk_init ⟨rfl, rfl⟩ (clN rfl (Nat.sub_self _).symm (Nat.sub_self _).symm (by omega) (Nat.le_refl _) (rmS hb ht0 (by omega))) rfl (c_Blk_init hvo (by omega)) ?_
            refine r_aast dd_Sta_init_50 (q := 17) (by decide) hva (by omega) (by show _ < ((16 : Nat) : Int); omega) (by decide) hvo rfl ?_
            refine r_iinc (L' := [_, _, _]) dd_Sta_init_51 rfl ⟨by omega, by omega⟩ rfl ?_
            refine r_goto dd_Sta_init_54 ?_
            exact r_drop 2 (g1 r Mf kk)
          · exfalso; omega
      · have q := g3 o k (by omega)
        rw [upR_ne (Or.inl (by omega)), upM_ne (Or.inl (by omega)), upM_ne (Or.inl (by omega)), upM_ne (Or.inl (by omega))] at q
        exact q
      · rw [g4 k (by omega), upR_ne (Or.inr (by omega))]
      · by_cases e : j = i
        · subst e
          refine ⟨by rw [g4 j (by omega), upR_eq], ?_⟩
          have e : ∀ k, μ' (b + 2 + j) k = (upM (upM (upM μ (b + 2 + j) 0 (j * 4)) (b + 2 + j) 1 (-1)) (b + 2 + j) 2 (-1)) (b + 2 + j) k := fun k => (g3 (b + 2 + j) k (by omega)).2
          refine ⟨?_, ?_, ?_, ?_, ?_, ?_⟩
          · rw [e 0, upM_ne (Or.inr (by decide)), upM_ne (Or.inr (by decide)), upM_eq]
            omega
          · rw [e 1, upM_ne (Or.inr (by decide)), upM_eq]
            rw [if_neg (by omega)]
          · rw [e 2, upM_eq]
          · rw [e 3, upM_ne (Or.inr (by decide)), upM_ne (Or.inr (by decide)), upM_ne (Or.inr (by decide))]
            exact (hF _ _ (Int.le_refl _)).1
          · rw [e 4, upM_ne (Or.inr (by decide)), upM_ne (Or.inr (by decide)), upM_ne (Or.inr (by decide))]
            exact (hF _ _ (Int.le_refl _)).1
          · rw [e 5, upM_ne (Or.inr (by decide)), upM_ne (Or.inr (by decide)), upM_ne (Or.inr (by decide))]
            exact (hF _ _ (Int.le_refl _)).1
        · exact g5 j (by omega) c
theorem l_Sta_it {b : Int} (hb : stB b) {t0 : Nat} (ht0 : (t0 : Int) = b + 1) : ∀ (n : Nat) (i : Int) (t : Nat) (ρ : Int → Int → Option Int) (μ : Int → Int → Int), i + n = 6 → 0 ≤ i → (t : Int) = b + 20 + i → FZ ρ μ (b + 20 + i) → ρ b 2 = some (b + 19) → ∃ ρ' μ', (∀ (r : Option Vv) (Mf : Mm), SPW mi_Sta_init t0 101 [some (vR b), none, none] [] (ρ', t + n, μ') r Mf → SPW mi_Sta_init t0 76 [some (vR b), some (vI i), none] [] (ρ, t, μ) r Mf) ∧ FZ ρ' μ' (b + 20 + 6) ∧ (∀ o k, (o < b + 19 ∨ (b + 19 < o ∧ o < b + 20 + i)) → ρ' o k = ρ o k ∧ μ' o k = μ o k) ∧ (∀ k, k < i → ρ' (b + 19) k = ρ (b + 19) k) ∧ (∀ j, i ≤ j → j < 6 → ρ' (b + 19) j = some (b + 20 + j) ∧ tkI μ' (b + 20 + j)) := by
  have hb0 := stB_rg hb
  intro n
  induction n with
  | zero =>
    intro i t ρ μ hi i0 ht hF hr
    refine ⟨ρ, μ, fun r Mf kk => ?_, hF.mono (by omega), fun o k a => ⟨rfl, rfl⟩, fun k a => rfl, fun j a c => by omega⟩
    refine r_iloadn dd_Sta_init_76 rfl ?_
    refine r_bip dd_Sta_init_77 ⟨by decide, by decide⟩ ?_
    refine r_icmp_ge dd_Sta_init_79 (fun c_79 => ?_) (fun c_79 => ?_)
    · exact r_drop 1 kk
    · exfalso; omega
  | succ n ih =>
    intro i t ρ μ hi i0 ht hF hr
    have hvs : vk t b 3 := vkSS hb (j := 0) (by omega) (by decide) (by decide) (by omega) rfl
    have hva : vk (t + 1) (b + 19) 18 := vkSS hb (j := 19) (by omega) (by omega) (by omega) (by omega) rfl
    have hvs1 : vk (t + 1) b 3 := vkSS hb (j := 0) (by omega) (by decide) (by decide) (by omega) rfl
    have hvo : vk (t + 1) (b + 20 + i) 4 := vkSS hb (j := 20 + i) (by omega) (by omega) (by omega) (by omega) (kS_tsk (by omega))
    have hF1 : FZ (upR ρ (b + 19) i (some (b + 20 + i))) (upM (upM μ (b + 20 + i) 0 1) (b + 20 + i) 1 32) (b + 20 + (i + 1)) := by
      have hF0 := hF.mono (t' := b + 20 + (i + 1)) (by omega)
      exact ((hF0.upM (by omega)).upM (by omega)).upR (by omega)
    obtain ⟨ρ', μ', g1, g2, g3, g4, g5⟩ := ih (i + 1) (t + 1) _ _ (by omega) (by omega) (by omega) hF1 (by rw [upR_ne (Or.inl (by omega))]; exact hr)
    refine ⟨ρ', μ', fun r Mf kk => ?_, g2, fun o k a => ?_, fun k a => ?_, fun j a c => ?_⟩
    · rw [show t + (n + 1) = t + 1 + n by omega] at kk
      refine r_iloadn dd_Sta_init_76 rfl ?_
      refine r_bip dd_Sta_init_77 ⟨by decide, by decide⟩ ?_
      refine r_icmp_ge dd_Sta_init_79 (fun c_79 => ?_) (fun c_79 => ?_)
      · exfalso; omega
      · refine r_aloadn dd_Sta_init_82 rfl ?_
        refine r_getR dd_Sta_init_83 fl_Sta_26 (kI := 2) rfl fr_Sta_2 hvs hr ?_
        refine r_iloadn dd_Sta_init_86 rfl ?_
        refine r_nwO dd_Sta_init_87 cl_Sta_24 is_Tsk ini_Tsk (by decide) (o := b + 20 + i) (by omega) hvo.2.2 ⟨by omega, by omega⟩ hF (rmS hb ht0 (by omega)) ?_
        refine r_dup dd_Sta_init_90 ?_
        refine r_I0N dd_Sta_init_91 ml_Sta_30 ok_Tsk_init in_Tsk_init ⟨rfl, rfl⟩ (clN rfl (Nat.sub_self _).symm (Nat.sub_self _).symm (by omega) (Nat.le_refl _) (rmS hb ht0 (by omega))) rfl (c_Tsk_init hvo (by omega)) ?_
        refine r_aast dd_Sta_init_94 (q := 18) (by decide) hva (by omega) (by show _ < ((6 : Nat) : Int); omega) (by decide) hvo rfl ?_
        refine r_iinc (L' := [_, _, _]) dd_Sta_init_95 rfl ⟨by omega, by omega⟩ rfl ?_
        refine r_goto dd_Sta_init_98 ?_
        exact g1 r Mf kk
    · have q := g3 o k (by omega)
      rw [upR_ne (Or.inl (by omega)), upM_ne (Or.inl (by omega)), upM_ne (Or.inl (by omega))] at q
      exact q
    · rw [g4 k (by omega), upR_ne (Or.inr (by omega))]
    · by_cases e : j = i
      · subst e
        refine ⟨by rw [g4 j (by omega), upR_eq], ?_⟩
        have e : ∀ k, μ' (b + 20 + j) k = (upM (upM μ (b + 20 + j) 0 1) (b + 20 + j) 1 32) (b + 20 + j) k := fun k => (g3 (b + 20 + j) k (by omega)).2
        refine ⟨?_, ?_, ?_⟩
        · rw [e 0, upM_ne (Or.inr (by decide)), upM_eq]
        · rw [e 1, upM_eq]
        · rw [e 2, upM_ne (Or.inr (by decide)), upM_ne (Or.inr (by decide))]
          exact (hF _ _ (Int.le_refl _)).1
      · exact g5 j (by omega) c
/-- who points to whom in a State -/
def rfS (ρ : Int → Int → Option Int) (b : Int) : Prop := ρ b 0 = some (b + 1) ∧ ρ b 1 = some (b + 18) ∧ ρ b 2 = some (b + 19) ∧ (∀ i, 0 ≤ i → i < 16 → ρ (b + 1) i = some (b + 2 + i)) ∧ (∀ i, 0 ≤ i → i < 6 → ρ (b + 19) i = some (b + 20 + i))
/-- a State as it was made -/
def stI (μ : Int → Int → Int) (b : Int) : Prop := (∀ i, 0 ≤ i → i < 16 → bkI μ (b + 2 + i) i) ∧ (∀ w, μ (b + 18) w = 0) ∧ (∀ i, 0 ≤ i → i < 6 → tkI μ (b + 20 + i)) ∧ μ b 3 = 0 ∧ μ b 4 = 50 ∧ μ b 5 = 0 ∧ μ b 6 = 0 ∧ μ b 7 = 0 ∧ μ b 8 = 0
theorem c_Sta_init {b : Int} (hb : stB b) {t : Nat} (ht : (t : Int) = b + 1) {ρ : Int → Int → Option Int} {μ : Int → Int → Int} (hF : FZ ρ μ b) : ∃ ρ' μ', MetC mi_Sta_init [vR b] (ρ, t, μ) none (ρ', t + 25, μ') ∧ FZ ρ' μ' (b + 26) ∧ (∀ o k, o < b → ρ' o k = ρ o k ∧ μ' o k = μ o k) ∧ rfS ρ' b ∧ stI μ' b := by
  have hb0 := stB_rg hb
  have hF1 : FZ (upR ρ b 0 (some (b + 1))) μ (b + 2 + 0) := (hF.mono (by omega)).upR (by omega)
  obtain ⟨ρ1, μ1, a1, a2, a3, a4, a5⟩ := l_Sta_ib hb ht 16 0 (t + 1) _ _ (by decide) (Int.le_refl _) (by omega) hF1 upR_eq
  have hF2 : FZ (upR (upR ρ1 b 1 (some (b + 18))) b 2 (some (b + 19))) μ1 (b + 20 + 0) := ((a2.mono (by omega)).upR (by omega)).upR (by omega)
  obtain ⟨ρ2, μ2, c1, c2, c3, c4, c5⟩ := l_Sta_it hb ht 6 0 (t + 1 + 16 + 1 + 1) _ _ (by decide) (Int.le_refl _) (by omega) hF2 upR_eq
  refine ⟨ρ2, upM μ2 b 4 50, ?_, (c2.mono (t' := b + 26) (by omega)).upM (o := b) (by omega), fun o k a => ?_, ⟨?_, ?_, ?_, fun i i0 i1 => ?_, fun i i0 i1 => (c5 i i0 i1).1⟩, fun i i0 i1 => ?_, fun w => ?_, fun i i0 i1 => ?_, ?_, upM_eq, ?_, ?_, ?_, ?_⟩
  · refine met_of ?_ (Nat.le_of_ble_eq_true rfl) (by decide) trivial (by decide) (by show 0 < t; omega)
    show SPW mi_Sta_init t 0 [some (vR b), none, none] [] (ρ, t, μ) none (ρ2, t + 25, upM μ2 b 4 50)
    refine r_aloadn dd_Sta_init_0 rfl ?_
    refine r_obj dd_Sta_init_1 ml_Sta_3 ⟨Nat.le_of_ble_eq_true rfl, Nat.le_of_ble_eq_true rfl⟩ ?_
    refine r_aloadn dd_Sta_init_4 rfl ?_
    refine r_bip dd_Sta_init_5 ⟨by decide, by decide⟩ ?_
    refine r_nwR dd_Sta_init_7 cl_Sta_9 (ci := 0) (q := 17) (Or.inl rfl) ⟨rfl, by decide, by decide⟩ (by decide) (o := b + 1) (by omega) (kd_st hb (j := 1) (by decide) (by decide)) ⟨by omega, by omega⟩ rfl (by decide) (hF.mono (by omega)) (rmS hb ht (by omega)) ?_
    refine r_putRF dd_Sta_init_10 fl_Sta_11 (kI := 0) rfl fr_Sta_0 ff_Sta_0 rfl rfl pr_Sta_0 (vkSS (t := _) hb (j := 0) (by omega) (by decide) (by decide) (by omega) rfl) ?_
    refine r_iconst dd_Sta_init_13 ⟨by decide, by decide⟩ ?_
    refine r_istoren (L' := [_, _, _]) dd_Sta_init_14 rfl rfl ?_
    refine a1 _ _ ?_
    refine r_aloadn dd_Sta_init_57 rfl ?_
    refine r_bip dd_Sta_init_58 ⟨by decide, by decide⟩ ?_
    refine r_nwA dd_Sta_init_60 ac_int (q := 10) ⟨rfl, Or.inl ⟨rfl, rfl⟩⟩ (by decide) (o := b + 18) (by omega) (kd_st hb (j := 18) (by decide) (by decide)) ⟨by omega, by omega⟩ rfl (by decide) (a2.mono (by omega)) (rmS hb ht (by omega)) ?_
    refine r_putRF dd_Sta_init_62 fl_Sta_20 (kI := 1) rfl fr_Sta_1 ff_Sta_1 rfl rfl pr_Sta_1 (vkSS (t := _) hb (j := 0) (by omega) (by decide) (by decide) (by omega) rfl) ?_
    refine r_aloadn dd_Sta_init_65 rfl ?_
    refine r_bip dd_Sta_init_66 ⟨by decide, by decide⟩ ?_
    refine r_nwR dd_Sta_init_68 cl_Sta_24 (ci := 4) (q := 18) (Or.inr (Or.inl rfl)) ⟨rfl, by decide, by decide⟩ (by decide) (o := b + 19) (by omega) (kd_st hb (j := 19) (by decide) (by decide)) ⟨by omega, by omega⟩ rfl (by decide) ((a2.mono (by omega)).upR (by omega)) (rmS hb ht (by omega)) ?_
    refine r_putRF dd_Sta_init_71 fl_Sta_26 (kI := 2) rfl fr_Sta_2 ff_Sta_2 rfl rfl pr_Sta_2 (vkSS (t := _) hb (j := 0) (by omega) (by decide) (by decide) (by omega) rfl) ?_
    refine r_iconst dd_Sta_init_74 ⟨by decide, by decide⟩ ?_
    refine r_istoren (L' := [_, _, _]) dd_Sta_init_75 rfl rfl ?_
    refine c1 _ _ ?_
    refine r_aloadn dd_Sta_init_101 rfl ?_
    refine r_bip dd_Sta_init_102 ⟨by decide, by decide⟩ ?_
    refine r_putI dd_Sta_init_104 fl_Sta_31 (kI := 4) rfl fc_Sta_4 ff_Sta_4 (pi_Sta_4 _) (vkSS (t := _) hb (j := 0) (by omega) (by decide) (by decide) (by omega) rfl) ?_
    exact r_retV dd_Sta_init_107 rfl
  · have q := c3 o k (Or.inl (by omega))
    have p := a3 o k (Or.inl (by omega))
    rw [upR_ne (Or.inl (by omega)), upR_ne (Or.inl (by omega)), p.1, upR_ne (Or.inl (by omega)), p.2] at q
    rw [upM_ne (Or.inl (by omega))]
    exact q
  · rw [(c3 b 0 (Or.inl (by omega))).1, upR_ne (Or.inr (by decide)), upR_ne (Or.inr (by decide)), (a3 b 0 (Or.inl (by omega))).1, upR_eq]
  · rw [(c3 b 1 (Or.inl (by omega))).1, upR_ne (Or.inr (by decide)), upR_eq]
  · rw [(c3 b 2 (Or.inl (by omega))).1, upR_eq]
  · rw [(c3 (b + 1) i (Or.inl (by omega))).1, upR_ne (Or.inl (by omega)), upR_ne (Or.inl (by omega))]
    exact (a5 i i0 i1).1
  · have q := (a5 i i0 i1).2
    have e : ∀ k, upM μ2 b 4 50 (b + 2 + i) k = μ1 (b + 2 + i) k := fun k => by
      rw [upM_ne (Or.inl (by omega))]
      exact (c3 (b + 2 + i) k (Or.inl (by omega))).2
    unfold bkI at q ⊢
    rw [e 0, e 1, e 2, e 3, e 4, e 5]
    exact q
  · rw [upM_ne (Or.inl (by omega)), (c3 (b + 18) w (Or.inl (by omega))).2]
    exact (a2 (b + 18) w (by omega)).1
  · have q := (c5 i i0 i1).2
    have e : ∀ k, upM μ2 b 4 50 (b + 20 + i) k = μ2 (b + 20 + i) k := fun k => upM_ne (Or.inl (by omega))
    unfold tkI at q ⊢
    rw [e 0, e 1, e 2]
    exact q
  · rw [upM_ne (Or.inr (by decide)), (c3 b 3 (Or.inl (by omega))).2, (a3 b 3 (Or.inl (by omega))).2]
    exact (hF b 3 (Int.le_refl _)).1
  · rw [upM_ne (Or.inr (by decide)), (c3 b 5 (Or.inl (by omega))).2, (a3 b 5 (Or.inl (by omega))).2]
    exact (hF b 5 (Int.le_refl _)).1
  · rw [upM_ne (Or.inr (by decide)), (c3 b 6 (Or.inl (by omega))).2, (a3 b 6 (Or.inl (by omega))).2]
    exact (hF b 6 (Int.le_refl _)).1
  · rw [upM_ne (Or.inr (by decide)), (c3 b 7 (Or.inl (by omega))).2, (a3 b 7 (Or.inl (by omega))).2]
    exact (hF b 7 (Int.le_refl _)).1
  · rw [upM_ne (Or.inr (by decide)), (c3 b 8 (Or.inl (by omega))).2, (a3 b 8 (Or.inl (by omega))).2]
    exact (hF b 8 (Int.le_refl _)).1
