/-! the steps: touch, limit, patience, time, life, give back, sweep -/
theorem two_touch {K : Int} {μ : Int → Int → Int} (h : IV K μ) (hK : K + 40000 ≤ 500000000) {b : Int} : Two mi_Poo_touch mi_Mod_touch [vR 0, vI b] [vR 219, vI b] K μ := by
  have hR := (bf_R h).ri
  have hu := h.now.2.2.2
  have hW := h.now.2.1
  by_cases h1 : begOf (μ 220) b = -5
  · refine Two_e h hK (c_Poo_touch_e h.now.ri.al (c_Sta_useNow_n hR h1) (by decide)) (fun ν => ?_)
    have c := c_Mod_touch_e (μ := ν) hW (Or.inl h1)
    rw [if_pos h1] at c
    exact c
  · obtain ⟨j, hj, j0, j1, ho, hn⟩ := begOf_4 h.now.2.2.1 h1
    by_cases h2 : μ 220 (384 + 4 * j) = μ 220 466
    · refine Two_e h hK (c_Poo_touch_e h.now.ri.al (c_Sta_useNow_z hR hj j0 j1 h2) (by decide)) (fun ν => ?_)
      have c := c_Mod_touch_e (μ := ν) hW (b := b) (Or.inr (by rw [hj]; exact h2))
      rw [if_neg h1] at c
      exact c
    · have hle := hu (4 * j) (by omega) (by omega) ho
      refine Two_o h hK (Fr.rfl.up (by omega) (by omega)) (RI_touch hR j0 j1 hW.2.2.1) (UO_touch hu (by omega) (by omega)) (Int.le_refl _) (by omega) (fun a b c => c_Poo_touch_o h.now.ri.al (c_Sta_useNow_o hR hj j0 j1 h2) (by omega) a b c) (fun ν hk => ?_)
      have c := c_Mod_touch_o (μ := ν) hW h1 (by rw [hj]; exact h2) hk
      rw [hj] at c
      exact c
theorem two_setLimit {K : Int} {μ : Int → Int → Int} (h : IV K μ) (hK : K + 40000 ≤ 500000000) {t v : Int} : Two mi_Poo_setLimit mi_Mod_setLimit [vR 0, vI t, vI v] [vR 219, vI t, vI v] K μ := by
  have hR := (bf_R h).ri
  by_cases q : (t < 0 ∨ 5 < t) ∨ v < 0 ∨ 64 < v ∨ μ 220 (454 + t) = v
  · exact Two_e h hK (c_Poo_setLimit_e h.now.ri.al (c_Sta_changeLimit_e hR q) (by split <;> (try split) <;> decide)) (fun ν => c_Mod_setLimit_e q)
  · have hb := (h.now.2.1.2.1 t (by omega) (by omega)).2.1
    exact Two_o h hK (Fr.rfl.up (by omega) (by omega)) (RI_lim hR (by omega) (by omega) ⟨by omega, by omega⟩) (UO_up h.now.2.2.2 (by omega)) (Int.le_refl _) (by omega) (fun a b c => c_Poo_setLimit_o h.now.ri.al (c_Sta_changeLimit_o hR ⟨by omega, by omega⟩ ⟨by omega, by omega⟩ (by omega)) (by omega) a b c) (fun ν hk => c_Mod_setLimit_o ⟨by omega, by omega⟩ ⟨by omega, by omega⟩ (by omega) hk)
theorem two_setPatience {K : Int} {μ : Int → Int → Int} (h : IV K μ) (hK : K + 40000 ≤ 500000000) {t : Int} : Two mi_Poo_setPatience mi_Mod_setPatience [vR 0, vI t] [vR 219, vI t] K μ := by
  have hR := (bf_R h).ri
  have hp := h.now.2.1.2.2.2.1
  by_cases q : t < 1 ∨ 500 < t
  · exact Two_e h hK (c_Poo_setPatience_e h.now.ri.al (c_Sta_changePatience_e hR q) (by decide)) (fun ν => c_Mod_setPatience_e q)
  · by_cases q2 : μ 220 467 = t
    · exact Two_e h hK (c_Poo_setPatience_e h.now.ri.al (c_Sta_changePatience_n hR ⟨by omega, by omega⟩ q2) (by decide)) (fun ν => c_Mod_setPatience_n ⟨by omega, by omega⟩ q2)
    · exact Two_o h hK (Fr.rfl.up (by decide) (by decide)) (RI_pat hR ⟨by omega, by omega⟩) (UO_up h.now.2.2.2 (by omega)) (Int.le_refl _) (by omega) (fun a b c => c_Poo_setPatience_o h.now.ri.al (c_Sta_changePatience_o hR ⟨by omega, by omega⟩ q2) (by omega) a b c) (fun ν hk => c_Mod_setPatience_o ⟨by omega, by omega⟩ q2 hk)
theorem two_pass {K : Int} {μ : Int → Int → Int} (h : IV K μ) (hK : K + 40000 ≤ 500000000) {t : Int} : Two mi_Poo_pass mi_Mod_pass [vR 0, vI t] [vR 219, vI t] K μ := by
  have hR := (bf_R h).ri
  have hc := psFM_c (μ 220) t
  by_cases q : psFM (μ 220) t < 0
  · exact Two_e h hK (c_Poo_pass_e h.now.ri.al (c_Sta_advance_e hR q) q) (fun ν => c_Mod_pass_e h.now.2.1 q)
  · have q0 : psFM (μ 220) t = 0 := by omega
    have hu := lks_up (v := μ 220 466 + t) h.now.2.1 (by omega)
    have hu' : lksM (μ 220) 6 ≤ lksM (psM (μ 220) t) 6 := hu
    have hc0 := h.now.2.1.2.2.1
    exact Two_o h hK (Fr.rfl.up (by decide) (by decide)) (RI_clock hR ⟨by omega, by omega⟩) (UO_clock h.now.2.2.2 (by omega)) (Int.le_refl _) (by omega) (fun a b c => c_Poo_pass_o h.now.ri.al (c_Sta_advance_o hR q0) (by omega) a b c) (fun ν hk => c_Mod_pass_o h.now.2.1 q0 hk)
theorem two_live {K : Int} {μ : Int → Int → Int} (h : IV K μ) (hK : K + 40000 ≤ 500000000) {t a : Int} (ha : a = 0 ∨ a = 1) : Two mi_Poo_live mi_Mod_live [vR 0, vI t, vI a] [vR 219, vI t, vI a] K μ := by
  have hR := (bf_R h).ri
  by_cases q : (t < 0 ∨ 5 < t) ∨ (μ 220 (448 + t) = 0 ∧ a = 1) ∨ (μ 220 (448 + t) ≠ 0 ∧ a = 0)
  · exact Two_e h hK (c_Poo_live_e h.now.ri.al (c_Sta_makeAlive_e hR ha q) (by split <;> decide)) (fun ν => c_Mod_live_e (K := K) ha q)
  · have hb := (h.now.2.1.2.1 t (by omega) (by omega)).1
    have hs : ∀ f, 0 ≤ blksM f t := fun f => (sum1_bd (fun w => owd f w ∧ f (256 + w) = t)).1
    refine Two_o h hK (Fr.rfl.up (by omega) (by omega)) (RI_live hR (t := t) (v := a) (v' := 1 - a) (by omega) (by omega) ⟨by omega, by omega⟩ (by omega)) (UO_up h.now.2.2.2 (by omega)) (Int.le_refl _) (by omega) (fun x y z => c_Poo_live_o h.now.ri.al (c_Sta_makeAlive_o hR ha ⟨by omega, by omega⟩ (by omega)) (hs _) x y z) (fun ν hk => ?_)
    rcases ha with rfl | rfl
    · exact c_Mod_live_0 h.now.2.1 ⟨by omega, by omega⟩ (by omega) hk
    · exact c_Mod_live_1 h.now.2.1 ⟨by omega, by omega⟩ (by omega) hk
theorem two_giveBack {K : Int} {μ : Int → Int → Int} (h : IV K μ) (hK : K + 40000 ≤ 500000000) {t b : Int} : Two mi_Poo_giveBack mi_Mod_giveBack [vR 0, vI t, vI b] [vR 219, vI t, vI b] K μ := by
  have hR := (bf_R h).ri
  have hc := bkFM_c (μ 220) t b
  by_cases q : bkFM (μ 220) t b = 0
  · have hb : begOf (μ 220) b ≠ -5 := by omega
    obtain ⟨j, hj, j0, j1, ho, hn⟩ := begOf_4 h.now.2.2.1 hb
    have hk0 := brkM_rg h.now.2.1 (b := 4 * j) (by omega) (by omega)
    have h64 := (h.now.2.1.1 (4 * j) (by omega) (by omega)).2.2.2.2.2.2.2
    refine Two_o h hK (Fr_frC j0 j1) (RI_fr hR (by omega) j0 j1 ho) (UO_fr h.now.2.2.2 (by omega) (by omega) h64) (by omega) (by omega) (fun x y z => c_Poo_giveBack_o h.now.ri.al (c_Sta_takeBack_o hR (by omega) q hj j0 j1 ho) (by omega) x y z) (fun ν hk => ?_)
    have c := c_Mod_giveBack_o (μ := ν) h.now.2.1 q hk
    rw [hj] at c
    exact c
  · have q2 : bkFM (μ 220) t b < 0 := by omega
    exact Two_e h hK (c_Poo_giveBack_e h.now.ri.al (c_Sta_takeBack_e hR q) q2) (fun ν => c_Mod_giveBack_e q2)
theorem two_sweep {K : Int} {μ : Int → Int → Int} (h : IV K μ) (hK : K + 40000 ≤ 500000000) : Two mi_Poo_sweep mi_Mod_sweep [vR 0] [vR 219] K μ := by
  have hR := (bf_R h).ri
  by_cases q : lksM (μ 220) 6 = 0
  · exact Two_e h hK (c_Poo_sweep_e h.now.ri.al (c_Sta_takeLeaksBack_e hR (by omega) q) (by decide)) (fun ν => c_Mod_sweep_e h.now.2.1 q)
  · have hS := RI_sl 16 0 K (cS μ 27 1) (μ 220) hR (Int.le_refl _) rfl (by omega)
    exact Two_o h hK (Fr_slC 16 0 _ _ (Int.le_refl _) rfl) hS (UO_sw 64 0 K (μ 220) h.now.2.1 (by omega) (Int.le_refl _) rfl h.now.2.2.2) (by omega) (by omega) (fun x y z => c_Poo_sweep_o h.now.ri.al (c_Sta_takeLeaksBack_o hR (by omega) q) (swN_0 64 0 _) x y z) (fun ν hk => c_Mod_sweep_o h.now.2.1 (by omega) q hk)

