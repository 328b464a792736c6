/-! the steps: ask, write -/
theorem IV_lite {K K' : Int} {ν T : Int → Int → Int} (h : IV K ν) (hK : K ≤ K') (hK' : K' ≤ 500000000) (e1 : ∀ o k, 1 ≤ o → o < 185 → T o k = ν o k) (e2 : ∀ k, k < 7 → T 0 k = ν 0 k) (e3 : ∀ k, k < 8 → T 219 k = ν 219 k) (e4 : ∀ o k, (o = 220 ∨ o = 222 ∨ o = 223) → T o k = ν o k)
    (hr : ∀ k, 1 ≤ k → k ≤ 3 → T 218 (k - 1) = T 224 k ∧ 0 ≤ T 224 k ∧ 40000 * T 224 k ≤ K') (hs : (T 0 7 = 0 ∧ T 219 9 = -5 ∧ T 219 10 = -5) ∨ (T 0 7 = 1 ∧ T 219 9 = T 0 8 ∧ T 219 10 = T 0 9)) (ht : T 185 1 = T 219 8 ∧ 0 ≤ T 219 8 ∧ T 219 8 ≤ 60) (hc : ∀ k, 0 ≤ k → k < 60 → T 186 k = T 225 k ∧ 0 ≤ T 225 k ∧ T 225 k ≤ 65535) : IV K' T := by
  have e220 : T 220 = ν 220 := by funext k; exact e4 220 k (Or.inl rfl)
  have e223 : T 223 = ν 223 := by funext k; exact e4 223 k (Or.inr (Or.inr rfl))
  have e5 := e3 3 (by decide)
  have e79 := e1 79 1 (by decide) (by decide)
  refine ⟨by rw [e220]; exact (h.now.mono hK hK').fr (fun o k a b => e1 o k a (by omega)), fun b hb => ?_, by rw [e79]; exact h.nx, by rw [e1 79 2 (by decide) (by decide), e5]; exact h.ln, fun j j0 j1 => ?_, ?_, hr, hs, ht, hc⟩
  · exact bgS_fr (h.beg b hb) (fun o k a c => by
      have : 1 ≤ b ∧ b ≤ 159 := by unfold stB at hb; omega
      exact e1 o k (by omega) (by omega))
  · have g := hAt_rg ν j
    have e6 : hAt T j = hAt ν j := by unfold hAt; rw [e79]
    have e7 : hRow T j = hRow ν j := by
      funext k
      unfold hRow
      rw [e5, e4 222 _ (Or.inr (Or.inl rfl))]
    rw [e6, e7]
    rw [e5] at j1
    exact ((h.his j j0 j1).mono hK hK').fr (fun o k a b => e1 o k (by omega) (by omega))
  · rw [e2 3 (by decide), e3 5 (by decide), e223]
    exact ⟨h.snp.1, h.snp.2.1, fun a => ((h.snp.2.2 a).mono hK hK').fr (fun o k a b => e1 o k (by omega) (by omega))⟩
theorem reas_why {m : Int → Int} {t words : Int} (h : askFM m t words = -6) : reasS m t words = whyM m t words ∧ 1 ≤ whyM m t words ∧ whyM m t words ≤ 3 := by
  have h1 := whyM_rg m t words
  unfold askFM at h
  unfold reasS
  split at h
  · omega
  · split at h
    · omega
    · split at h
      · omega
      · split at h
        · rw [if_neg (by omega), if_neg (by omega)]
          omega
        · omega
theorem two_ask {K : Int} {μ : Int → Int → Int} (h : IV K μ) (hK : K + 40000 ≤ 500000000) {t w : Int} : Two mi_Poo_ask mi_Mod_ask [vR 0, vI t, vI w] [vR 219, vI t, vI w] K μ := by
  have hR := (bf_R h).ri
  have hc := askFM_c (μ 220) t w
  by_cases q : askFM (μ 220) t w = 0
  · have hg := h.now.2.1.2.2.2.2.2.2.2.1
    have hroom := why_room (wr_room q).1
    obtain ⟨r1, r2, r3, r4, -⟩ := room_rg h.now.2.1 (szM_rg w) hroom
    have hne : lowF (μ 220) (hvM (μ 220) (szM w)) ≠ -5 := by omega
    obtain ⟨i, hi, i0, i1⟩ := lowF_4 h.now.2.2.1 hne
    have hi' : askW (μ 220) w = 4 * i := hi
    exact Two_o h hK (Fr_ask hR q hi') (RI_ask hR (by omega) q hi') (UO_ask h.now.2.1 h.now.2.2.2 q) (by omega) (by omega) (fun x y z => c_Poo_ask_o h.now.ri.al (c_Sta_grant_o hR q hi') (by omega) x y z) (fun ν hk => c_Mod_ask_o h.now.2.1 q hk)
  · by_cases q6 : askFM (μ 220) t w = -6
    · obtain ⟨y1, y2, y3⟩ := reas_why q6
      have hI := bf_IV h
      have hr := hI.ref (whyM (μ 220) t w) y2 y3
      have hrs := hI.ref
      have hKb := h.now.2.1.2.2.2.2.2.2.2.2.1
      have ca := c_Poo_ask_6 h.now.ri.al (c_Sta_grant_e hR q) q6 (c_Sta_whyNot hR) (by rw [y1]; exact ⟨y2, y3⟩) (by rw [y1, hr.1]; omega)
      rw [y1, q6] at ca
      have cb := c_Mod_ask_r (μ := upM (cS μ 27 1) 218 (whyM (μ 220) t w - 1) (cS μ 27 1 218 (whyM (μ 220) t w - 1) + 1)) h.now.2.1 q6 (by rw [upM_ne (Or.inl (by decide))]; omega)
      have e : (upM (cS μ 27 1) 218 (whyM (μ 220) t w - 1) (cS μ 27 1 218 (whyM (μ 220) t w - 1) + 1)) 220 = μ 220 := by
        funext k
        rw [upM_ne (Or.inl (by decide)), bf_e]
      have e2 : setO (upM (cS μ 27 1) 218 (whyM (μ 220) t w - 1) (cS μ 27 1 218 (whyM (μ 220) t w - 1) + 1)) 220 (μ 220) = upM (cS μ 27 1) 218 (whyM (μ 220) t w - 1) (cS μ 27 1 218 (whyM (μ 220) t w - 1) + 1) := by
        have h := setO_self (μ := upM (cS μ 27 1) 218 (whyM (μ 220) t w - 1) (cS μ 27 1 218 (whyM (μ 220) t w - 1) + 1)) (o := 220)
        rw [e] at h
        exact h
      rw [e2, upM_ne (Or.inl (by decide))] at cb
      refine ⟨-6, _, _, ca, cb, ?_, fun k => by rw [upM_ne (Or.inl (by decide)), cS_o (Or.inl (by decide))], fun k => by rw [setO_ne (by decide), upM_ne (Or.inl (by decide)), upM_ne (Or.inl (by decide)), cS_o (Or.inl (by decide))]⟩
      have e220 : cS μ 27 1 220 = μ 220 := bf_e
      generalize whyM (μ 220) t w = y at *
      generalize cS μ 27 1 = ν at *
      rw [← e220]
      have x : ∀ o k, o ≠ 218 → o ≠ 224 → setO (upM (upM ν 218 (y - 1) (ν 218 (y - 1) + 1)) 224 y (ν 224 y + 1)) 220 (ν 220) o k = ν o k := fun o k a b => by
        by_cases z : o = 220
        · rw [z, setO_at]
        · rw [setO_ne z, upM_ne (Or.inl b), upM_ne (Or.inl a)]
      have x8 : ∀ k, setO (upM (upM ν 218 (y - 1) (ν 218 (y - 1) + 1)) 224 y (ν 224 y + 1)) 220 (ν 220) 218 k = if k = y - 1 then ν 218 k + 1 else ν 218 k := fun k => by
        rw [setO_ne (by decide), upM_ne (Or.inl (by decide))]
        by_cases z : k = y - 1
        · rw [z, upM_eq, if_pos rfl]
        · rw [upM_ne (Or.inr z), if_neg z]
      have x4 : ∀ k, setO (upM (upM ν 218 (y - 1) (ν 218 (y - 1) + 1)) 224 y (ν 224 y + 1)) 220 (ν 220) 224 k = if k = y then ν 224 k + 1 else ν 224 k := fun k => by
        rw [setO_ne (by decide)]
        by_cases z : k = y
        · rw [z, upM_eq, if_pos rfl]
        · rw [upM_ne (Or.inr z), if_neg z, upM_ne (Or.inl (by decide))]
      generalize setO (upM (upM ν 218 (y - 1) (ν 218 (y - 1) + 1)) 224 y (ν 224 y + 1)) 220 (ν 220) = T at x x8 x4 ⊢
      refine IV_lite hI (by omega) hK (fun o k a b => x o k (by omega) (by omega)) (fun k _ => x 0 k (by decide) (by decide)) (fun k _ => x 219 k (by decide) (by decide)) (fun o k a => x o k (by omega) (by omega)) (fun k k0 k1 => ?_) ?_ ?_ (fun k k0 k1 => ?_)
      · have r := hrs k k0 k1
        rw [x8, x4]
        by_cases z : k = y
        · rw [if_pos (by omega), if_pos z]
          omega
        · rw [if_neg (by omega), if_neg z]
          omega
      · rw [x 0 7 (by decide) (by decide), x 0 8 (by decide) (by decide), x 0 9 (by decide) (by decide), x 219 9 (by decide) (by decide), x 219 10 (by decide) (by decide)]
        exact hI.stp
      · rw [x 185 1 (by decide) (by decide), x 219 8 (by decide) (by decide)]
        exact hI.txt
      · rw [x 186 _ (by decide) (by decide), x 225 _ (by decide) (by decide)]
        exact hI.chr k k0 k1
    · exact Two_e h hK (c_Poo_ask_e h.now.ri.al (c_Sta_grant_e hR q) (by omega) q6) (fun ν => c_Mod_ask_e h.now.2.1 (by omega) q6)

