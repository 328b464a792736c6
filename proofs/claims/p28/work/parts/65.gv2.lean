/-! the calls of the law: each is done or not, and keeps the pool so -/
def Op (a : MI) (x : List Vv) (K : Int) (μ : Int → Int → Int) (m : Int → Int) : Prop := ∃ (r : Int) (μ' : Int → Int → Int) (m' : Int → Int) (H' : Int → Int → Int), MetC a x (st μ) (some (vI r)) (st μ') ∧ GV (K + 40000) μ' m' H' ∧ m' 471 ≤ m 471 + 1 ∧ (∀ k, μ' (-1) k = μ (-1) k) ∧ -6 ≤ r
theorem Nd.op {a : MI} {x : List Vv} {K r : Int} {μ : Int → Int → Int} {m : Int → Int} {H : Int → Int → Int} (h : Nd a x K μ m H r) (hr : -6 ≤ r) : Op a x K μ m := by
  obtain ⟨μ', c, g, e⟩ := h
  exact ⟨r, μ', m, H, c, g, by omega, e, hr⟩
theorem Dn.op {a : MI} {x : List Vv} {K r : Int} {μ : Int → Int → Int} {m m' : Int → Int} {H : Int → Int → Int} (h : Dn a x K μ m H r m') (hr : -6 ≤ r) (hm : m' 471 ≤ m 471 + 1) : Op a x K μ m := by
  obtain ⟨μ', c, g, -, e⟩ := h
  exact ⟨r, μ', m', _, c, g, hm, e, hr⟩
section OP
variable {K : Int} {μ : Int → Int → Int} {m : Int → Int} {H : Int → Int → Int}
theorem op_touch (h : GV K μ m H) (hK : K + 40000 ≤ 500000000) (b : Int) : Op mi_Poo_touch [vR 0, vI b] K μ m := by
  have hR := (gf_R h).ri
  have hu := h.now.2.2.2
  have hW := h.now.2.1
  by_cases h1 : begOf m b = -5
  · exact (Nd_e h hK (c_Poo_touch_e h.now.ri.al (c_Sta_useNow_n hR h1) (by decide))).op (by decide)
  · obtain ⟨j, hj, j0, j1, ho, hn⟩ := begOf_4 h.now.2.2.1 h1
    by_cases h2 : m (384 + 4 * j) = m 466
    · exact (Nd_e h hK (c_Poo_touch_e h.now.ri.al (c_Sta_useNow_z hR hj j0 j1 h2) (by decide))).op (by decide)
    · have hle := hu (4 * j) (by omega) (by omega) ho
      exact (Dn_o h hK (Fr.rfl.up (by omega) (by omega)) (RI_touch hR j0 j1 hW.2.2.1) (UO_touch hu (by omega) (by omega)) (EX_hi h.ex (by omega)) (Int.le_refl _) (by omega) (fun a b c => c_Poo_touch_o h.now.ri.al (c_Sta_useNow_o hR hj j0 j1 h2) (by omega) a b c)).op (by omega) (by rw [up1_ne (by omega)]; omega)
theorem op_setLimit (h : GV K μ m H) (hK : K + 40000 ≤ 500000000) (t v : Int) : Op mi_Poo_setLimit [vR 0, vI t, vI v] K μ m := by
  have hR := (gf_R h).ri
  by_cases q : (t < 0 ∨ 5 < t) ∨ v < 0 ∨ 64 < v ∨ m (454 + t) = v
  · exact (Nd_e h hK (c_Poo_setLimit_e h.now.ri.al (c_Sta_changeLimit_e hR q) (by split <;> (try split) <;> decide))).op (by split <;> (try split) <;> decide)
  · have hb := (h.now.2.1.2.1 t (by omega) (by omega)).2.1
    exact (Dn_o h hK (Fr.rfl.up (by omega) (by omega)) (RI_lim hR (by omega) (by omega) ⟨by omega, by omega⟩) (UO_up h.now.2.2.2 (by omega)) (EX_hi h.ex (by omega)) (Int.le_refl _) (by omega) (fun a b c => c_Poo_setLimit_o h.now.ri.al (c_Sta_changeLimit_o hR ⟨by omega, by omega⟩ ⟨by omega, by omega⟩ (by omega)) (by omega) a b c)).op (by omega) (by rw [up1_ne (by omega)]; omega)
theorem op_setPatience (h : GV K μ m H) (hK : K + 40000 ≤ 500000000) (t : Int) : Op mi_Poo_setPatience [vR 0, vI t] K μ m := by
  have hR := (gf_R h).ri
  have hp := h.now.2.1.2.2.2.1
  by_cases q : t < 1 ∨ 500 < t
  · exact (Nd_e h hK (c_Poo_setPatience_e h.now.ri.al (c_Sta_changePatience_e hR q) (by decide))).op (by decide)
  · by_cases q2 : m 467 = t
    · exact (Nd_e h hK (c_Poo_setPatience_e h.now.ri.al (c_Sta_changePatience_n hR ⟨by omega, by omega⟩ q2) (by decide))).op (by decide)
    · exact (Dn_o h hK (Fr.rfl.up (by decide) (by decide)) (RI_pat hR ⟨by omega, by omega⟩) (UO_up h.now.2.2.2 (by omega)) (EX_hi h.ex (by omega)) (Int.le_refl _) (by omega) (fun a b c => c_Poo_setPatience_o h.now.ri.al (c_Sta_changePatience_o hR ⟨by omega, by omega⟩ q2) (by omega) a b c)).op (by omega) (by rw [up1_ne (by omega)]; omega)
theorem op_pass (h : GV K μ m H) (hK : K + 40000 ≤ 500000000) (t : Int) : Op mi_Poo_pass [vR 0, vI t] K μ m := by
  have hR := (gf_R h).ri
  have hc := psFM_c m t
  by_cases q : psFM m t < 0
  · exact (Nd_e h hK (c_Poo_pass_e h.now.ri.al (c_Sta_advance_e hR q) q)).op (by omega)
  · have q0 : psFM m t = 0 := by omega
    have hu := lks_up (v := m 466 + t) h.now.2.1 (by omega)
    have hu' : lksM m 6 ≤ lksM (psM m t) 6 := hu
    have hc0 := h.now.2.1.2.2.1
    exact (Dn_o h hK (Fr.rfl.up (by decide) (by decide)) (RI_clock hR ⟨by omega, by omega⟩) (UO_clock h.now.2.2.2 (by omega)) (EX_hi h.ex (by omega)) (Int.le_refl _) (by omega) (fun a b c => c_Poo_pass_o h.now.ri.al (c_Sta_advance_o hR q0) (by omega) a b c)).op (by omega) (by rw [up1_ne (by omega)]; omega)
theorem op_live (h : GV K μ m H) (hK : K + 40000 ≤ 500000000) (t : Int) {a : Int} (ha : a = 0 ∨ a = 1) : Op mi_Poo_live [vR 0, vI t, vI a] K μ m := by
  have hR := (gf_R h).ri
  by_cases q : (t < 0 ∨ 5 < t) ∨ (m (448 + t) = 0 ∧ a = 1) ∨ (m (448 + t) ≠ 0 ∧ a = 0)
  · exact (Nd_e h hK (c_Poo_live_e h.now.ri.al (c_Sta_makeAlive_e hR ha q) (by split <;> decide))).op (by split <;> decide)
  · have hb := (h.now.2.1.2.1 t (by omega) (by omega)).1
    have hs : ∀ f, 0 ≤ blksM f t := fun f => (sum1_bd (fun w => owd f w ∧ f (256 + w) = t)).1
    exact (Dn_o h hK (Fr.rfl.up (by omega) (by omega)) (RI_live hR (t := t) (v := a) (v' := 1 - a) (by omega) (by omega) ⟨by omega, by omega⟩ (by omega)) (UO_up h.now.2.2.2 (by omega)) (EX_hi h.ex (by omega)) (Int.le_refl _) (by omega) (fun x y z => c_Poo_live_o h.now.ri.al (c_Sta_makeAlive_o hR ha ⟨by omega, by omega⟩ (by omega)) (hs _) x y z)).op (by have := hs (up1 m (448 + t) (1 - a)); omega) (by rw [up1_ne (by omega)]; omega)
theorem fr_hi (hW : MW K m) {b k : Int} (b0 : 0 ≤ b) (b1 : b < 64) (hk : 256 ≤ k ∧ k ≠ 469 ∧ k ≠ 470) : frM m b k = m k := by
  have g := hW.1 b b0 b1
  unfold frM
  rw [jn_k b0 b1 (by omega) (by omega), fr0_k (by omega) (by omega) (by omega)]
theorem dn_back (h : GV K μ m H) (hK : K + 40000 ≤ 500000000) {t b j : Int} (q : bkFM m t b = 0) (hj : begOf m b = 4 * j) (j0 : 0 ≤ j) (j1 : j < 16) (ho : owd m (4 * j)) : Dn mi_Poo_giveBack [vR 0, vI t, vI b] K μ m H (brkM m (4 * j)) (frM m (4 * j)) := by
  have hR := (gf_R h).ri
  have hk0 := brkM_rg h.now.2.1 (b := 4 * j) (by omega) (by omega)
  have h64 := (h.now.2.1.1 (4 * j) (by omega) (by omega)).2.2.2.2.2.2.2
  exact Dn_o h hK (Fr_frC j0 j1) (RI_fr hR (by omega) j0 j1 ho) (UO_fr h.now.2.2.2 (by omega) (by omega) h64) (EX_fr h.now.2.1 h.now.2.2.1 h.ex (by omega) (by omega) ho) (by omega) (by omega) (fun x y z => c_Poo_giveBack_o h.now.ri.al (c_Sta_takeBack_o hR (by omega) q hj j0 j1 ho) (by omega) x y z)
theorem op_giveBack (h : GV K μ m H) (hK : K + 40000 ≤ 500000000) (t b : Int) : Op mi_Poo_giveBack [vR 0, vI t, vI b] K μ m := by
  have hR := (gf_R h).ri
  have hc := bkFM_c m t b
  by_cases q : bkFM m t b = 0
  · have hb : begOf m b ≠ -5 := by omega
    obtain ⟨j, hj, j0, j1, ho, hn⟩ := begOf_4 h.now.2.2.1 hb
    have hk0 := brkM_rg h.now.2.1 (b := 4 * j) (by omega) (by omega)
    exact (dn_back h hK q hj j0 j1 ho).op (by omega) (by rw [fr_hi h.now.2.1 (by omega) (by omega) (by omega)]; omega)
  · have q2 : bkFM m t b < 0 := by omega
    exact (Nd_e h hK (c_Poo_giveBack_e h.now.ri.al (c_Sta_takeBack_e hR q) q2)).op (by omega)
theorem sw_471 : ∀ (n : Nat) (w K : Int) (m : Int → Int), MW K m → K + 19 * n ≤ 500000000 → 0 ≤ w → w + n = 64 → swM n w m 471 = m 471
  | 0, _, _, _ => fun _ _ _ _ => rfl
  | n + 1, w, K, m => fun hW hK w0 w1 => by
    by_cases hl : lkM m w
    · rw [swM_y hl, sw_471 n (w + 1) (K + 19) _ (MW_fr hW (by omega) w0 (by omega)) (by omega) (by omega) (by omega), fr_hi hW w0 (by omega) (by omega)]
    · rw [swM_n hl, sw_471 n (w + 1) K m hW (by omega) (by omega) (by omega)]
theorem op_sweep (h : GV K μ m H) (hK : K + 40000 ≤ 500000000) : ∃ (r : Int) (μ' : Int → Int → Int) (m' : Int → Int) (H' : Int → Int → Int), MetC mi_Poo_sweep [vR 0] (st μ) (some (vI r)) (st μ') ∧ GV (K + 40000) μ' m' H' ∧ m' 471 ≤ m 471 + 1 ∧ (∀ k, μ' (-1) k = μ (-1) k) ∧ -6 ≤ r ∧ lksM m' 6 = 0 := by
  have hR := (gf_R h).ri
  by_cases q : lksM m 6 = 0
  · obtain ⟨μ', c, g, e⟩ := Nd_e h hK (c_Poo_sweep_e h.now.ri.al (c_Sta_takeLeaksBack_e hR (by omega) q) (by decide))
    exact ⟨-5, μ', m, H, c, g, by omega, e, by decide, q⟩
  · have hS := RI_sl 16 0 K (cS μ 27 1) m hR (Int.le_refl _) rfl (by omega)
    obtain ⟨e1, e2⟩ := EX_sl 16 0 K (cS μ 27 1) m hR h.ex (Int.le_refl _) rfl (by omega) (fun u a b => by omega)
    obtain ⟨μ', c, g, -, e⟩ := Dn_o h hK (Fr_slC 16 0 _ _ (Int.le_refl _) rfl) hS (UO_sw 64 0 K m h.now.2.1 (by omega) (Int.le_refl _) rfl h.now.2.2.2) e1 (by omega) (by omega) (fun x y z => c_Poo_sweep_o h.now.ri.al (c_Sta_takeLeaksBack_o hR (by omega) q) (swN_0 64 0 _) x y z)
    have hs := swN_0 64 0 m
    have h471 := sw_471 64 0 K m h.now.2.1 (by omega) (Int.le_refl _) rfl
    exact ⟨_, μ', _, _, c, g, by rw [show (4 * 16 : Nat) = 64 from rfl, show (4 * 0 : Int) = 0 from rfl, h471]; omega, e, by omega, lks_0 e2⟩
theorem dn_ask (h : GV K μ m H) (hK : K + 40000 ≤ 500000000) {t w : Int} (q : askFM m t w = 0) : Dn mi_Poo_ask [vR 0, vI t, vI w] K μ m H (m 471) (askM m t w) := by
  have hR := (gf_R h).ri
  have hg := h.now.2.1.2.2.2.2.2.2.2.1
  have hroom := why_room (wr_room q).1
  obtain ⟨r1, r2, r3, r4, -⟩ := room_rg h.now.2.1 (szM_rg w) hroom
  have hne : lowF m (hvM m (szM w)) ≠ -5 := by omega
  obtain ⟨i, hi, i0, i1⟩ := lowF_4 h.now.2.2.1 hne
  have hi' : askW m w = 4 * i := hi
  exact Dn_o h hK (Fr_ask hR q hi') (RI_ask hR (by omega) q hi') (UO_ask h.now.2.1 h.now.2.2.2 q) (EX_ask h.now.2.1 h.now.2.2.1 h.ex q) (by omega) (by omega) (fun x y z => c_Poo_ask_o h.now.ri.al (c_Sta_grant_o hR q hi') (by omega) x y z)
theorem nd_ask6 (h : GV K μ m H) (hK : K + 40000 ≤ 500000000) {t w : Int} (q6 : askFM m t w = -6) : ∃ μ', MetC mi_Poo_ask [vR 0, vI t, vI w] (st μ) (some (vI (-6))) (st μ') ∧ GV (K + 40000) μ' m H ∧ (∀ k, μ' (-1) k = μ (-1) k) ∧ μ' 218 (whyM m t w - 1) = μ 218 (whyM m t w - 1) + 1 := by
  have hR := (gf_R h).ri
  obtain ⟨y1, y2, y3⟩ := reas_why q6
  have hI := gf_GV h
  have hr := hI.ref (whyM m t w - 1) (by omega) (by omega)
  have hrs := hI.ref
  have ca := c_Poo_ask_6 h.now.ri.al (c_Sta_grant_e hR (by omega)) q6 (c_Sta_whyNot hR) (by rw [y1]; exact ⟨y2, y3⟩) (by rw [y1]; omega)
  rw [y1, q6] at ca
  have e8 : ∀ k, cS μ 27 1 218 k = μ 218 k := fun k => cS_o (by omega)
  refine ⟨_, ca, ?_, fun k => by rw [upM_ne (Or.inl (by decide)), cS_o (Or.inl (by decide))], by rw [upM_eq, e8]⟩
  generalize whyM m t w = y at *
  have x : ∀ o k, o ≠ 218 → upM (cS μ 27 1) 218 (y - 1) (cS μ 27 1 218 (y - 1) + 1) o k = cS μ 27 1 o k := fun o k a => upM_ne (Or.inl a)
  have x8 : ∀ k, upM (cS μ 27 1) 218 (y - 1) (cS μ 27 1 218 (y - 1) + 1) 218 k = if k = y - 1 then cS μ 27 1 218 k + 1 else cS μ 27 1 218 k := fun k => by
    by_cases z : k = y - 1
    · rw [z, upM_eq, if_pos rfl]
    · rw [upM_ne (Or.inr z), if_neg z]
  generalize upM (cS μ 27 1) 218 (y - 1) (cS μ 27 1 218 (y - 1) + 1) = T at *
  generalize cS μ 27 1 = ν at *
  have hM := hI.mono (K' := K + 40000) (by omega) hK
  have e79 := x 79 1 (by decide)
  refine ⟨⟨hM.now.fr (fun o k a b => x o k (by omega)), hI.ex⟩, fun b hb => bgS_fr (hI.beg b hb) (fun o k a c => x o k (by unfold stB at hb; omega)), by rw [e79]; exact hI.nx, by rw [x 79 2 (by decide)]; exact hI.ln, fun j j0 j1 => ?_, fun k k0 k1 => ?_⟩
  · have g := hAt_rg ν j
    have e4 : hAt T j = hAt ν j := by unfold hAt; rw [e79]
    rw [x 79 2 (by decide)] at j1
    rw [e4]
    exact ⟨(hM.his j j0 j1).1.fr (fun o k a b => x o k (by omega)), (hI.his j j0 j1).2⟩
  · rw [x8]
    have := hrs k k0 k1
    split <;> omega
theorem op_ask (h : GV K μ m H) (hK : K + 40000 ≤ 500000000) (t w : Int) : Op mi_Poo_ask [vR 0, vI t, vI w] K μ m := by
  have hR := (gf_R h).ri
  have hc := askFM_c m t w
  have hg := h.now.2.1.2.2.2.2.2.2.2.1
  by_cases q : askFM m t w = 0
  · exact (dn_ask h hK q).op (by omega) (by unfold askM; rw [up1_at]; omega)
  · by_cases q6 : askFM m t w = -6
    · obtain ⟨μ', c, g, e, -⟩ := nd_ask6 h hK q6
      exact ⟨-6, μ', m, H, c, g, by omega, e, by decide⟩
    · exact (Nd_e h hK (c_Poo_ask_e h.now.ri.al (c_Sta_grant_e hR q) (by omega) q6)).op (by omega)
theorem op_write (h : GV K μ m H) (hK : K + 40000 ≤ 500000000) (t b i v : Int) : Op mi_Poo_write [vR 0, vI t, vI b, vI i, vI v] K μ m := by
  have hR := (gf_R h).ri
  have hc := wrFM_c m t b i v
  by_cases q : wrFM m t b i v = 0
  · have hne : begOf m b ≠ -5 := by omega
    obtain ⟨j, hj, j0, j1, ho, hn⟩ := begOf_4 h.now.2.2.1 hne
    rw [hj] at hc
    have hW := h.now.2.1
    have hU := h.now.2.2.2
    have hz := hW.2.2.2.2.2.2.2.2.2
    obtain ⟨p, ep, p0, p1, g0, g1, hu⟩ := tile hW h.now.2.2.1 (w := 4 * j + 1 + i) (by omega) (by omega)
    have hc0 := hW.2.2.1
    have hKK := hW.2.2.2.2.2.2.2.2.1
    have htb := (hW.2.1 t (by omega) (by omega)).2.2
    have hT := RI_touch hR (j := j) (v := m 466) j0 j1 hc0
    have hUT := UO_touch hU (j := 4 * j) (by omega) (by omega)
    have hET : EX (wuM m (4 * j)) := EX_hi h.ex (k := 384 + 4 * j) (v := m 466) (by omega)
    have hFT : Fr (cS μ 27 1) (upM (cS μ 27 1) (3 + j) 5 (m 466)) := Fr.rfl.up (by omega) (by omega)
    have hal := h.now.ri.al
    have ml := h.now.2.2.1.2.2.1
    generalize hw : 4 * j + 1 + i = w at *
    have w0 : 0 ≤ w ∧ w < 64 := by omega
    obtain ⟨-, ht0, -, hi0, hv0, hown, hliv, -⟩ := hc.resolve_left (by omega)
    clear hc
    have f1 : ∀ k, k < 384 → wuM m (4 * j) k = m k := fun k a => up1_ne (by omega)
    have f471 : wuM m (4 * j) 471 = m 471 := up1_ne (by omega)
    have b1 : bgn (wuM m (4 * j)) w = 4 * p := by
      rw [← ep]
      exact bgF_ext hz (fun u u0 u1 => f1 _ (by omega)) 64 w w0.1 w0.2
    have o1 : fre (wuM m (4 * j)) (4 * p) ↔ fre m (4 * p) := by
      unfold fre
      rw [f1 _ (by omega), f1 _ (by omega)]
    have o2 : grdM (wuM m (4 * j)) w ↔ (owd m (4 * p) ∧ (w = 4 * p ∨ w = 4 * p + m (320 + 4 * p) + 1)) := by
      unfold grdM owd
      rw [b1, f1 _ (by omega), f1 _ (by omega), f1 _ (by omega)]
    by_cases hf : fre m (4 * p)
    · exact (Dn_o h hK hFT hT hUT hET (Int.le_refl _) (by omega) (fun x y z => c_Poo_write_o hal (c_Sta_put_3 hR q hj j0 j1 ho p0 p1 hw.symm g0 g1 hu (fun z => z.2 hf.2)) (by decide) x y z)).op (by decide) (by show wuM m (4 * j) 471 ≤ _; rw [f471]; omega)
    · have hod : owd m (4 * p) := ⟨by omega, fun z => hf ⟨by omega, z⟩⟩
      by_cases hg : w = 4 * p ∨ w = 4 * p + m (320 + 4 * p) + 1
      · have gT : grdM (wuM m (4 * j)) w := o2.mpr ⟨hod, hg⟩
        have hUw : ∀ x, UO (up1 (up1 (up1 (wuM m (4 * j)) (460 + t) x) (0 + w) v) (64 + w) 1) := fun x => UO_up (UO_up (UO_up hUT (by omega)) (by omega)) (by omega)
        by_cases hm : m w = 0
        · have gH : grdM (up1 (wuM m (4 * j)) (460 + t) (m (460 + t) + 1)) w := by
            have : ∀ k, k < 384 → up1 (wuM m (4 * j)) (460 + t) (m (460 + t) + 1) k = m k := fun k a => by rw [up1_ne (by omega), f1 k a]
            have b3 : bgn (up1 (wuM m (4 * j)) (460 + t) (m (460 + t) + 1)) w = 4 * p := by
              rw [← ep]
              exact bgF_ext hz (fun u u0 u1 => this _ (by omega)) 64 w w0.1 w0.2
            unfold grdM owd
            rw [b3, this _ (by omega), this _ (by omega), this _ (by omega)]
            exact ⟨hod, hg⟩
          have hR2 := RI_wb (RI_hit (hT.mono (show K ≤ K + 1 by omega) (by omega)) (t := t) (v := m (460 + t) + 1) (by omega) (by omega) ⟨by omega, by omega⟩) w0.1 w0.2 (show v ≠ 0 by omega) gH
          exact (Dn_o h hK ((hFT.up (by omega) (by omega)).up (by decide) (by decide)) hR2 (hUw _) (EX_hi (EX_val (EX_hi hET (by omega)) w0.1 w0.2 (by omega)) (by omega)) (by omega) (by omega) (fun x y z => c_Poo_write_o hal (c_Sta_put_b hR q hj j0 j1 ho p0 p1 hw.symm g0 g1 hu hod hg hm) (by decide) x y z)).op (by decide) (by rw [up1_ne (by omega), up1_ne (by omega), up1_ne (by omega)]; show wuM m (4 * j) 471 ≤ _; rw [f471]; omega)
        · have hR2 := RI_wb hT w0.1 w0.2 (show v ≠ 0 by omega) gT
          exact (Dn_o h hK (hFT.up (by decide) (by decide)) hR2 (UO_up (UO_up hUT (by omega)) (by omega)) (EX_hi (EX_val hET w0.1 w0.2 (by omega)) (by omega)) (by omega) (by omega) (fun x y z => c_Poo_write_o hal (c_Sta_put_2 hR q hj j0 j1 ho p0 p1 hw.symm g0 g1 hu hod hg hm) (by decide) x y z)).op (by decide) (by rw [up1_ne (by omega), up1_ne (by omega)]; show wuM m (4 * j) 471 ≤ _; rw [f471]; omega)
      · have gT : ¬ grdM (wuM m (4 * j)) w := fun z => hg (o2.mp z).2
        have hR2 := RI_wv hT (v := v) w0.1 w0.2 (by show ¬ fre (wuM m (4 * j)) (bgn (wuM m (4 * j)) w); rw [b1]; exact fun z => hf (o1.mp z)) gT
        have hk0 := kM_rg m w j p
        exact (Dn_o h hK (hFT.up (by decide) (by decide)) hR2 (UO_up hUT (by omega)) (EX_val hET w0.1 w0.2 (by omega)) (by omega) (by omega) (fun x y z => c_Poo_write_o hal (c_Sta_put_1 hR q hj j0 j1 ho p0 p1 hw.symm g0 g1 hu hod hg) (by omega) x y z)).op (by omega) (by rw [up1_ne (by omega)]; show wuM m (4 * j) 471 ≤ _; rw [f471]; omega)
  · have q2 : wrFM m t b i v < 0 := by omega
    exact (Nd_e h hK (c_Poo_write_e h.now.ri.al (c_Sta_put_e hR q2) q2)).op (by omega)
end OP
