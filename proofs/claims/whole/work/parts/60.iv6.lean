/-! the steps: write -/
theorem bgF_ext {m m' : Int → Int} (hz : m 128 ≠ 0) (e : ∀ u, 0 ≤ u → u < 64 → m' (128 + u) = m (128 + u)) : ∀ (n : Nat) (w : Int), 0 ≤ w → w < 64 → bgF m' n w = bgF m n w
  | 0, _ => fun _ _ => rfl
  | n + 1, w => fun w0 w1 => by
    show (if m' (128 + w) = 0 then bgF m' n (w - 1) else w) = (if m (128 + w) = 0 then bgF m n (w - 1) else w)
    rw [e w w0 w1]
    by_cases q : m (128 + w) = 0
    · rw [if_pos q, if_pos q]
      have : w ≠ 0 := fun z => by
        rw [z] at q
        exact hz q
      exact bgF_ext hz e n (w - 1) (by omega) (by omega)
    · rw [if_neg q, if_neg q]
theorem up1_cm {f : Int → Int} {a b x y : Int} (h : a ≠ b) : up1 (up1 f a x) b y = up1 (up1 f b y) a x := by
  funext k
  by_cases q : k = b
  · rw [q, up1_at, up1_ne (Ne.symm h), up1_at]
  · rw [up1_ne q]
    by_cases z : k = a
    · rw [z, up1_at, up1_at]
    · rw [up1_ne z, up1_ne z, up1_ne q]
theorem up1_id {f : Int → Int} {a : Int} : up1 f a (f a) = f := by
  funext k
  by_cases q : k = a
  · rw [q, up1_at]
  · rw [up1_ne q]
theorem two_write {K : Int} {μ : Int → Int → Int} (h : IV K μ) (hK : K + 40000 ≤ 500000000) {t b i v : Int} : Two mi_Poo_write mi_Mod_write [vR 0, vI t, vI b, vI i, vI v] [vR 219, vI t, vI b, vI i, vI v] K μ := by
  have hR := (bf_R h).ri
  have hc := wrFM_c (μ 220) t b i v
  by_cases q : wrFM (μ 220) t b i v = 0
  · have hne : begOf (μ 220) b ≠ -5 := by omega
    obtain ⟨j, hj, j0, j1, ho, hn⟩ := begOf_4 h.now.2.2.1 hne
    rw [hj] at hc
    have hW := h.now.2.1
    have hU := h.now.2.2.2
    have hz := hW.2.2.2.2.2.2.2.2.2
    obtain ⟨p, ep, p0, p1, g0, g1, hu⟩ := tile hW h.now.2.2.1 (w := 4 * j + 1 + i) (by omega) (by omega)
    have h3 := fun ν : Int → Int → Int => c_Mod_write_3 (μ := ν) (t := t) (b := b) (i := i) (v := v) (m := μ 220) (K := K)
    have h2 := fun ν : Int → Int → Int => c_Mod_write_2 (μ := ν) (t := t) (b := b) (i := i) (v := v) (m := μ 220) (K := K)
    have h1 := fun ν : Int → Int → Int => c_Mod_write_1 (μ := ν) (t := t) (b := b) (i := i) (v := v) (m := μ 220) (K := K)
    rw [hj] at h1 h2 h3
    have hc0 := hW.2.2.1
    have hKK := hW.2.2.2.2.2.2.2.2.1
    have htb := (hW.2.1 t (by omega) (by omega)).2.2
    have hT := RI_touch hR (j := j) (v := μ 220 466) j0 j1 hc0
    have hUT := UO_touch hU (j := 4 * j) (by omega) (by omega)
    have hFT : Fr (cS μ 27 1) (upM (cS μ 27 1) (3 + j) 5 (μ 220 466)) := Fr.rfl.up (by omega) (by omega)
    have hal := h.now.ri.al
    have ml := h.now.2.2.1.2.2.1
    generalize hw : 4 * j + 1 + i = w at *
    have w0 : 0 ≤ w ∧ w < 64 := by omega
    obtain ⟨-, ht0, -, hi0, hv0, hown, hliv, -⟩ := hc.resolve_left (by omega)
    clear hc
    have f1 : ∀ k, k < 384 → wuM (μ 220) (4 * j) k = (μ 220) k := fun k a => up1_ne (by omega)
    have f2 : ∀ k, k < 384 → k ≠ w → wvM (μ 220) (4 * j) w v k = (μ 220) k := fun k a b => by
      unfold wvM
      rw [up1_ne (by omega), f1 k a]
    have b1 : bgn (wuM (μ 220) (4 * j)) w = 4 * p := by
      rw [← ep]
      exact bgF_ext hz (fun u u0 u1 => f1 _ (by omega)) 64 w w0.1 w0.2
    have b2' : bgn (wvM (μ 220) (4 * j) w v) w = 4 * p := by
      rw [← ep]
      exact bgF_ext hz (fun u u0 u1 => f2 _ (by omega) (by omega)) 64 w w0.1 w0.2
    have o1 : fre (wuM (μ 220) (4 * j)) (4 * p) ↔ fre (μ 220) (4 * p) := by
      unfold fre
      rw [f1 _ (by omega), f1 _ (by omega)]
    have o2 : grdM (wuM (μ 220) (4 * j)) w ↔ (owd (μ 220) (4 * p) ∧ (w = 4 * p ∨ w = 4 * p + (μ 220) (320 + 4 * p) + 1)) := by
      unfold grdM owd
      rw [b1, f1 _ (by omega), f1 _ (by omega), f1 _ (by omega)]
    have o3 : grdM (wvM (μ 220) (4 * j) w v) w ↔ (owd (μ 220) (4 * p) ∧ (w = 4 * p ∨ w = 4 * p + (μ 220) (320 + 4 * p) + 1)) := by
      unfold grdM owd
      rw [b2', f2 _ (by omega) (by omega), f2 _ (by omega) (by omega), f2 _ (by omega) (by omega)]
    by_cases hf : fre (μ 220) (4 * p)
    · exact Two_o h hK hFT hT hUT (Int.le_refl _) (by omega) (fun x y z => c_Poo_write_o hal (c_Sta_put_3 hR q hj j0 j1 ho p0 p1 hw.symm g0 g1 hu (fun z => z.2 hf.2)) (by decide) x y z) (fun ν hk => h3 ν hW q hk (by rw [ep]; exact o1.mpr hf))
    · have hod : owd (μ 220) (4 * p) := ⟨by omega, fun z => hf ⟨by omega, z⟩⟩
      have hf' : ¬ fre (wuM (μ 220) (4 * j)) (bgn (μ 220) w) := by
        rw [ep]
        exact fun z => hf (o1.mp z)
      by_cases hg : w = 4 * p ∨ w = 4 * p + (μ 220) (320 + 4 * p) + 1
      · have gT : grdM (wuM (μ 220) (4 * j)) w := o2.mpr ⟨hod, hg⟩
        have gV : grdM (wvM (μ 220) (4 * j) w v) w := o3.mpr ⟨hod, hg⟩
        have hl := ml (4 * p) (by omega) (by omega) hod
        have hbk : (μ 220) (64 + w) = b2 ((μ 220) w ≠ 0) := by
          rcases hg with e | e
          · rw [e]; exact hl.2.2.1
          · rw [e, show 64 + (4 * p + (μ 220) (320 + 4 * p) + 1) = 64 + 4 * p + (μ 220) (320 + 4 * p) + 1 by omega]; exact hl.2.2.2
        have k1 : wvM (μ 220) (4 * j) w v (64 + w) = (μ 220) (64 + w) := f2 _ (by omega) (by omega)
        have k2 : wvM (μ 220) (4 * j) w v (460 + t) = (μ 220) (460 + t) := by
          unfold wvM wuM
          rw [up1_ne (by omega), up1_ne (by omega)]
        have hUw : ∀ x, UO (up1 (up1 (up1 (wuM (μ 220) (4 * j)) (460 + t) x) (0 + w) v) (64 + w) 1) := fun x => UO_up (UO_up (UO_up hUT (by omega)) (by omega)) (by omega)
        by_cases hm : (μ 220) w = 0
        · have hbk0 : (μ 220) (64 + w) = 0 := by rw [hbk]; exact b2_f (fun z => z hm)
          have e : wbM (wvM (μ 220) (4 * j) w v) t w = up1 (up1 (up1 (wuM (μ 220) (4 * j)) (460 + t) ((μ 220) (460 + t) + 1)) (0 + w) v) (64 + w) 1 := by
            unfold wbM
            rw [k1, k2, hbk0, if_neg (by decide)]
            unfold wvM
            rw [up1_cm (show (0 : Int) + w ≠ 460 + t by omega)]
          rw [e] at h2
          have gH : grdM (up1 (wuM (μ 220) (4 * j)) (460 + t) ((μ 220) (460 + t) + 1)) w := by
            have : ∀ k, k < 384 → up1 (wuM (μ 220) (4 * j)) (460 + t) ((μ 220) (460 + t) + 1) k = (μ 220) k := fun k a => by rw [up1_ne (by omega), f1 k a]
            have b3 : bgn (up1 (wuM (μ 220) (4 * j)) (460 + t) ((μ 220) (460 + t) + 1)) w = 4 * p := by
              rw [← ep]
              exact bgF_ext hz (fun u u0 u1 => this _ (by omega)) 64 w w0.1 w0.2
            unfold grdM owd
            rw [b3, this _ (by omega), this _ (by omega), this _ (by omega)]
            exact ⟨hod, hg⟩
          have hR2 := RI_wb (RI_hit (hT.mono (show K ≤ K + 1 by omega) (by omega)) (t := t) (v := (μ 220) (460 + t) + 1) (by omega) (by omega) ⟨by omega, by omega⟩) w0.1 w0.2 (show v ≠ 0 by omega) gH
          exact Two_o h hK ((hFT.up (by omega) (by omega)).up (by decide) (by decide)) hR2 (hUw _) (by omega) (by omega) (fun x y z => c_Poo_write_o hal (c_Sta_put_b hR q hj j0 j1 ho p0 p1 hw.symm g0 g1 hu hod hg hm) (by decide) x y z) (fun ν hk => h2 ν hW q hk hf' gV)
        · have hbk1 : (μ 220) (64 + w) = 1 := by rw [hbk]; exact b2_t hm
          have e : wbM (wvM (μ 220) (4 * j) w v) t w = up1 (up1 (wuM (μ 220) (4 * j)) (0 + w) v) (64 + w) 1 := by
            unfold wbM
            rw [k1, hbk1, if_pos rfl, Int.add_zero, up1_id]
            rfl
          rw [e] at h2
          have hR2 := RI_wb hT w0.1 w0.2 (show v ≠ 0 by omega) gT
          exact Two_o h hK (hFT.up (by decide) (by decide)) hR2 (UO_up (UO_up hUT (by omega)) (by omega)) (by omega) (by omega) (fun x y z => c_Poo_write_o hal (c_Sta_put_2 hR q hj j0 j1 ho p0 p1 hw.symm g0 g1 hu hod hg hm) (by decide) x y z) (fun ν hk => h2 ν hW q hk hf' gV)
      · have gT : ¬ grdM (wuM (μ 220) (4 * j)) w := fun z => hg (o2.mp z).2
        have gV : ¬ grdM (wvM (μ 220) (4 * j) w v) w := fun z => hg (o3.mp z).2
        have hR2 := RI_wv hT (v := v) w0.1 w0.2 (by show ¬ fre (wuM (μ 220) (4 * j)) (bgn (wuM (μ 220) (4 * j)) w); rw [b1]; exact fun z => hf (o1.mp z)) gT
        have er : (if bgn (μ 220) w ≠ 4 * j then (1 : Int) else if 0 ≤ i ∧ i ≤ (μ 220) (320 + 4 * j) - 1 then 0 else 4) = kM (μ 220) w j p := by
          rw [ep]
          unfold kM
          by_cases z : p = j
          · subst z
            rw [if_neg (show ¬ (4 * p ≠ 4 * p) from fun z => z rfl), if_neg (show ¬ (p ≠ p) from fun z => z rfl)]
            by_cases y : 0 ≤ i ∧ i ≤ (μ 220) (320 + 4 * p) - 1
            · rw [if_pos y, if_pos (by omega)]
            · rw [if_neg y, if_neg (by omega)]
          · rw [if_pos (by omega), if_pos z]
        rw [er] at h1
        have hk0 := kM_rg (μ 220) w j p
        exact Two_o h hK (hFT.up (by decide) (by decide)) hR2 (UO_up hUT (by omega)) (by omega) (by omega) (fun x y z => c_Poo_write_o hal (c_Sta_put_1 hR q hj j0 j1 ho p0 p1 hw.symm g0 g1 hu hod hg) (by omega) x y z) (fun ν hk => h1 ν hW q hk hf' gV)
  · have q2 : wrFM (μ 220) t b i v < 0 := by omega
    exact Two_e h hK (c_Poo_write_e h.now.ri.al (c_Sta_put_e hR q2) q2) (fun ν => c_Mod_write_e h.now.2.1 q2)

