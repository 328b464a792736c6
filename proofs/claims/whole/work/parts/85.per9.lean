/-! one command, on both sides -/
/-- the row beyond its 472 places is what it was -/
def OE (m m' : Int → Int) : Prop := ∀ k, (k < 0 ∨ 472 ≤ k) → m' k = m k
theorem OE.rfl {m : Int → Int} : OE m m := fun _ _ => Eq.refl _
theorem OE.tr {m m' m'' : Int → Int} (h : OE m m') (h' : OE m' m'') : OE m m'' := fun k a => (h' k a).trans (h k a)
theorem OE.up {m m' : Int → Int} (h : OE m m') {k v : Int} (hk : 0 ≤ k ∧ k < 472) : OE m (up1 m' k v) := fun j a => by
  rw [up1_ne (by omega)]
  exact h j a
theorem OE_spl {m : Int → Int} {w z : Int} (w0 : 0 ≤ w) (z0 : 0 < z) (w1 : w + 2 * z ≤ 64) : OE m (spl1 m w z) := (((OE.rfl.up ⟨by omega, by omega⟩).up ⟨by omega, by omega⟩).up ⟨by omega, by omega⟩).up ⟨by decide, by decide⟩
theorem OE_tak {K : Int} {m : Int → Int} (hW : MW K m) {z : Int} (hz : z = 4 ∨ z = 8 ∨ z = 16) (hr : roomM m z) : OE m (takM m z) := by
  obtain ⟨h1, h2, h3, -, -⟩ := room_rg hW hz hr
  rcases h1 with e | ⟨e, z1⟩ | ⟨e, z1⟩
  · rw [tak_1 e]
    exact OE.rfl
  · rw [tak_2 (by omega) e]
    rw [e] at h2 h3
    exact OE_spl h2 (by omega) h3
  · rw [tak_3 (by omega) e]
    rw [e] at h2 h3
    exact (OE_spl h2 (by omega) (by omega)).tr (OE_spl h2 (by omega) (by omega))
theorem OE_ask {K : Int} {m : Int → Int} (hW : MW K m) {t words : Int} (hf : askFM m t words = 0) : OE m (askM m t words) := by
  have hr := why_room (wr_room hf).1
  have hu := OE_tak hW (szM_rg words) hr
  obtain ⟨-, h2, h3, -, -⟩ := room_rg hW (szM_rg words) hr
  have hs := szM_rg words
  have hv : 0 < hvM m (szM words) := by
    unfold hvM
    split
    · omega
    · split <;> omega
  have h2' : 0 ≤ askW m words := h2
  have h3' : askW m words < 64 := by
    have : askW m words + hvM m (szM words) ≤ 64 := h3
    omega
  unfold askM
  generalize takM m (szM words) = f at hu ⊢
  generalize askW m words = w at h2' h3' ⊢
  exact ((((hu.up ⟨by omega, by omega⟩).up ⟨by omega, by omega⟩).up ⟨by omega, by omega⟩).up ⟨by omega, by omega⟩).up ⟨by decide, by decide⟩
theorem OE_js {m : Int → Int} {w z : Int} (w0 : 0 ≤ w) (w1 : w < 64) (hz : z = 4 ∨ z = 8) (hm : m (128 + w) = z) : OE m (jsM m w) := by
  have g := lw_rg w0 w1 hz hm
  unfold jsM
  rw [hm]
  exact ((OE.rfl.up ⟨by omega, by omega⟩).up ⟨by omega, by omega⟩).up ⟨by decide, by decide⟩
theorem OE_j8 {m : Int → Int} {w : Int} (w0 : 0 ≤ w) (w1 : w < 64) (hm : m (128 + w) = 8) : OE m (jn8 m w) := by
  unfold jn8
  split
  · exact OE_js w0 w1 (Or.inr rfl) hm
  · exact OE.rfl
theorem OE_jn {m : Int → Int} {w : Int} (w0 : 0 ≤ w) (w1 : w < 64) : OE m (jnM m w) := by
  unfold jnM
  split
  · rename_i e
    have g := lw_rg w0 w1 (Or.inl rfl) e
    unfold jn4
    split
    · exact (OE_js w0 w1 (Or.inl rfl) e).tr (OE_j8 (by omega) (by omega) (js_lw w0 w1 (Or.inl rfl) e))
    · exact OE.rfl
  · split
    · rename_i e
      exact OE_j8 w0 w1 e
    · exact OE.rfl
theorem OE_fr {m : Int → Int} {b : Int} (b0 : 0 ≤ b) (b1 : b < 64) (hb : b + m (128 + b) ≤ 64) : OE m (frM m b) := by
  have h : OE m (fr0M m b) := fun k a => fr0_k (by omega) (by omega) (by omega)
  exact h.tr (OE_jn b0 b1)
theorem OE_sw : ∀ (n : Nat) (w K : Int) (m : Int → Int), MW K m → K + 19 * n ≤ 500000000 → 0 ≤ w → w + n = 64 → OE m (swM n w m)
  | 0, _, _, _ => fun _ _ _ _ => OE.rfl
  | n + 1, w, K, m => fun hW hK w0 w1 => by
    by_cases hl : lkM m w
    · rw [swM_y hl]
      exact (OE_fr w0 (by omega) ((hW.1 w w0 (by omega)).2.2.2.2.2.2.2)).tr (OE_sw n (w + 1) (K + 19) _ (MW_fr hW (by omega) w0 (by omega)) (by omega) (by omega) (by omega))
    · rw [swM_n hl]
      exact OE_sw n (w + 1) K m hW (by omega) (by omega) (by omega)
abbrev erF (r : Int) : Int := if r < 0 ∧ r ≠ -5 then r else 0
theorem step_a {K : Int} {F : Int → Int → Int} {m : Int → Int} (hR : RI K F m) (hU : UO m) (hK : K + 2000 ≤ 500000000) (t w : Int) : ∃ r F' m', (∀ o, vk 226 o 1 → F o 0 = 97 → F o 1 = t → F o 2 = w → MetC mi_Poo_answerTo [vR 0, vR o] (st F) (some (vI r)) (st F')) ∧ Fr F F' ∧ RI (K + 304) F' m' ∧ UO m' ∧ OE m m' ∧ (∀ ν, ν 219 13 = 97 → ν 219 14 = t → ν 219 15 = w → MetC mi_Mod_does [vR 219] (st (setO ν 220 m)) (some (vI (erF r))) (st (setO ν 220 m'))) := by
  have hc := askFM_c m t w
  have cF : ∀ ν, MetC mi_Mod_askFault [vR 219, vI t, vI w] (st (setO ν 220 m)) (some (vI (askFM m t w))) (st (setO ν 220 m)) := fun ν => by
    have c := c_Mod_askFault (μ := setO ν 220 m) (t := t) (words := w) (by rw [setO_at]; exact hR.2.1)
    rw [setO_at] at c
    exact c
  by_cases q : askFM m t w = 0
  · have hroom := why_room (wr_room q).1
    obtain ⟨r1, r2, r3, r4, -⟩ := room_rg hR.2.1 (szM_rg w) hroom
    have hne : lowF m (hvM m (szM w)) ≠ -5 := by omega
    obtain ⟨i, hi, i0, i1⟩ := lowF_4 hR.2.2 hne
    have hi' : askW m w = 4 * i := hi
    have hg := hR.2.1.2.2.2.2.2.2.2.1
    refine ⟨m 471, _, _, fun o hv h0 h1 h2 => c_Poo_answerTo_a hv h0 rfl (by rw [h1, h2]; exact c_Sta_grant_o hR q hi'), Fr_ask hR q hi', (RI_ask hR (by omega) q hi').mono (by omega) (by omega), UO_ask hR.2.1 hU q, OE_ask hR.2.1 q, fun ν h0 h1 h2 => ?_⟩
    rw [show erF (m 471) = 0 from if_neg (by omega)]
    have hg3 := (wr_room q).2
    exact c_Mod_does_a_o (μ := setO ν 220 m) (r := askFM m t w) (by rw [so_219]; exact h0) rfl (by rw [so_219, h1, h2]; exact cF ν) (by rw [q]; decide) (by rw [so_219, h1, h2]; exact c_Mod_asks hR.2.1 (wr_room q).1 (by omega))
  · have q2 : askFM m t w < 0 ∧ askFM m t w ≠ -5 := by omega
    refine ⟨askFM m t w, F, m, fun o hv h0 h1 h2 => c_Poo_answerTo_a hv h0 rfl (by rw [h1, h2]; exact c_Sta_grant_e hR q), Fr.rfl, hR.mono (by omega) (by omega), hU, OE.rfl, fun ν h0 h1 h2 => ?_⟩
    rw [show erF (askFM m t w) = askFM m t w from if_pos q2]
    exact c_Mod_does_a_e (μ := setO ν 220 m) (v := 0) (F := F) (by rw [so_219]; exact h0) rfl (by rw [so_219, h1, h2]; exact cF ν) q2.1
theorem step_b {K : Int} {F : Int → Int → Int} {m : Int → Int} (hR : RI K F m) (hU : UO m) (hK : K + 2000 ≤ 500000000) (t b : Int) : ∃ r F' m', (∀ o, vk 226 o 1 → F o 0 = 102 → F o 1 = t → F o 2 = b → MetC mi_Poo_answerTo [vR 0, vR o] (st F) (some (vI r)) (st F')) ∧ Fr F F' ∧ RI (K + 304) F' m' ∧ UO m' ∧ OE m m' ∧ (∀ ν, ν 219 13 = 102 → ν 219 14 = t → ν 219 15 = b → MetC mi_Mod_does [vR 219] (st (setO ν 220 m)) (some (vI (erF r))) (st (setO ν 220 m'))) := by
  have hc := bkFM_c m t b
  have cF : ∀ ν, MetC mi_Mod_backFault [vR 219, vI t, vI b] (st (setO ν 220 m)) (some (vI (bkFM m t b))) (st (setO ν 220 m)) := fun ν => by
    have c := c_Mod_backFault (μ := setO ν 220 m) (t := t) (b := b)
    rw [setO_at] at c
    exact c
  by_cases q : bkFM m t b = 0
  · have hb : begOf m b ≠ -5 := by omega
    obtain ⟨j, hj, j0, j1, ho, hn⟩ := begOf_4 hR.2.2 hb
    have hk0 := brkM_rg hR.2.1 (b := 4 * j) (by omega) (by omega)
    have h64 := (hR.2.1.1 (4 * j) (by omega) (by omega)).2.2.2.2.2.2.2
    have ho1 : m (128 + 4 * j) ≠ 0 := by
      have := ho.1
      omega
    refine ⟨brkM m (4 * j), _, _, fun o hv h0 h1 h2 => c_Poo_answerTo_b hv h0 rfl (by rw [h1, h2]; exact c_Sta_takeBack_o hR (by omega) q hj j0 j1 ho), Fr_frC j0 j1, (RI_fr hR (by omega) j0 j1 ho).mono (by omega) (by omega), UO_fr hU (by omega) (by omega) h64, OE_fr (by omega) (by omega) h64, fun ν h0 h1 h2 => ?_⟩
    rw [show erF (brkM m (4 * j)) = 0 from if_neg (by omega)]
    exact c_Mod_does_b_o (μ := setO ν 220 m) (r := bkFM m t b) (b := 4 * j) (by rw [so_219]; exact h0) rfl (by rw [so_219, h1, h2]; exact cF ν) (by rw [q]; decide) (by rw [so_219, h2, ← hj]; exact begOf_so) (c_Mod_frees hR.2.1 (by omega) (by omega) ho1)
  · have q2 : bkFM m t b < 0 ∧ bkFM m t b ≠ -5 := by omega
    refine ⟨bkFM m t b, F, m, fun o hv h0 h1 h2 => c_Poo_answerTo_b hv h0 rfl (by rw [h1, h2]; exact c_Sta_takeBack_e hR q), Fr.rfl, hR.mono (by omega) (by omega), hU, OE.rfl, fun ν h0 h1 h2 => ?_⟩
    rw [show erF (bkFM m t b) = bkFM m t b from if_pos q2]
    exact c_Mod_does_b_e (μ := setO ν 220 m) (v := 0) (F := F) (by rw [so_219]; exact h0) rfl (by rw [so_219, h1, h2]; exact cF ν) q2.1
theorem step_t {K : Int} {F : Int → Int → Int} {m : Int → Int} (hR : RI K F m) (hU : UO m) (hK : K + 2000 ≤ 500000000) (t : Int) : ∃ r F' m', (∀ o, vk 226 o 1 → F o 0 = 116 → F o 1 = t → MetC mi_Poo_answerTo [vR 0, vR o] (st F) (some (vI r)) (st F')) ∧ Fr F F' ∧ RI (K + 304) F' m' ∧ UO m' ∧ OE m m' ∧ (∀ ν, ν 219 13 = 116 → ν 219 14 = t → MetC mi_Mod_does [vR 219] (st (setO ν 220 m)) (some (vI (erF r))) (st (setO ν 220 m'))) := by
  have hc := psFM_c m t
  have cF : ∀ ν, MetC mi_Mod_passFault [vR 219, vI t] (st (setO ν 220 m)) (some (vI (psFM m t))) (st (setO ν 220 m)) := fun ν => by
    have c := c_Mod_passFault (μ := setO ν 220 m) (ticks := t) (by rw [setO_at]; exact hR.2.1)
    rw [setO_at] at c
    exact c
  by_cases q : psFM m t = 0
  · have hc0 := hR.2.1.2.2.1
    have hu' : lksM m 6 ≤ lksM (psM m t) 6 := lks_up (v := m 466 + t) hR.2.1 (by omega)
    refine ⟨lksM (psM m t) 6 - lksM m 6, _, psM m t, fun o hv h0 h1 => c_Poo_answerTo_t hv h0 rfl (by rw [h1]; exact c_Sta_advance_o hR q), Fr.rfl.up (by decide) (by decide), (RI_clock hR ⟨by omega, by omega⟩).mono (by omega) (by omega), UO_clock hU (by omega), OE.rfl.up ⟨by decide, by decide⟩, fun ν h0 h1 => ?_⟩
    rw [show erF (lksM (psM m t) 6 - lksM m 6) = 0 from if_neg (by omega)]
    exact c_Mod_does_t_o (μ := setO ν 220 m) (r := psFM m t) (by rw [so_219]; exact h0) rfl (by rw [so_219, h1]; exact cF ν) (by rw [q]; decide) (by rw [so_219, h1]; exact c_Mod_passes hR.2.1 (by omega) (by omega))
  · have q2 : psFM m t < 0 ∧ psFM m t ≠ -5 := by omega
    refine ⟨psFM m t, F, m, fun o hv h0 h1 => c_Poo_answerTo_t hv h0 rfl (by rw [h1]; exact c_Sta_advance_e hR q2.1), Fr.rfl, hR.mono (by omega) (by omega), hU, OE.rfl, fun ν h0 h1 => ?_⟩
    rw [show erF (psFM m t) = psFM m t from if_pos q2]
    exact c_Mod_does_t_e (μ := setO ν 220 m) (v := 0) (F := F) (by rw [so_219]; exact h0) rfl (by rw [so_219, h1]; exact cF ν) q2.1
theorem step_e {K : Int} {F : Int → Int → Int} {m : Int → Int} (hR : RI K F m) (hU : UO m) (hK : K + 2000 ≤ 500000000) {t : Int} (ht : 0 ≤ t ∧ t ≤ 5) : ∃ r F' m', (∀ o, vk 226 o 1 → F o 0 = 101 → F o 1 = t → MetC mi_Poo_answerTo [vR 0, vR o] (st F) (some (vI r)) (st F')) ∧ Fr F F' ∧ RI (K + 304) F' m' ∧ UO m' ∧ OE m m' ∧ (∀ ν, ν 219 13 = 101 → ν 219 14 = t → MetC mi_Mod_does [vR 219] (st (setO ν 220 m)) (some (vI (erF r))) (st (setO ν 220 m'))) := by
  have hb := (hR.2.1.2.1 t (by omega) (by omega)).1
  by_cases q : m (448 + t) = 0
  · have hs : 0 ≤ blksM (up1 m (448 + t) (1 - 0)) t := (sum1_bd (fun w => owd (up1 m (448 + t) (1 - 0)) w ∧ (up1 m (448 + t) (1 - 0)) (256 + w) = t)).1
    refine ⟨blksM (up1 m (448 + t) (1 - 0)) t, _, up1 m (448 + t) 1, fun o hv h0 h1 => c_Poo_answerTo_e hv h0 rfl (by rw [h1]; exact c_Sta_makeAlive_o hR (Or.inl rfl) ht q), Fr.rfl.up (by omega) (by omega), (RI_live hR (t := t) (v := 0) (v' := 1) ht.1 (by omega) ⟨by decide, by decide⟩ (by decide)).mono (by omega) (by omega), UO_up hU (by omega), OE.rfl.up ⟨by omega, by omega⟩, fun ν h0 h1 => ?_⟩
    rw [show erF (blksM (up1 m (448 + t) (1 - 0)) t) = 0 from if_neg (by omega)]
    exact c_Mod_does_e (μ := setO ν 220 m) (r := 0) (by rw [so_219]; exact h0) rfl (by rw [so_219, h1]; exact ht) (by rw [so_219, h1]; exact c_Mod_puts (by omega) (by omega))
  · have e : up1 m (448 + t) 1 = m := by
      have := up1_id (f := m) (a := 448 + t)
      rw [show m (448 + t) = 1 by omega] at this
      exact this
    have cs := c_Sta_makeAlive_e hR (t := t) (a := 0) (Or.inl rfl) (Or.inr (Or.inr ⟨q, rfl⟩))
    rw [if_neg (by omega)] at cs
    refine ⟨-5, F, m, fun o hv h0 h1 => c_Poo_answerTo_e hv h0 rfl (by rw [h1]; exact cs), Fr.rfl, hR.mono (by omega) (by omega), hU, OE.rfl, fun ν h0 h1 => ?_⟩
    rw [show erF (-5) = 0 from if_neg (by decide)]
    have c2 := c_Mod_puts (μ := ν) (m := m) (a := 448 + t) (v := 1) (by omega) (by omega)
    rw [e] at c2
    exact c_Mod_does_e (μ := setO ν 220 m) (r := 0) (by rw [so_219]; exact h0) rfl (by rw [so_219, h1]; exact ht) (by rw [so_219, h1]; exact c2)
theorem step_s {K : Int} {F : Int → Int → Int} {m : Int → Int} (hR : RI K F m) (hU : UO m) (hK : K + 2000 ≤ 500000000) : ∃ r F' m', (∀ o, vk 226 o 1 → F o 0 = 115 → MetC mi_Poo_answerTo [vR 0, vR o] (st F) (some (vI r)) (st F')) ∧ Fr F F' ∧ RI (K + 304) F' m' ∧ UO m' ∧ OE m m' ∧ (∀ ν, ν 219 13 = 115 → MetC mi_Mod_does [vR 219] (st (setO ν 220 m)) (some (vI (erF r))) (st (setO ν 220 m'))) := by
  by_cases q : lksM m 6 = 0
  · refine ⟨-5, F, m, fun o hv h0 => c_Poo_answerTo_s hv h0 rfl (c_Sta_takeLeaksBack_e hR (by omega) q), Fr.rfl, hR.mono (by omega) (by omega), hU, OE.rfl, fun ν h0 => ?_⟩
    rw [show erF (-5) = 0 from if_neg (by decide)]
    have c2 := c_Mod_sweeps (μ := ν) hR.2.1 (by omega)
    rw [(sw_none 64 0 m (fun u a b => lks_no q u a (by omega))).1] at c2
    exact c_Mod_does_s (μ := setO ν 220 m) (r := 0) (by rw [so_219]; exact h0) rfl c2
  · have hS : RI (K + 304) (slC 16 0 F m) (swM 64 0 m) := (RI_sl 16 0 K F m hR (Int.le_refl _) rfl (by omega)).mono (by omega) (by omega)
    refine ⟨swN 64 0 m, _, _, fun o hv h0 => c_Poo_answerTo_s hv h0 rfl (c_Sta_takeLeaksBack_o hR (by omega) q), Fr_slC 16 0 _ _ (Int.le_refl _) rfl, hS, UO_sw 64 0 K m hR.2.1 (by omega) (Int.le_refl _) rfl hU, OE_sw 64 0 K m hR.2.1 (by omega) (Int.le_refl _) rfl, fun ν h0 => ?_⟩
    have hn := swN_0 64 0 m
    rw [show erF (swN 64 0 m) = 0 from if_neg (by omega)]
    exact c_Mod_does_s (μ := setO ν 220 m) (r := 0) (by rw [so_219]; exact h0) rfl (c_Mod_sweeps hR.2.1 (by omega))
theorem nm5_rg {c : Int → Int} {T x : Int} (h : nmF c T 0 5 x = 0) : 0 ≤ nmR c T 0 5 x ∧ nmR c T 0 5 x ≤ 5 := by
  unfold nmF at h
  unfold nmR
  by_cases q : (0 : Int) ≤ dgt c T x ∧ dgt c T x ≤ 5 ∧ ¬ 0 ≤ dgt c T (nmQ c T 0 5 x)
  · rw [if_pos q, (nQ_5 (c := c) (T := T) (hi := 5) (q := x + 1) (z := dgt c T x) (by decide)).2]
    exact ⟨q.1, q.2.1⟩
  · rw [if_neg q] at h
    exact absurd h (by decide)
/-- what a command does to the State now and to the row -/
abbrev StpC (c : Int → Int) (T x K : Int) (F : Int → Int → Int) (m : Int → Int) (r : Int) (F' : Int → Int → Int) (m' : Int → Int) : Prop :=
  (∀ o, vk 226 o 1 → cOK c T x F o → MetC mi_Poo_answerTo [vR 0, vR o] (st F) (some (vI r)) (st F')) ∧ Fr F F' ∧ RI (K + 304) F' m' ∧ UO m' ∧ OE m m' ∧ (∀ ν, rcOK c T x ν → MetC mi_Mod_does [vR 219] (st (setO ν 220 m)) (some (vI (erF r))) (st (setO ν 220 m')))
theorem stepC {c : Int → Int} {T x : Int} (hf : cFl c T x = 0) {K : Int} {F : Int → Int → Int} {m : Int → Int} (hR : RI K F m) (hU : UO m) (hK : K + 2000 ≤ 500000000) : ∃ r F' m', StpC c T x K F m r F' m' := by
  unfold cFl at hf
  by_cases z1 : sgF c T x = 97
  · obtain ⟨r, F', m', a, b1, b2, b3, b4, b5⟩ := step_a hR hU hK (nmR c T 0 5 (x + 1)) (nmR c T 1 14 (nmQ c T 0 5 (x + 1) + 1))
    exact ⟨r, F', m', fun o hv h => a o hv (h.1.trans z1) (h.2.1 z1).1 (h.2.1 z1).2, b1, b2, b3, b4, fun ν h => b5 ν (h.1.trans z1) (h.2.1 z1).1 (h.2.1 z1).2⟩
  · rw [if_neg z1] at hf
    by_cases z2 : sgF c T x = 102
    · obtain ⟨r, F', m', a, b1, b2, b3, b4, b5⟩ := step_b hR hU hK (nmR c T 0 5 (x + 1)) (nmR c T 0 299 (nmQ c T 0 5 (x + 1) + 1))
      exact ⟨r, F', m', fun o hv h => a o hv (h.1.trans z2) (h.2.2.1 z2).1 (h.2.2.1 z2).2, b1, b2, b3, b4, fun ν h => b5 ν (h.1.trans z2) (h.2.2.1 z2).1 (h.2.2.1 z2).2⟩
    · rw [if_neg z2] at hf
      by_cases z3 : sgF c T x = 116
      · obtain ⟨r, F', m', a, b1, b2, b3, b4, b5⟩ := step_t hR hU hK (nmR c T 1 500 (x + 1))
        exact ⟨r, F', m', fun o hv h => a o hv (h.1.trans z3) (h.2.2.2.1 z3), b1, b2, b3, b4, fun ν h => b5 ν (h.1.trans z3) (h.2.2.2.1 z3)⟩
      · rw [if_neg z3] at hf
        by_cases z4 : sgF c T x = 101
        · rw [if_pos z4] at hf
          obtain ⟨r, F', m', a, b1, b2, b3, b4, b5⟩ := step_e hR hU hK (nm5_rg hf)
          exact ⟨r, F', m', fun o hv h => a o hv (h.1.trans z4) (h.2.2.2.2 z4), b1, b2, b3, b4, fun ν h => b5 ν (h.1.trans z4) (h.2.2.2.2 z4)⟩
        · rw [if_neg z4] at hf
          by_cases z5 : sgF c T x = 115
          · obtain ⟨r, F', m', a, b1, b2, b3, b4, b5⟩ := step_s hR hU hK
            exact ⟨r, F', m', fun o hv h => a o hv (h.1.trans z5), b1, b2, b3, b4, fun ν h => b5 ν (h.1.trans z5)⟩
          · rw [if_neg z5] at hf
            exact absurd hf (by decide)

