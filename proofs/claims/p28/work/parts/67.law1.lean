/-! what is told of a block, a word, a task, a size, in the row's words -/
section TO
variable {K : Int} {μ : Int → Int → Int} {m : Int → Int}
theorem c_cnt0 (hR : RI K μ m) : MetC mi_Poo_count [vR 0, vI 0] (st μ) (some (vI (owsM m))) (st μ) := (c_Poo_count hR).eqr rfl
theorem c_cnt1 (hR : RI K μ m) : MetC mi_Poo_count [vR 0, vI 1] (st μ) (some (vI (frwM m))) (st μ) := (c_Poo_count hR).eqr (by
  rw [if_neg (by decide), if_neg (by decide)]
  unfold cntC
  rw [if_neg (by decide), if_pos rfl])
theorem c_cnt2 (hR : RI K μ m) : MetC mi_Poo_count [vR 0, vI 2] (st μ) (some (vI (64 - frwM m - askdM m 6))) (st μ) := (c_Poo_count hR).eqr (by
  rw [if_neg (by decide), if_neg (by decide)]
  unfold cntC
  rw [if_neg (by decide), if_neg (by decide), if_pos rfl])
theorem c_cnt3 (hR : RI K μ m) : MetC mi_Poo_count [vR 0, vI 3] (st μ) (some (vI (lksM m 6))) (st μ) := (c_Poo_count hR).eqr (by
  rw [if_neg (by decide), if_neg (by decide)]
  unfold cntC
  rw [if_neg (by decide), if_neg (by decide), if_neg (by decide), if_pos rfl])
theorem c_cnt5 (hR : RI K μ m) : MetC mi_Poo_count [vR 0, vI 5] (st μ) (some (vI (m 468))) (st μ) := (c_Poo_count hR).eqr (by
  rw [if_neg (by decide), if_neg (by decide)]
  unfold cntC
  rw [if_neg (by decide), if_neg (by decide), if_neg (by decide), if_neg (by decide), if_neg (by decide), if_pos rfl])
theorem c_cnt6 (hR : RI K μ m) : MetC mi_Poo_count [vR 0, vI 6] (st μ) (some (vI (m 469))) (st μ) := (c_Poo_count hR).eqr (by
  rw [if_neg (by decide), if_neg (by decide)]
  unfold cntC
  rw [if_neg (by decide), if_neg (by decide), if_neg (by decide), if_neg (by decide), if_neg (by decide), if_neg (by decide), if_pos rfl])
theorem c_cnt8 (hR : RI K μ m) : MetC mi_Poo_count [vR 0, vI 8] (st μ) (some (vI (m 471))) (st μ) := (c_Poo_count hR).eqr (by
  rw [if_neg (by decide), if_neg (by decide)]
  unfold cntC
  rw [if_neg (by decide), if_neg (by decide), if_neg (by decide), if_neg (by decide), if_neg (by decide), if_neg (by decide), if_neg (by decide), if_neg (by decide), if_pos rfl])
theorem c_cnt9 (hR : RI K μ m) : MetC mi_Poo_count [vR 0, vI 9] (st μ) (some (vI (m 467))) (st μ) := (c_Poo_count hR).eqr (by
  rw [if_neg (by decide), if_neg (by decide)]
  unfold cntC
  rw [if_neg (by decide), if_neg (by decide), if_neg (by decide), if_neg (by decide), if_neg (by decide), if_neg (by decide), if_neg (by decide), if_neg (by decide), if_neg (by decide), if_pos rfl])
theorem c_wd0 (hR : RI K μ m) {k : Int} (k0 : 0 ≤ k) (k1 : k < 64) : MetC mi_Poo_word [vR 0, vI k, vI 0] (st μ) (some (vI (m k))) (st μ) := (c_Poo_word hR).eqr (by
  unfold wordS
  rw [if_neg (by omega), if_pos rfl, Int.zero_add])
theorem c_wd1 (hR : RI K μ m) {k w : Int} (k0 : 0 ≤ k) (k1 : k < 64) (hb : bgn m k = w) : MetC mi_Poo_word [vR 0, vI k, vI 1] (st μ) (some (vI (m (192 + w)))) (st μ) := (c_Poo_word hR).eqr (by
  unfold wordS
  rw [if_neg (by omega), if_neg (by decide), if_pos rfl, hb])
theorem c_wd2 (hR : RI K μ m) {k : Int} (k0 : 0 ≤ k) (k1 : k < 64) : MetC mi_Poo_word [vR 0, vI k, vI 2] (st μ) (some (vI (b2 (grdM m k)))) (st μ) := (c_Poo_word hR).eqr (by
  unfold wordS
  rw [if_neg (by omega), if_neg (by decide), if_neg (by decide), if_pos rfl])
theorem c_wd3 (hR : RI K μ m) {k w : Int} (k0 : 0 ≤ k) (k1 : k < 64) (hb : bgn m k = w) : MetC mi_Poo_word [vR 0, vI k, vI 3] (st μ) (some (vI (snM (m (128 + w))))) (st μ) := (c_Poo_word hR).eqr (by
  unfold wordS
  rw [if_neg (by omega), if_neg (by decide), if_neg (by decide), if_neg (by decide), if_pos rfl, hb])
theorem c_bk0 (hR : RI K μ m) {b w : Int} (w0 : 0 ≤ w) (hb : begOf m b = w) : MetC mi_Poo_block [vR 0, vI b, vI 0] (st μ) (some (vI w)) (st μ) := (c_Poo_block hR).eqr (by
  unfold blockS
  rw [hb, if_neg (by omega), if_pos rfl])
theorem c_bk2 (hR : RI K μ m) {b w : Int} (w0 : 0 ≤ w) (hb : begOf m b = w) : MetC mi_Poo_block [vR 0, vI b, vI 2] (st μ) (some (vI (m (256 + w)))) (st μ) := (c_Poo_block hR).eqr (by
  unfold blockS
  rw [hb, if_neg (by omega), if_neg (by decide), if_neg (by decide), if_pos rfl])
theorem c_bk3 (hR : RI K μ m) {b w : Int} (w0 : 0 ≤ w) (hb : begOf m b = w) : MetC mi_Poo_block [vR 0, vI b, vI 3] (st μ) (some (vI (m (320 + w)))) (st μ) := (c_Poo_block hR).eqr (by
  unfold blockS
  rw [hb, if_neg (by omega), if_neg (by decide), if_neg (by decide), if_neg (by decide), if_pos rfl])
theorem c_bk4 (hR : RI K μ m) {b w : Int} (w0 : 0 ≤ w) (hb : begOf m b = w) : MetC mi_Poo_block [vR 0, vI b, vI 4] (st μ) (some (vI (brkM m w))) (st μ) := (c_Poo_block hR).eqr (by
  unfold blockS
  rw [hb, if_neg (by omega), if_neg (by decide), if_neg (by decide), if_neg (by decide), if_neg (by decide), if_pos rfl])
theorem c_bk5 (hR : RI K μ m) {b w : Int} (w0 : 0 ≤ w) (hb : begOf m b = w) : MetC mi_Poo_block [vR 0, vI b, vI 5] (st μ) (some (vI (m 466 - m (384 + w)))) (st μ) := (c_Poo_block hR).eqr (by
  unfold blockS
  rw [hb, if_neg (by omega), if_neg (by decide), if_neg (by decide), if_neg (by decide), if_neg (by decide), if_neg (by decide), if_pos rfl])
theorem c_bk6 (hR : RI K μ m) {b w : Int} (w0 : 0 ≤ w) (hb : begOf m b = w) : MetC mi_Poo_block [vR 0, vI b, vI 6] (st μ) (some (vI (b2 (lkM m w)))) (st μ) := (c_Poo_block hR).eqr (by
  unfold blockS
  rw [hb, if_neg (by omega), if_neg (by decide), if_neg (by decide), if_neg (by decide), if_neg (by decide), if_neg (by decide), if_neg (by decide), if_pos rfl])
theorem c_tk0 (hR : RI K μ m) {t : Int} (t0 : 0 ≤ t) (t1 : t < 6) : MetC mi_Poo_task [vR 0, vI t, vI 0] (st μ) (some (vI (1 - m (448 + t)))) (st μ) := (c_Poo_task hR).eqr (by
  unfold taskS
  rw [if_neg (by omega), if_pos rfl])
theorem c_tk1 (hR : RI K μ m) {t : Int} (t0 : 0 ≤ t) (t1 : t < 6) : MetC mi_Poo_task [vR 0, vI t, vI 1] (st μ) (some (vI (blksM m t))) (st μ) := (c_Poo_task hR).eqr (by
  unfold taskS
  rw [if_neg (by omega), if_neg (by decide), if_pos rfl])
theorem c_tk2 (hR : RI K μ m) {t : Int} (t0 : 0 ≤ t) (t1 : t < 6) : MetC mi_Poo_task [vR 0, vI t, vI 2] (st μ) (some (vI (wdsM m t))) (st μ) := (c_Poo_task hR).eqr (by
  unfold taskS
  rw [if_neg (by omega), if_neg (by decide), if_neg (by decide), if_pos rfl])
theorem c_tk5 (hR : RI K μ m) {t : Int} (t0 : 0 ≤ t) (t1 : t < 6) : MetC mi_Poo_task [vR 0, vI t, vI 5] (st μ) (some (vI (lksM m t))) (st μ) := (c_Poo_task hR).eqr (by
  unfold taskS
  rw [if_neg (by omega), if_neg (by decide), if_neg (by decide), if_neg (by decide), if_neg (by decide), if_neg (by decide), if_pos rfl])
theorem c_gre (hR : RI K μ m) {t : Int} (t0 : 0 ≤ t) (t1 : t < 6) : MetC mi_Poo_greatest [vR 0, vI t] (st μ) (some (vI (grF m t 14))) (st μ) := (c_Poo_greatest hR).eqr (by
  unfold greaS
  rw [if_neg (by omega)])
theorem c_rea (hR : RI K μ m) {t n : Int} (t0 : 0 ≤ t) (t1 : t < 6) (n0 : 1 ≤ n) (n1 : n ≤ 14) : MetC mi_Poo_reason [vR 0, vI t, vI n] (st μ) (some (vI (whyM m t n))) (st μ) := (c_Poo_reason hR).eqr (by
  unfold reasS
  rw [if_neg (by omega), if_neg (by omega)])
theorem c_sz0 (hR : RI K μ m) {z : Int} (z0 : 0 ≤ z) (z1 : z ≤ 2) : MetC mi_Poo_size [vR 0, vI z, vI 0] (st μ) (some (vI (szcM m (p4 z) 0))) (st μ) := (c_Poo_size hR).eqr (by
  unfold sizeS
  rw [if_neg (by omega), if_neg (by decide), if_pos (by decide)])
theorem c_sz1 (hR : RI K μ m) {z : Int} (z0 : 0 ≤ z) (z1 : z ≤ 2) : MetC mi_Poo_size [vR 0, vI z, vI 1] (st μ) (some (vI (szcM m (p4 z) 1))) (st μ) := (c_Poo_size hR).eqr (by
  unfold sizeS
  rw [if_neg (by omega), if_neg (by decide), if_pos (by decide)])
theorem c_sz2 (hR : RI K μ m) {z : Int} (z0 : 0 ≤ z) (z1 : z ≤ 2) : MetC mi_Poo_size [vR 0, vI z, vI 2] (st μ) (some (vI (lowF m (p4 z)))) (st μ) := (c_Poo_size hR).eqr (by
  unfold sizeS
  rw [if_neg (by omega), if_pos rfl])
theorem c_lkn (hR : RI K μ m) {r : Int} (r0 : 0 ≤ r) : MetC mi_Poo_leak [vR 0, vI r] (st μ) (some (vI (if lkF m r = -5 then -5 else m (192 + lkF m r)))) (st μ) := (c_Poo_leak hR).eqr (by
  unfold leakS
  rw [if_neg (by omega)])
theorem c_rfd {r : Int} (r0 : 1 ≤ r) (r1 : r ≤ 3) : MetC mi_Poo_refused [vR 0, vI r] (st μ) (some (vI (μ 218 (r - 1)))) (st μ) := (c_Poo_refused).eqr (by rw [if_pos ⟨r0, r1⟩])
end TO
-- how blocks lie
theorem fstF_q {p : Int → Prop} [DecidablePred p] {w : Int} (hw : p w) : ∀ (n : Nat) (k : Int), k ≤ w → w < k + n → (∀ j, k ≤ j → j < k + n → p j → j = w) → fstF p n k = w
  | 0, _ => fun a b _ => by omega
  | n + 1, k => fun a b h => by
    by_cases e : k = w
    · rw [fstF_y (by rw [e]; exact hw), e]
    · rw [fstF_n (fun q => e (h k (Int.le_refl _) (by omega) q))]
      exact fstF_q hw n (k + 1) (by omega) (by omega) (fun j x y => h j (by omega) (by omega))
/-- a block's number leads to its begin -/
theorem NB.beg {m : Int → Int} (h : NB m) {w : Int} (w0 : 0 ≤ w) (w1 : w < 64) (ho : owd m w) : begOf m (m (192 + w)) = w :=
  fstF_q (p := fun v => owd m v ∧ m (192 + v) = m (192 + w)) ⟨ho, rfl⟩ 64 0 w0 (by omega) (fun j a b q => h.2.2 j w a (by omega) w0 w1 q.1 ho q.2)
theorem bgn_in {K : Int} {m : Int → Int} (hW : MW K m) (hM : ML m) {w k : Int} (w0 : 0 ≤ w) (w1 : w < 64) (h0 : w ≤ k) (h1 : k < w + m (128 + w)) : bgn m k = w ∧ (k ≠ w → m (128 + k) = 0) := by
  have g := hW.1 w w0 w1
  have hb := g.2.2.2.2.2.2.2
  have h4 : w % 4 = 0 := by
    by_cases q : w % 4 = 0
    · exact q
    · have := hM.1 w w0 w1 q
      omega
  obtain ⟨j, ej, j0, j1, a, b, u⟩ := tile hW hM (w := k) (by omega) (by omega)
  have e := u (w / 4) (by omega) (by omega) (by omega) (by rw [show 4 * (w / 4) = w by omega]; exact h1)
  refine ⟨by omega, fun hk => ?_⟩
  by_cases q : m (128 + k) = 0
  · exact q
  · exfalso
    have h4k : k % 4 = 0 := by
      by_cases q2 : k % 4 = 0
      · exact q2
      · exact absurd (hM.1 k (by omega) (by omega) q2) q
    have gk := (hW.1 k (by omega) (by omega)).2.1.1
    have e2 := u (k / 4) (by omega) (by omega) (by omega) (by rw [show 4 * (k / 4) = k by omega]; omega)
    omega
/-- behind a block the next one begins -/
theorem bgn_nx {K : Int} {m : Int → Int} (hW : MW K m) (hM : ML m) {w : Int} (w0 : 0 ≤ w) (w1 : w < 64) (hz : m (128 + w) ≠ 0) (hn : w + m (128 + w) < 64) : m (128 + (w + m (128 + w))) ≠ 0 := by
  have g := hW.1 w w0 w1
  have h4 : w % 4 = 0 := by
    by_cases q : w % 4 = 0
    · exact q
    · exact absurd (hM.1 w w0 w1 q) hz
  obtain ⟨j, ej, j0, j1, a, b, u⟩ := tile hW hM (w := w + m (128 + w)) (by omega) hn
  by_cases e : 4 * j = w + m (128 + w)
  · rw [← e]
    omega
  · exfalso
    have gj := hW.1 (4 * j) (by omega) (by omega)
    obtain ⟨i, ei, i0, i1, c, d, v⟩ := tile hW hM (w := w + m (128 + w) - 1) (by omega) (by omega)
    have e1 := v (w / 4) (by omega) (by omega) (by omega) (by rw [show 4 * (w / 4) = w by omega]; omega)
    have e2 := v j j0 j1 (by omega) (by omega)
    rw [show 4 * j = w by omega] at b
    omega
theorem sn_sz {z : Int} (h : z = 4 ∨ z = 8 ∨ z = 16) : p4 (snM z) = z ∧ 0 ≤ snM z ∧ snM z ≤ 2 := by
  rcases h with rfl | rfl | rfl <;> decide
theorem sumF_sk {f : Int → Int} : ∀ (a n : Nat) (w : Int), (∀ k, w ≤ k → k < w + a → f k = 0) → sumF (a + n) w f = sumF n (w + a) f
  | 0, n, w => fun _ => by rw [Nat.zero_add, show w + ((0 : Nat) : Int) = w by omega]
  | a + 1, n, w => fun h => by
    rw [show a + 1 + n = (a + n) + 1 by omega, sumF_s, h w (Int.le_refl _) (by omega), sumF_sk a n (w + 1) (fun k x y => h k (by omega) (by omega)), show w + ((a + 1 : Nat) : Int) = w + 1 + (a : Int) by omega]
    omega
/-- a sum over a block is what stands at its begin -/
theorem sumF_bk {f : Int → Int} {w z : Int} {n : Nat} (hz : 0 < z) (hn : z ≤ n) (h : ∀ k, w < k → k < w + z → f k = 0) : sumF n w f = f w + sumF (n - z.toNat) (w + z) f := by
  obtain ⟨a, rfl⟩ : ∃ a : Nat, z = (a : Int) + 1 := ⟨(z - 1).toNat, by omega⟩
  obtain ⟨b, rfl⟩ : ∃ b : Nat, n = a + b + 1 := ⟨n - a - 1, by omega⟩
  rw [sumF_s, sumF_sk a b (w + 1) (fun k x y => h k (by omega) (by omega))]
  rw [show a + b + 1 - ((a : Int) + 1).toNat = b by omega, show w + 1 + (a : Int) = w + ((a : Int) + 1) by omega]
