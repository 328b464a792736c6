/-! what the law asks of a row besides: numbers, due sizes, twins, splits -/
theorem sumF_c {f g : Int → Int} : ∀ (n : Nat) (k : Int), (∀ j, k ≤ j → j < k + n → f j = g j) → sumF n k f = sumF n k g
  | 0, _ => fun _ => rfl
  | n + 1, k => fun h => by rw [sumF_s, sumF_s, h k (by omega) (by omega), sumF_c n (k + 1) (fun j a b => h j (by omega) (by omega))]
theorem sumF_1 {f g : Int → Int} {p : Int} : ∀ (n : Nat) (k : Int), k ≤ p → p < k + n → (∀ j, k ≤ j → j < k + n → j ≠ p → f j = g j) → sumF n k f = sumF n k g + (f p - g p)
  | 0, _ => fun a b _ => by omega
  | n + 1, k => fun a b h => by
    rw [sumF_s, sumF_s]
    by_cases e : k = p
    · subst e
      rw [sumF_c n (k + 1) (fun j x y => h j (by omega) (by omega) (by omega))]
      omega
    · rw [h k (by omega) (by omega) e, sumF_1 n (k + 1) (by omega) (by omega) (fun j x y z => h j (by omega) (by omega) z)]
      omega
/-- no value is below 0; an owned block has a number that was granted, and the due size; no two have one number -/
def NB (m : Int → Int) : Prop := (∀ w, 0 ≤ w → w < 64 → 0 ≤ m w) ∧ (∀ w, 0 ≤ w → w < 64 → owd m w → 0 ≤ m (192 + w) ∧ m (192 + w) < m 471 ∧ m (128 + w) = szM (m (320 + w))) ∧ (∀ w v, 0 ≤ w → w < 64 → 0 ≤ v → v < 64 → owd m w → owd m v → m (192 + w) = m (192 + v) → w = v)
abbrev tfr (m : Int → Int) (c z : Int) : Prop := fre m c ∧ m (128 + c) = z ∧ fre m (c + z) ∧ m (128 + (c + z)) = z
/-- twins are both free at b alone, if anywhere -/
def TWb (m : Int → Int) (b : Int) : Prop := ∀ c z, (z = 4 ∨ z = 8) → 0 ≤ c → c + z < 64 → c % (2 * z) = 0 → tfr m c z → c = b ∨ c + z = b
abbrev TW (m : Int → Int) : Prop := TWb m (-1)
def nbM (m : Int → Int) : Int := sumF 64 0 (fun w => if m (128 + w) = 0 then 0 else 1)
def SJ (m : Int → Int) : Prop := m 468 - m 469 = nbM m - 4
def EX (m : Int → Int) : Prop := NB m ∧ TW m ∧ SJ m
theorem TW.no {m : Int → Int} (h : TW m) {c z : Int} (hz : z = 4 ∨ z = 8) (c0 : 0 ≤ c) (c1 : c + z < 64) (hc : c % (2 * z) = 0) : ¬ tfr m c z := fun ht => by
  rcases h c z hz c0 c1 hc ht with q | q <;> omega
theorem TW.b {m : Int → Int} (h : TW m) (b : Int) : TWb m b := fun c z hz c0 c1 hc ht => absurd ht (h.no hz c0 c1 hc)
theorem TW_of {m : Int → Int} {b : Int} (h : TWb m b) (hb : ¬ fre m b ∨ (m (128 + b) ≠ 4 ∧ m (128 + b) ≠ 8)) : TW m := fun c z hz c0 c1 hc ht => by
  rcases h c z hz c0 c1 hc ht with q | q
  · subst q
    rcases hb with x | x
    · exact absurd ht.1 x
    · have := ht.2.1
      omega
  · rw [← q] at hb
    rcases hb with x | x
    · exact absurd ht.2.2.1 x
    · have := ht.2.2.2
      omega
theorem nb_ext {m m' : Int → Int} (e : ∀ u, 0 ≤ u → u < 64 → m' (128 + u) = m (128 + u)) : nbM m' = nbM m := sumF_c 64 0 (fun j a b => by
  rw [e j a (by omega)])
theorem nb_s {m m' : Int → Int} {p q : Int} (q0 : 0 ≤ q) (q1 : q < 64) (e : ∀ u, 0 ≤ u → u < 64 → u ≠ p → u ≠ q → m' (128 + u) = m (128 + u)) (hp : m (128 + p) ≠ 0) (hp' : m' (128 + p) ≠ 0) (hq : m (128 + q) = 0) (hq' : m' (128 + q) ≠ 0) : nbM m' = nbM m + 1 := by
  unfold nbM
  have h := sumF_1 (f := fun w => if m' (128 + w) = 0 then 0 else 1) (g := fun w => if m (128 + w) = 0 then 0 else 1) (p := q) 64 0 q0 (by omega) (fun j a b c => by
    by_cases z : j = p
    · rw [z, if_neg hp, if_neg hp']
    · rw [e j a (by omega) z c])
  rw [h, if_pos hq, if_neg hq']
  rfl
theorem NB_ext {m m' : Int → Int} (h : NB m) (hv : ∀ w, 0 ≤ w → w < 64 → 0 ≤ m' w) (e : ∀ k, (128 ≤ k ∧ k < 256) ∨ (320 ≤ k ∧ k < 384) ∨ k = 471 → m' k = m k) : NB m' := by
  have ho : ∀ u, 0 ≤ u → u < 64 → (owd m' u ↔ owd m u) := fun u u0 u1 => by
    unfold owd
    rw [e _ (by omega), e _ (by omega)]
  refine ⟨hv, fun w w0 w1 a => ?_, fun w v w0 w1 v0 v1 a b q => ?_⟩
  · rw [e _ (by omega), e _ (by omega), e _ (by omega), e _ (by omega)]
    exact h.2.1 w w0 w1 ((ho w w0 w1).mp a)
  · rw [e _ (by omega), e _ (by omega)] at q
    exact h.2.2 w v w0 w1 v0 v1 ((ho w w0 w1).mp a) ((ho v v0 v1).mp b) q
/-- the same sizes, the same free blocks -/
def SHP (f m : Int → Int) : Prop := ∀ u, 0 ≤ u → u < 64 → f (128 + u) = m (128 + u) ∧ (fre f u ↔ fre m u)
theorem TWb_shp {f m : Int → Int} {b : Int} (hs : SHP f m) (h : TWb m b) : TWb f b := fun c z hz c0 c1 hc ht => by
  have a1 := hs c c0 (by omega)
  have a2 := hs (c + z) (by omega) c1
  exact h c z hz c0 c1 hc ⟨a1.2.mp ht.1, a1.1.symm.trans ht.2.1, a2.2.mp ht.2.2.1, a2.1.symm.trans ht.2.2.2⟩
theorem SHP_ext {f m : Int → Int} (e : ∀ k, 128 ≤ k → k < 256 → f k = m k) : SHP f m := fun u u0 u1 => ⟨e _ (by omega) (by omega), by
  unfold fre
  rw [e _ (by omega) (by omega), e _ (by omega) (by omega)]⟩
theorem EX_ext {m m' : Int → Int} (h : EX m) (hv : ∀ w, 0 ≤ w → w < 64 → 0 ≤ m' w) (e : ∀ k, (128 ≤ k ∧ k < 256) ∨ (320 ≤ k ∧ k < 384) ∨ k = 468 ∨ k = 469 ∨ k = 471 → m' k = m k) : EX m' := by
  refine ⟨NB_ext h.1 hv (fun k a => e k (by omega)), TWb_shp (SHP_ext (fun k a b => e k (by omega))) h.2.1, ?_⟩
  unfold SJ
  rw [e 468 (by omega), e 469 (by omega), nb_ext (fun u a b => e _ (by omega))]
  exact h.2.2
theorem EX_hi {m : Int → Int} (h : EX m) {k v : Int} (hk : (64 ≤ k ∧ k < 128) ∨ (256 ≤ k ∧ k < 320) ∨ (384 ≤ k ∧ k ≠ 468 ∧ k ≠ 469 ∧ k ≠ 471)) : EX (up1 m k v) :=
  EX_ext h (fun w a b => by rw [up1_ne (by omega)]; exact h.1.1 w a b) (fun k a => up1_ne (by omega))
theorem EX_val {m : Int → Int} (h : EX m) {w v : Int} (w0 : 0 ≤ w) (w1 : w < 64) (hv : 0 ≤ v) : EX (up1 m (0 + w) v) :=
  EX_ext h (fun u a b => by
    by_cases e : u = w
    · rw [e, Int.zero_add, up1_at]
      exact hv
    · rw [up1_ne (by omega)]
      exact h.1.1 u a b) (fun k a => up1_ne (by omega))
/-- a block begins at a multiple of its size -/
theorem ML.al {K : Int} {m : Int → Int} (hW : MW K m) (hM : ML m) {w : Int} (w0 : 0 ≤ w) (w1 : w < 64) (h : m (128 + w) ≠ 0) : w % m (128 + w) = 0 := by
  have hs := (hW.1 w w0 w1).2.2.2.2.2.2.1
  have h4 : w % 4 = 0 := by
    by_cases q : w % 4 = 0
    · exact q
    · exact absurd (hM.1 w w0 w1 q) h
  have hp := hM.2.1 (w - w % 16) (by omega) (by omega) (by omega)
  obtain ⟨n1, n2, n3, n4, n5, n6, n7, n8⟩ := pat_no hp
  generalize hc : w - w % 16 = c at *
  rw [show 132 + c = 128 + (c + 4) by omega, show 136 + c = 128 + (c + 8) by omega, show 140 + c = 128 + (c + 12) by omega] at *
  have hs' : m (128 + w) = 4 ∨ m (128 + w) = 8 ∨ m (128 + w) = 16 := by omega
  rcases (show w = c ∨ w = c + 4 ∨ w = c + 8 ∨ w = c + 12 by omega) with q | q | q | q
  · rcases hs' with e | e | e <;> rw [e] <;> omega
  · rw [← q] at n4 n5
    have e : m (128 + w) = 4 := by omega
    rw [e]
    omega
  · rw [← q] at n6
    rcases hs' with e | e | e
    · rw [e]; omega
    · rw [e]; omega
    · exact absurd e n6
  · rw [← q] at n7 n8
    have e : m (128 + w) = 4 := by omega
    rw [e]
    omega
-- a block is split
theorem sp_k {m : Int → Int} {w h k : Int} (h1 : k ≠ 128 + w) (h2 : k ≠ 128 + w + h) (h3 : k ≠ 192 + w + h) (h4 : k ≠ 468) : spl1 m w h k = m k := by
  unfold spl1
  rw [up1_ne h4, up1_ne h3, up1_ne h2, up1_ne h1]
theorem sp_w {m : Int → Int} {w h : Int} (w0 : 0 ≤ w) (h0 : 0 < h) (w1 : w + 2 * h ≤ 64) : spl1 m w h (128 + w) = h := by
  unfold spl1
  rw [up1_ne (by omega), up1_ne (by omega), up1_ne (by omega), up1_at]
theorem sp_h {m : Int → Int} {w h : Int} (w0 : 0 ≤ w) (h0 : 0 < h) (w1 : w + 2 * h ≤ 64) : spl1 m w h (128 + (w + h)) = h := by
  unfold spl1
  rw [up1_ne (by omega), up1_ne (by omega), show 128 + (w + h) = 128 + w + h by omega, up1_at]
theorem sp_n {m : Int → Int} {w h : Int} (w0 : 0 ≤ w) (h0 : 0 < h) (w1 : w + 2 * h ≤ 64) : spl1 m w h (192 + (w + h)) = -5 := by
  unfold spl1
  rw [up1_ne (by omega), show 192 + (w + h) = 192 + w + h by omega, up1_at]
theorem sp_o {m : Int → Int} {w h u : Int} (w0 : 0 ≤ w) (h0 : 0 < h) (w1 : w + 2 * h ≤ 64) (hf : fre m w) (u0 : 0 ≤ u) (u1 : u < 64) (ho : owd (spl1 m w h) u) : u ≠ w ∧ u ≠ w + h ∧ owd m u := by
  have a : u ≠ w + h := fun e => by
    subst e
    exact ho.2 (sp_n w0 h0 w1)
  have b : u ≠ w := fun e => by
    subst e
    have := ho.2
    rw [sp_k (by omega) (by omega) (by omega) (by omega)] at this
    exact this hf.2
  refine ⟨b, a, ?_⟩
  have h1 := ho.1
  have h2 := ho.2
  rw [sp_k (by omega) (by omega) (by omega) (by omega)] at h1 h2
  exact ⟨h1, h2⟩
theorem NB_spl {m : Int → Int} {w h : Int} (hn : NB m) (w0 : 0 ≤ w) (h0 : 0 < h) (w1 : w + 2 * h ≤ 64) (hf : fre m w) : NB (spl1 m w h) := by
  refine ⟨fun u u0 u1 => ?_, fun u u0 u1 ho => ?_, fun u v u0 u1 v0 v1 ho hv e => ?_⟩
  · rw [sp_k (by omega) (by omega) (by omega) (by omega)]
    exact hn.1 u u0 u1
  · obtain ⟨a, b, c⟩ := sp_o w0 h0 w1 hf u0 u1 ho
    rw [sp_k (by omega) (by omega) (by omega) (by omega), sp_k (by omega) (by omega) (by omega) (by omega), sp_k (by omega) (by omega) (by omega) (by omega), sp_k (by omega) (by omega) (by omega) (by omega)]
    exact hn.2.1 u u0 u1 c
  · obtain ⟨a, b, c⟩ := sp_o w0 h0 w1 hf u0 u1 ho
    obtain ⟨a', b', c'⟩ := sp_o w0 h0 w1 hf v0 v1 hv
    rw [sp_k (by omega) (by omega) (by omega) (by omega), sp_k (by omega) (by omega) (by omega) (by omega)] at e
    exact hn.2.2 u v u0 u1 v0 v1 c c' e
theorem TWb_spl {m : Int → Int} {w h : Int} (ht : TWb m w) (w0 : 0 ≤ w) (hh : h = 4 ∨ h = 8) (w1 : w + 2 * h ≤ 64) (ha : w % (2 * h) = 0) : TWb (spl1 m w h) w := fun c z hz c0 c1 hc q => by
  by_cases e1 : c = w
  · exact Or.inl e1
  by_cases e2 : c + z = w
  · exact Or.inr e2
  by_cases e3 : c = w + h
  · have := q.2.1
    rw [e3, sp_h w0 (by omega) w1] at this
    rw [e3, ← this] at hc
    exfalso
    rcases hh with rfl | rfl <;> omega
  by_cases e4 : c + z = w + h
  · have := q.2.2.2
    rw [e4, sp_h w0 (by omega) w1] at this
    exact absurd (by omega) e1
  have f : ∀ u, 0 ≤ u → u < 64 → u ≠ w → u ≠ w + h → spl1 m w h (128 + u) = m (128 + u) ∧ spl1 m w h (192 + u) = m (192 + u) := fun u a b c d => ⟨sp_k (by omega) (by omega) (by omega) (by omega), sp_k (by omega) (by omega) (by omega) (by omega)⟩
  have g1 := f c c0 (by omega) e1 e3
  have g2 := f (c + z) (by omega) c1 e2 e4
  obtain ⟨q1, q2, q3, q4⟩ := q
  unfold fre at q1 q3
  rw [g1.1, g1.2] at q1
  rw [g2.1, g2.2] at q3
  rw [g1.1] at q2
  rw [g2.1] at q4
  exact ht c z hz c0 c1 hc ⟨q1, q2, q3, q4⟩
theorem SJ_spl {m : Int → Int} {w h : Int} (hs : SJ m) (w0 : 0 ≤ w) (h0 : 0 < h) (w1 : w + 2 * h ≤ 64) (hm : m (128 + w) ≠ 0) (h2 : m (128 + (w + h)) = 0) : SJ (spl1 m w h) := by
  have a := nb_s (m := m) (m' := spl1 m w h) (p := w) (q := w + h) (by omega) (by omega) (fun u u0 u1 a b => sp_k (by omega) (by omega) (by omega) (by omega)) hm (by rw [sp_w w0 h0 w1]; omega) h2 (by rw [sp_h w0 h0 w1]; omega)
  unfold SJ at hs ⊢
  rw [a, sp_k (show (469 : Int) ≠ 128 + w by omega) (by omega) (by omega) (by omega)]
  have b : spl1 m w h 468 = m 468 + 1 := by
    unfold spl1
    rw [up1_at]
  omega
-- a block is taken
theorem tak_E {K : Int} {m : Int → Int} (hW : MW K m) (hM : ML m) (h : EX m) {z w : Int} (hz : z = 4 ∨ z = 8 ∨ z = 16) (hr : roomM m z) (hw : lowF m (hvM m z) = w) : NB (takM m z) ∧ TWb (takM m z) w ∧ SJ (takM m z) ∧ fre (takM m z) w ∧ takM m z (128 + w) = z := by
  obtain ⟨h1, h2, h3, h4, h5⟩ := room_rg hW hz hr
  rw [hw] at h2 h3 h4 h5
  have hw4 : ∃ i, w = 4 * i ∧ 0 ≤ i ∧ i < 16 := by
    obtain ⟨i, e, i0, i1⟩ := lowF_4 hM (z := hvM m z) (by omega)
    exact ⟨i, by omega, i0, i1⟩
  obtain ⟨i, ei, i0, i1⟩ := hw4
  have hal := ML.al hW hM h2 (by omega) (show m (128 + w) ≠ 0 by have := h4.1; omega)
  have hhalf : ∀ q, (q = 4 ∨ q = 8) → m (128 + w) = 2 * q → m (128 + (w + q)) = 0 := fun q hq e => by
    have := (half_0 hW hM (i := i) (j := i + q / 4) (h := q) ⟨i0, i1⟩ hq (by omega) (by rw [← ei]; exact e)).2.2
    rw [show 4 * (i + q / 4) = w + q by omega] at this
    exact this
  rcases h1 with e | ⟨e, z1⟩ | ⟨e, z1⟩
  · rw [tak_1 e]
    rw [e] at h5
    exact ⟨h.1, TW.b h.2.1 w, h.2.2, h4, h5⟩
  · rw [e] at h3 h5
    have e2 : lowF m (2 * z) = w := by rw [← e]; exact hw
    rw [tak_2 (by omega) e, e2]
    rw [h5] at hal
    refine ⟨NB_spl h.1 h2 (by omega) (by omega) h4, TWb_spl (TW.b h.2.1 w) h2 (by omega) (by omega) hal, SJ_spl h.2.2 h2 (by omega) (by omega) (by omega) (hhalf z (by omega) h5), ⟨by rw [sp_w h2 (by omega) (by omega)]; omega, by rw [sp_k (by omega) (by omega) (by omega) (by omega)]; exact h4.2⟩, sp_w h2 (by omega) (by omega)⟩
  · rw [e] at h3 h5
    have e2 : lowF m (4 * z) = w := by rw [← e]; exact hw
    rw [tak_3 (by omega) e, e2]
    have ez : z = 4 := by omega
    subst ez
    rw [h5] at hal
    have f1 : fre (spl1 m w (2 * 4)) w := ⟨by rw [sp_w h2 (by omega) (by omega)]; omega, by rw [sp_k (by omega) (by omega) (by omega) (by omega)]; exact h4.2⟩
    have hp := hM.2.1 w h2 (by omega) (by omega)
    have hp2 := ((pat_no hp).1 h5).1
    rw [show 132 + w = 128 + (w + 4) by omega] at hp2
    refine ⟨NB_spl (NB_spl h.1 h2 (by omega) (by omega) h4) h2 (by omega) (by omega) f1, TWb_spl (TWb_spl (TW.b h.2.1 w) h2 (by omega) (by omega) (by omega)) h2 (by omega) (by omega) (by omega), SJ_spl (SJ_spl h.2.2 h2 (by omega) (by omega) (by omega) (hhalf 8 (by omega) (by omega))) h2 (by omega) (by omega) ?_ ?_, ⟨by rw [sp_w h2 (by omega) (by omega)]; omega, ?_⟩, sp_w h2 (by omega) (by omega)⟩
    · rw [sp_w h2 (by omega) (by omega)]
      decide
    · rw [sp_k (by omega) (by omega) (by omega) (by omega)]
      exact hp2
    · rw [sp_k (by omega) (by omega) (by omega) (by omega), sp_k (by omega) (by omega) (by omega) (by omega)]
      exact h4.2
theorem tak_v {K : Int} {m : Int → Int} {z k : Int} (hW : MW K m) (hz : z = 4 ∨ z = 8 ∨ z = 16) (hr : roomM m z) (hk : k < 128) : takM m z k = m k := by
  obtain ⟨h1, h2, h3, h4, h5⟩ := room_rg hW hz hr
  rcases h1 with e | ⟨e, z1⟩ | ⟨e, z1⟩
  · rw [tak_1 e]
  · rw [e] at h3 h2
    rw [tak_2 (by omega) e, sp_k (by omega) (by omega) (by omega) (by omega)]
  · rw [e] at h3 h2
    rw [tak_3 (by omega) e, sp_k (by omega) (by omega) (by omega) (by omega), sp_k (by omega) (by omega) (by omega) (by omega)]
/-- and owned -/
theorem EX_ask {K : Int} {m : Int → Int} (hW : MW K m) (hM : ML m) (h : EX m) {t words : Int} (hf : askFM m t words = 0) : EX (askM m t words) := by
  have hr := why_room (wr_room hf).1
  have hs := szM_rg words
  obtain ⟨n, tb, sj, ff, fz⟩ := tak_E hW hM h hs hr (w := askW m words) rfl
  have hh : ∀ k, 256 ≤ k → k ≠ 468 → takM m (szM words) k = m k := fun k a b => takM_hi hW hs hr ⟨a, b⟩
  obtain ⟨r1, h2, h3, -, -⟩ := room_rg hW hs hr
  have h2' : 0 ≤ askW m words := h2
  have h3' : askW m words < 64 := by
    have : askW m words + hvM m (szM words) ≤ 64 := h3
    omega
  have g0 := hW.2.2.2.2.2.2.2.1.1
  have e471 := hh 471 (by decide) (by decide)
  unfold askM
  generalize takM m (szM words) = f at n tb sj ff fz hh e471 ⊢
  generalize askW m words = w at h2' h3' tb ff fz ⊢
  generalize hT : up1 (up1 (up1 (up1 (up1 f (192 + w) (m 471)) (256 + w) t) (320 + w) words) (384 + w) (m 466)) 471 (m 471 + 1) = T
  have T0 : ∀ k, k ≠ 192 + w → k ≠ 256 + w → k ≠ 320 + w → k ≠ 384 + w → k ≠ 471 → T k = f k := fun k a b c d e => by
    rw [← hT, up1_ne e, up1_ne d, up1_ne c, up1_ne b, up1_ne a]
  have T1 : T (192 + w) = m 471 := by rw [← hT, up1_ne (by omega), up1_ne (by omega), up1_ne (by omega), up1_ne (by omega), up1_at]
  have T2 : T (320 + w) = words := by rw [← hT, up1_ne (by omega), up1_ne (by omega), up1_at]
  have T3 : T 471 = m 471 + 1 := by rw [← hT, up1_at]
  have ow : ∀ u, 0 ≤ u → u < 64 → u ≠ w → owd T u → owd f u := fun u u0 u1 a ho => by
    unfold owd at ho
    rw [T0 _ (by omega) (by omega) (by omega) (by omega) (by omega), T0 _ (by omega) (by omega) (by omega) (by omega) (by omega)] at ho
    exact ho
  refine ⟨⟨fun u u0 u1 => ?_, fun u u0 u1 ho => ?_, fun u v u0 u1 v0 v1 ho hv e => ?_⟩, ?_, ?_⟩
  · rw [T0 _ (by omega) (by omega) (by omega) (by omega) (by omega)]
    exact n.1 u u0 u1
  · by_cases e : u = w
    · subst e
      rw [T1, T2, T3, T0 _ (by omega) (by omega) (by omega) (by omega) (by omega), fz]
      exact ⟨g0, by omega, rfl⟩
    · have a := n.2.1 u u0 u1 (ow u u0 u1 e ho)
      rw [T0 (192 + u) (by omega) (by omega) (by omega) (by omega) (by omega), T0 (128 + u) (by omega) (by omega) (by omega) (by omega) (by omega), T0 (320 + u) (by omega) (by omega) (by omega) (by omega) (by omega), T3]
      exact ⟨a.1, by omega, a.2.2⟩
  · by_cases eu : u = w
    · by_cases ev : v = w
      · rw [eu, ev]
      · have a := n.2.1 v v0 v1 (ow v v0 v1 ev hv)
        rw [eu, T1, T0 _ (by omega) (by omega) (by omega) (by omega) (by omega)] at e
        omega
    · by_cases ev : v = w
      · have a := n.2.1 u u0 u1 (ow u u0 u1 eu ho)
        rw [ev, T1, T0 _ (by omega) (by omega) (by omega) (by omega) (by omega)] at e
        omega
      · rw [T0 _ (by omega) (by omega) (by omega) (by omega) (by omega), T0 _ (by omega) (by omega) (by omega) (by omega) (by omega)] at e
        exact n.2.2 u v u0 u1 v0 v1 (ow u u0 u1 eu ho) (ow v v0 v1 ev hv) e
  · refine TW_of (b := w) (fun c z hz c0 c1 hc q => ?_) (Or.inl (fun q => ?_))
    · by_cases e1 : c = w
      · exact Or.inl e1
      by_cases e2 : c + z = w
      · exact Or.inr e2
      obtain ⟨q1, q2, q3, q4⟩ := q
      unfold fre at q1 q3
      rw [T0 _ (by omega) (by omega) (by omega) (by omega) (by omega), T0 _ (by omega) (by omega) (by omega) (by omega) (by omega)] at q1
      rw [T0 _ (by omega) (by omega) (by omega) (by omega) (by omega), T0 _ (by omega) (by omega) (by omega) (by omega) (by omega)] at q3
      rw [T0 _ (by omega) (by omega) (by omega) (by omega) (by omega)] at q2 q4
      exact tb c z hz c0 c1 hc ⟨q1, q2, q3, q4⟩
    · have := q.2
      omega
  · unfold SJ at sj ⊢
    rw [nb_ext (m := f) (fun u u0 u1 => T0 _ (by omega) (by omega) (by omega) (by omega) (by omega)), T0 468 (by omega) (by omega) (by omega) (by omega) (by omega), T0 469 (by omega) (by omega) (by omega) (by omega) (by omega)]
    exact sj
